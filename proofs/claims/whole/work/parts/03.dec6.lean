theorem dX6_init_0 : decode cX6_init 0 = .ok (.aload_n 0, 1) := by decide +kernel
theorem dX6_init_1 : decode cX6_init 1 = .ok (.invokespecial 1, 3) := by decide +kernel
theorem dX6_init_4 : decode cX6_init 4 = .ok (.aload_n 0, 1) := by decide +kernel
theorem dX6_init_5 : decode cX6_init 5 = .ok (.iconst 4, 1) := by decide +kernel
theorem dX6_init_6 : decode cX6_init 6 = .ok (.newarray .int, 2) := by decide +kernel
theorem dX6_init_8 : decode cX6_init 8 = .ok (.dup, 1) := by decide +kernel
theorem dX6_init_9 : decode cX6_init 9 = .ok (.iconst 0, 1) := by decide +kernel
theorem dX6_init_10 : decode cX6_init 10 = .ok (.bipush (-9), 2) := by decide +kernel
theorem dX6_init_12 : decode cX6_init 12 = .ok (.iastore, 1) := by decide +kernel
theorem dX6_init_13 : decode cX6_init 13 = .ok (.dup, 1) := by decide +kernel
theorem dX6_init_14 : decode cX6_init 14 = .ok (.iconst 1, 1) := by decide +kernel
theorem dX6_init_15 : decode cX6_init 15 = .ok (.bipush (-9), 2) := by decide +kernel
theorem dX6_init_17 : decode cX6_init 17 = .ok (.iastore, 1) := by decide +kernel
theorem dX6_init_18 : decode cX6_init 18 = .ok (.dup, 1) := by decide +kernel
theorem dX6_init_19 : decode cX6_init 19 = .ok (.iconst 2, 1) := by decide +kernel
theorem dX6_init_20 : decode cX6_init 20 = .ok (.bipush (-9), 2) := by decide +kernel
theorem dX6_init_22 : decode cX6_init 22 = .ok (.iastore, 1) := by decide +kernel
theorem dX6_init_23 : decode cX6_init 23 = .ok (.dup, 1) := by decide +kernel
theorem dX6_init_24 : decode cX6_init 24 = .ok (.iconst 3, 1) := by decide +kernel
theorem dX6_init_25 : decode cX6_init 25 = .ok (.bipush (-9), 2) := by decide +kernel
theorem dX6_init_27 : decode cX6_init 27 = .ok (.iastore, 1) := by decide +kernel
theorem dX6_init_28 : decode cX6_init 28 = .ok (.putfield 9, 3) := by decide +kernel
theorem dX6_init_31 : decode cX6_init 31 = .ok (.aload_n 0, 1) := by decide +kernel
theorem dX6_init_32 : decode cX6_init 32 = .ok (.iconst 4, 1) := by decide +kernel
theorem dX6_init_33 : decode cX6_init 33 = .ok (.newarray .int, 2) := by decide +kernel
theorem dX6_init_35 : decode cX6_init 35 = .ok (.putfield 13, 3) := by decide +kernel
theorem dX6_init_38 : decode cX6_init 38 = .ok (.aload_n 0, 1) := by decide +kernel
theorem dX6_init_39 : decode cX6_init 39 = .ok (.sipush 240, 3) := by decide +kernel
theorem dX6_init_42 : decode cX6_init 42 = .ok (.newarray .int, 2) := by decide +kernel
theorem dX6_init_44 : decode cX6_init 44 = .ok (.putfield 16, 3) := by decide +kernel
theorem dX6_init_47 : decode cX6_init 47 = .ok (.aload_n 0, 1) := by decide +kernel
theorem dX6_init_48 : decode cX6_init 48 = .ok (.bipush (-9), 2) := by decide +kernel
theorem dX6_init_50 : decode cX6_init 50 = .ok (.putfield 19, 3) := by decide +kernel
theorem dX6_init_53 : decode cX6_init 53 = .ok (.aload_n 0, 1) := by decide +kernel
theorem dX6_init_54 : decode cX6_init 54 = .ok (.iconst 3, 1) := by decide +kernel
theorem dX6_init_55 : decode cX6_init 55 = .ok (.newarray .int, 2) := by decide +kernel
theorem dX6_init_57 : decode cX6_init 57 = .ok (.putfield 23, 3) := by decide +kernel
theorem dX6_init_60 : decode cX6_init 60 = .ok (.aload_n 0, 1) := by decide +kernel
theorem dX6_init_61 : decode cX6_init 61 = .ok (.iconst 3, 1) := by decide +kernel
theorem dX6_init_62 : decode cX6_init 62 = .ok (.newarray .int, 2) := by decide +kernel
theorem dX6_init_64 : decode cX6_init 64 = .ok (.putfield 26, 3) := by decide +kernel
theorem dX6_init_67 : decode cX6_init 67 = .ok (.aload_n 0, 1) := by decide +kernel
theorem dX6_init_68 : decode cX6_init 68 = .ok (.iconst 3, 1) := by decide +kernel
theorem dX6_init_69 : decode cX6_init 69 = .ok (.newarray .boolean, 2) := by decide +kernel
theorem dX6_init_71 : decode cX6_init 71 = .ok (.putfield 29, 3) := by decide +kernel
theorem dX6_init_74 : decode cX6_init 74 = .ok (.aload_n 0, 1) := by decide +kernel
theorem dX6_init_75 : decode cX6_init 75 = .ok (.iconst 4, 1) := by decide +kernel
theorem dX6_init_76 : decode cX6_init 76 = .ok (.newarray .int, 2) := by decide +kernel
theorem dX6_init_78 : decode cX6_init 78 = .ok (.putfield 33, 3) := by decide +kernel
theorem dX6_init_81 : decode cX6_init 81 = .ok (.aload_n 0, 1) := by decide +kernel
theorem dX6_init_82 : decode cX6_init 82 = .ok (.iconst 4, 1) := by decide +kernel
theorem dX6_init_83 : decode cX6_init 83 = .ok (.newarray .int, 2) := by decide +kernel
theorem dX6_init_85 : decode cX6_init 85 = .ok (.putfield 36, 3) := by decide +kernel
theorem dX6_init_88 : decode cX6_init 88 = .ok (.aload_n 0, 1) := by decide +kernel
theorem dX6_init_89 : decode cX6_init 89 = .ok (.bipush (-9), 2) := by decide +kernel
theorem dX6_init_91 : decode cX6_init 91 = .ok (.putfield 39, 3) := by decide +kernel
theorem dX6_init_94 : decode cX6_init 94 = .ok (.aload_n 0, 1) := by decide +kernel
theorem dX6_init_95 : decode cX6_init 95 = .ok (.bipush 6, 2) := by decide +kernel
theorem dX6_init_97 : decode cX6_init 97 = .ok (.newarray .int, 2) := by decide +kernel
theorem dX6_init_99 : decode cX6_init 99 = .ok (.putfield 42, 3) := by decide +kernel
theorem dX6_init_102 : decode cX6_init 102 = .ok (.aload_n 0, 1) := by decide +kernel
theorem dX6_init_103 : decode cX6_init 103 = .ok (.bipush 8, 2) := by decide +kernel
theorem dX6_init_105 : decode cX6_init 105 = .ok (.newarray .int, 2) := by decide +kernel
theorem dX6_init_107 : decode cX6_init 107 = .ok (.putfield 45, 3) := by decide +kernel
theorem dX6_init_110 : decode cX6_init 110 = .ok (.aload_n 0, 1) := by decide +kernel
theorem dX6_init_111 : decode cX6_init 111 = .ok (.bipush 18, 2) := by decide +kernel
theorem dX6_init_113 : decode cX6_init 113 = .ok (.newarray .int, 2) := by decide +kernel
theorem dX6_init_115 : decode cX6_init 115 = .ok (.putfield 48, 3) := by decide +kernel
theorem dX6_init_118 : decode cX6_init 118 = .ok (.aload_n 0, 1) := by decide +kernel
theorem dX6_init_119 : decode cX6_init 119 = .ok (.bipush 18, 2) := by decide +kernel
theorem dX6_init_121 : decode cX6_init 121 = .ok (.newarray .int, 2) := by decide +kernel
theorem dX6_init_123 : decode cX6_init 123 = .ok (.putfield 51, 3) := by decide +kernel
theorem dX6_init_126 : decode cX6_init 126 = .ok (.aload_n 0, 1) := by decide +kernel
theorem dX6_init_127 : decode cX6_init 127 = .ok (.bipush 18, 2) := by decide +kernel
theorem dX6_init_129 : decode cX6_init 129 = .ok (.newarray .int, 2) := by decide +kernel
theorem dX6_init_131 : decode cX6_init 131 = .ok (.putfield 54, 3) := by decide +kernel
theorem dX6_init_134 : decode cX6_init 134 = .ok (.aload_n 0, 1) := by decide +kernel
theorem dX6_init_135 : decode cX6_init 135 = .ok (.bipush 18, 2) := by decide +kernel
theorem dX6_init_137 : decode cX6_init 137 = .ok (.newarray .int, 2) := by decide +kernel
theorem dX6_init_139 : decode cX6_init 139 = .ok (.putfield 57, 3) := by decide +kernel
theorem dX6_init_142 : decode cX6_init 142 = .ok (.aload_n 0, 1) := by decide +kernel
theorem dX6_init_143 : decode cX6_init 143 = .ok (.sipush 1024, 3) := by decide +kernel
theorem dX6_init_146 : decode cX6_init 146 = .ok (.newarray .int, 2) := by decide +kernel
theorem dX6_init_148 : decode cX6_init 148 = .ok (.putfield 60, 3) := by decide +kernel
theorem dX6_init_151 : decode cX6_init 151 = .ok (.aload_n 0, 1) := by decide +kernel
theorem dX6_init_152 : decode cX6_init 152 = .ok (.sipush 1024, 3) := by decide +kernel
theorem dX6_init_155 : decode cX6_init 155 = .ok (.newarray .int, 2) := by decide +kernel
theorem dX6_init_157 : decode cX6_init 157 = .ok (.putfield 63, 3) := by decide +kernel
theorem dX6_init_160 : decode cX6_init 160 = .ok (.aload_n 0, 1) := by decide +kernel
theorem dX6_init_161 : decode cX6_init 161 = .ok (.bipush 8, 2) := by decide +kernel
theorem dX6_init_163 : decode cX6_init 163 = .ok (.newarray .int, 2) := by decide +kernel
theorem dX6_init_165 : decode cX6_init 165 = .ok (.putfield 66, 3) := by decide +kernel
theorem dX6_init_168 : decode cX6_init 168 = .ok (.aload_n 0, 1) := by decide +kernel
theorem dX6_init_169 : decode cX6_init 169 = .ok (.bipush 8, 2) := by decide +kernel
theorem dX6_init_171 : decode cX6_init 171 = .ok (.newarray .int, 2) := by decide +kernel
theorem dX6_init_173 : decode cX6_init 173 = .ok (.putfield 69, 3) := by decide +kernel
theorem dX6_init_176 : decode cX6_init 176 = .ok (.aload_n 0, 1) := by decide +kernel
theorem dX6_init_177 : decode cX6_init 177 = .ok (.bipush 8, 2) := by decide +kernel
theorem dX6_init_179 : decode cX6_init 179 = .ok (.newarray .int, 2) := by decide +kernel
theorem dX6_init_181 : decode cX6_init 181 = .ok (.putfield 72, 3) := by decide +kernel
theorem dX6_init_184 : decode cX6_init 184 = .ok (.return_, 1) := by decide +kernel
theorem dX6_fails_0 : decode cX6_fails 0 = .ok (.aload_n 0, 1) := by decide +kernel
theorem dX6_fails_1 : decode cX6_fails 1 = .ok (.iload_n 1, 1) := by decide +kernel
theorem dX6_fails_2 : decode cX6_fails 2 = .ok (.putfield 75, 3) := by decide +kernel
theorem dX6_fails_5 : decode cX6_fails 5 = .ok (.bipush (-10), 2) := by decide +kernel
theorem dX6_fails_7 : decode cX6_fails 7 = .ok (.iload_n 1, 1) := by decide +kernel
theorem dX6_fails_8 : decode cX6_fails 8 = .ok (.isub, 1) := by decide +kernel
theorem dX6_fails_9 : decode cX6_fails 9 = .ok (.ireturn, 1) := by decide +kernel
theorem dX6_lost_0 : decode cX6_lost 0 = .ok (.aload_n 0, 1) := by decide +kernel
theorem dX6_lost_1 : decode cX6_lost 1 = .ok (.iload_n 1, 1) := by decide +kernel
theorem dX6_lost_2 : decode cX6_lost 2 = .ok (.putfield 75, 3) := by decide +kernel
theorem dX6_lost_5 : decode cX6_lost 5 = .ok (.ldc2_w 78, 3) := by decide +kernel
theorem dX6_lost_8 : decode cX6_lost 8 = .ok (.lreturn, 1) := by decide +kernel
theorem dX6_within_0 : decode cX6_within 0 = .ok (.iload_n 0, 1) := by decide +kernel
theorem dX6_within_1 : decode cX6_within 1 = .ok (.iload_n 1, 1) := by decide +kernel
theorem dX6_within_2 : decode cX6_within 2 = .ok (.if_icmp .lt 12, 3) := by decide +kernel
theorem dX6_within_5 : decode cX6_within 5 = .ok (.iload_n 0, 1) := by decide +kernel
theorem dX6_within_6 : decode cX6_within 6 = .ok (.iload_n 2, 1) := by decide +kernel
theorem dX6_within_7 : decode cX6_within 7 = .ok (.if_icmp .gt 7, 3) := by decide +kernel
theorem dX6_within_10 : decode cX6_within 10 = .ok (.iconst 1, 1) := by decide +kernel
theorem dX6_within_11 : decode cX6_within 11 = .ok (.goto 4, 3) := by decide +kernel
theorem dX6_within_14 : decode cX6_within 14 = .ok (.iconst 0, 1) := by decide +kernel
theorem dX6_within_15 : decode cX6_within 15 = .ok (.ireturn, 1) := by decide +kernel
theorem dX6_isSheet_0 : decode cX6_isSheet 0 = .ok (.iload_n 0, 1) := by decide +kernel
theorem dX6_isSheet_1 : decode cX6_isSheet 1 = .ok (.iconst 0, 1) := by decide +kernel
theorem dX6_isSheet_2 : decode cX6_isSheet 2 = .ok (.iconst 3, 1) := by decide +kernel
theorem dX6_isSheet_3 : decode cX6_isSheet 3 = .ok (.invokestatic 80, 3) := by decide +kernel
theorem dX6_isSheet_6 : decode cX6_isSheet 6 = .ok (.ireturn, 1) := by decide +kernel
theorem dX6_isSort_0 : decode cX6_isSort 0 = .ok (.iload_n 0, 1) := by decide +kernel
theorem dX6_isSort_1 : decode cX6_isSort 1 = .ok (.iconst 0, 1) := by decide +kernel
theorem dX6_isSort_2 : decode cX6_isSort 2 = .ok (.iconst 2, 1) := by decide +kernel
theorem dX6_isSort_3 : decode cX6_isSort 3 = .ok (.invokestatic 80, 3) := by decide +kernel
theorem dX6_isSort_6 : decode cX6_isSort 6 = .ok (.ireturn, 1) := by decide +kernel
theorem dX6_against_0 : decode cX6_against 0 = .ok (.aload_n 0, 1) := by decide +kernel
theorem dX6_against_1 : decode cX6_against 1 = .ok (.getfield 9, 3) := by decide +kernel
theorem dX6_against_4 : decode cX6_against 4 = .ok (.iload_n 1, 1) := by decide +kernel
theorem dX6_against_5 : decode cX6_against 5 = .ok (.iaload, 1) := by decide +kernel
theorem dX6_against_6 : decode cX6_against 6 = .ok (.bipush (-9), 2) := by decide +kernel
theorem dX6_against_8 : decode cX6_against 8 = .ok (.if_icmp .eq 15, 3) := by decide +kernel
theorem dX6_against_11 : decode cX6_against 11 = .ok (.aload_n 0, 1) := by decide +kernel
theorem dX6_against_12 : decode cX6_against 12 = .ok (.getfield 9, 3) := by decide +kernel
theorem dX6_against_15 : decode cX6_against 15 = .ok (.iload_n 1, 1) := by decide +kernel
theorem dX6_against_16 : decode cX6_against 16 = .ok (.iaload, 1) := by decide +kernel
theorem dX6_against_17 : decode cX6_against 17 = .ok (.iload_n 2, 1) := by decide +kernel
theorem dX6_against_18 : decode cX6_against 18 = .ok (.if_icmp .eq 5, 3) := by decide +kernel
theorem dX6_against_21 : decode cX6_against 21 = .ok (.iconst 2, 1) := by decide +kernel
theorem dX6_against_22 : decode cX6_against 22 = .ok (.ireturn, 1) := by decide +kernel
theorem dX6_against_23 : decode cX6_against 23 = .ok (.aload_n 0, 1) := by decide +kernel
theorem dX6_against_24 : decode cX6_against 24 = .ok (.getfield 9, 3) := by decide +kernel
theorem dX6_against_27 : decode cX6_against 27 = .ok (.iload_n 1, 1) := by decide +kernel
theorem dX6_against_28 : decode cX6_against 28 = .ok (.iaload, 1) := by decide +kernel
theorem dX6_against_29 : decode cX6_against 29 = .ok (.bipush (-9), 2) := by decide +kernel
theorem dX6_against_31 : decode cX6_against 31 = .ok (.if_icmp .ne 5, 3) := by decide +kernel
theorem dX6_against_34 : decode cX6_against 34 = .ok (.iconst 1, 1) := by decide +kernel
theorem dX6_against_35 : decode cX6_against 35 = .ok (.ireturn, 1) := by decide +kernel
theorem dX6_against_36 : decode cX6_against 36 = .ok (.iload 4, 2) := by decide +kernel
theorem dX6_against_38 : decode cX6_against 38 = .ok (.ifCond .ge 5, 3) := by decide +kernel
theorem dX6_against_41 : decode cX6_against 41 = .ok (.iconst 4, 1) := by decide +kernel
theorem dX6_against_42 : decode cX6_against 42 = .ok (.ireturn, 1) := by decide +kernel
theorem dX6_against_43 : decode cX6_against 43 = .ok (.iload_n 3, 1) := by decide +kernel
theorem dX6_against_44 : decode cX6_against 44 = .ok (.ifCond .lt 26, 3) := by decide +kernel
theorem dX6_against_47 : decode cX6_against 47 = .ok (.iload_n 3, 1) := by decide +kernel
theorem dX6_against_48 : decode cX6_against 48 = .ok (.aload_n 0, 1) := by decide +kernel
theorem dX6_against_49 : decode cX6_against 49 = .ok (.getfield 13, 3) := by decide +kernel
theorem dX6_against_52 : decode cX6_against 52 = .ok (.iload_n 1, 1) := by decide +kernel
theorem dX6_against_53 : decode cX6_against 53 = .ok (.iaload, 1) := by decide +kernel
theorem dX6_against_54 : decode cX6_against 54 = .ok (.if_icmp .gt 16, 3) := by decide +kernel
theorem dX6_against_57 : decode cX6_against 57 = .ok (.iload 4, 2) := by decide +kernel
theorem dX6_against_59 : decode cX6_against 59 = .ok (.aload_n 0, 1) := by decide +kernel
theorem dX6_against_60 : decode cX6_against 60 = .ok (.getfield 13, 3) := by decide +kernel
theorem dX6_against_63 : decode cX6_against 63 = .ok (.iload_n 1, 1) := by decide +kernel
theorem dX6_against_64 : decode cX6_against 64 = .ok (.iaload, 1) := by decide +kernel
theorem dX6_against_65 : decode cX6_against 65 = .ok (.iload_n 3, 1) := by decide +kernel
theorem dX6_against_66 : decode cX6_against 66 = .ok (.isub, 1) := by decide +kernel
theorem dX6_against_67 : decode cX6_against 67 = .ok (.if_icmp .le 7, 3) := by decide +kernel
theorem dX6_against_70 : decode cX6_against 70 = .ok (.iconst 3, 1) := by decide +kernel
theorem dX6_against_71 : decode cX6_against 71 = .ok (.goto 4, 3) := by decide +kernel
theorem dX6_against_74 : decode cX6_against 74 = .ok (.iconst 0, 1) := by decide +kernel
theorem dX6_against_75 : decode cX6_against 75 = .ok (.ireturn, 1) := by decide +kernel
theorem dX6_isStage_0 : decode cX6_isStage 0 = .ok (.iload_n 1, 1) := by decide +kernel
theorem dX6_isStage_1 : decode cX6_isStage 1 = .ok (.ifCond .lt 15, 3) := by decide +kernel
theorem dX6_isStage_4 : decode cX6_isStage 4 = .ok (.iload_n 1, 1) := by decide +kernel
theorem dX6_isStage_5 : decode cX6_isStage 5 = .ok (.aload_n 0, 1) := by decide +kernel
theorem dX6_isStage_6 : decode cX6_isStage 6 = .ok (.getfield 84, 3) := by decide +kernel
theorem dX6_isStage_9 : decode cX6_isStage 9 = .ok (.if_icmp .ge 7, 3) := by decide +kernel
theorem dX6_isStage_12 : decode cX6_isStage 12 = .ok (.iconst 1, 1) := by decide +kernel
theorem dX6_isStage_13 : decode cX6_isStage 13 = .ok (.goto 4, 3) := by decide +kernel
theorem dX6_isStage_16 : decode cX6_isStage 16 = .ok (.iconst 0, 1) := by decide +kernel
theorem dX6_isStage_17 : decode cX6_isStage 17 = .ok (.ireturn, 1) := by decide +kernel
theorem dX6_isThing_0 : decode cX6_isThing 0 = .ok (.iload_n 1, 1) := by decide +kernel
theorem dX6_isThing_1 : decode cX6_isThing 1 = .ok (.ifCond .lt 15, 3) := by decide +kernel
theorem dX6_isThing_4 : decode cX6_isThing 4 = .ok (.iload_n 1, 1) := by decide +kernel
theorem dX6_isThing_5 : decode cX6_isThing 5 = .ok (.aload_n 0, 1) := by decide +kernel
theorem dX6_isThing_6 : decode cX6_isThing 6 = .ok (.getfield 87, 3) := by decide +kernel
theorem dX6_isThing_9 : decode cX6_isThing 9 = .ok (.if_icmp .ge 7, 3) := by decide +kernel
theorem dX6_isThing_12 : decode cX6_isThing 12 = .ok (.iconst 1, 1) := by decide +kernel
theorem dX6_isThing_13 : decode cX6_isThing 13 = .ok (.goto 4, 3) := by decide +kernel
theorem dX6_isThing_16 : decode cX6_isThing 16 = .ok (.iconst 0, 1) := by decide +kernel
theorem dX6_isThing_17 : decode cX6_isThing 17 = .ok (.ireturn, 1) := by decide +kernel
theorem dX6_isSpot_0 : decode cX6_isSpot 0 = .ok (.aload_n 0, 1) := by decide +kernel
theorem dX6_isSpot_1 : decode cX6_isSpot 1 = .ok (.getfield 84, 3) := by decide +kernel
theorem dX6_isSpot_4 : decode cX6_isSpot 4 = .ok (.ifCond .le 19, 3) := by decide +kernel
theorem dX6_isSpot_7 : decode cX6_isSpot 7 = .ok (.iload_n 1, 1) := by decide +kernel
theorem dX6_isSpot_8 : decode cX6_isSpot 8 = .ok (.iconst 0, 1) := by decide +kernel
theorem dX6_isSpot_9 : decode cX6_isSpot 9 = .ok (.aload_n 0, 1) := by decide +kernel
theorem dX6_isSpot_10 : decode cX6_isSpot 10 = .ok (.getfield 84, 3) := by decide +kernel
theorem dX6_isSpot_13 : decode cX6_isSpot 13 = .ok (.invokestatic 80, 3) := by decide +kernel
theorem dX6_isSpot_16 : decode cX6_isSpot 16 = .ok (.ifCond .eq 7, 3) := by decide +kernel
theorem dX6_isSpot_19 : decode cX6_isSpot 19 = .ok (.iconst 1, 1) := by decide +kernel
theorem dX6_isSpot_20 : decode cX6_isSpot 20 = .ok (.goto 4, 3) := by decide +kernel
theorem dX6_isSpot_23 : decode cX6_isSpot 23 = .ok (.iconst 0, 1) := by decide +kernel
theorem dX6_isSpot_24 : decode cX6_isSpot 24 = .ok (.ireturn, 1) := by decide +kernel
theorem dX6_allThings_0 : decode cX6_allThings 0 = .ok (.iconst 1, 1) := by decide +kernel
theorem dX6_allThings_1 : decode cX6_allThings 1 = .ok (.aload_n 0, 1) := by decide +kernel
theorem dX6_allThings_2 : decode cX6_allThings 2 = .ok (.getfield 87, 3) := by decide +kernel
theorem dX6_allThings_5 : decode cX6_allThings 5 = .ok (.ishl, 1) := by decide +kernel
theorem dX6_allThings_6 : decode cX6_allThings 6 = .ok (.iconst 1, 1) := by decide +kernel
theorem dX6_allThings_7 : decode cX6_allThings 7 = .ok (.isub, 1) := by decide +kernel
theorem dX6_allThings_8 : decode cX6_allThings 8 = .ok (.ireturn, 1) := by decide +kernel
theorem dX6_digit_0 : decode cX6_digit 0 = .ok (.aload_n 0, 1) := by decide +kernel
theorem dX6_digit_1 : decode cX6_digit 1 = .ok (.getfield 90, 3) := by decide +kernel
theorem dX6_digit_4 : decode cX6_digit 4 = .ok (.iload_n 1, 1) := by decide +kernel
theorem dX6_digit_5 : decode cX6_digit 5 = .ok (.if_icmp .ge 26, 3) := by decide +kernel
theorem dX6_digit_8 : decode cX6_digit 8 = .ok (.aload_n 0, 1) := by decide +kernel
theorem dX6_digit_9 : decode cX6_digit 9 = .ok (.getfield 16, 3) := by decide +kernel
theorem dX6_digit_12 : decode cX6_digit 12 = .ok (.aload_n 0, 1) := by decide +kernel
theorem dX6_digit_13 : decode cX6_digit 13 = .ok (.getfield 90, 3) := by decide +kernel
theorem dX6_digit_16 : decode cX6_digit 16 = .ok (.iaload, 1) := by decide +kernel
theorem dX6_digit_17 : decode cX6_digit 17 = .ok (.bipush 48, 2) := by decide +kernel
theorem dX6_digit_19 : decode cX6_digit 19 = .ok (.iload_n 2, 1) := by decide +kernel
theorem dX6_digit_20 : decode cX6_digit 20 = .ok (.iadd, 1) := by decide +kernel
theorem dX6_digit_21 : decode cX6_digit 21 = .ok (.bipush 48, 2) := by decide +kernel
theorem dX6_digit_23 : decode cX6_digit 23 = .ok (.iload_n 3, 1) := by decide +kernel
theorem dX6_digit_24 : decode cX6_digit 24 = .ok (.iadd, 1) := by decide +kernel
theorem dX6_digit_25 : decode cX6_digit 25 = .ok (.invokestatic 80, 3) := by decide +kernel
theorem dX6_digit_28 : decode cX6_digit 28 = .ok (.ifCond .ne 6, 3) := by decide +kernel
theorem dX6_digit_31 : decode cX6_digit 31 = .ok (.bipush (-9), 2) := by decide +kernel
theorem dX6_digit_33 : decode cX6_digit 33 = .ok (.ireturn, 1) := by decide +kernel
theorem dX6_digit_34 : decode cX6_digit 34 = .ok (.aload_n 0, 1) := by decide +kernel
theorem dX6_digit_35 : decode cX6_digit 35 = .ok (.dup, 1) := by decide +kernel
theorem dX6_digit_36 : decode cX6_digit 36 = .ok (.getfield 90, 3) := by decide +kernel
theorem dX6_digit_39 : decode cX6_digit 39 = .ok (.iconst 1, 1) := by decide +kernel
theorem dX6_digit_40 : decode cX6_digit 40 = .ok (.iadd, 1) := by decide +kernel
theorem dX6_digit_41 : decode cX6_digit 41 = .ok (.putfield 90, 3) := by decide +kernel
theorem dX6_digit_44 : decode cX6_digit 44 = .ok (.aload_n 0, 1) := by decide +kernel
theorem dX6_digit_45 : decode cX6_digit 45 = .ok (.getfield 16, 3) := by decide +kernel
theorem dX6_digit_48 : decode cX6_digit 48 = .ok (.aload_n 0, 1) := by decide +kernel
theorem dX6_digit_49 : decode cX6_digit 49 = .ok (.getfield 90, 3) := by decide +kernel
theorem dX6_digit_52 : decode cX6_digit 52 = .ok (.iconst 1, 1) := by decide +kernel
theorem dX6_digit_53 : decode cX6_digit 53 = .ok (.isub, 1) := by decide +kernel
theorem dX6_digit_54 : decode cX6_digit 54 = .ok (.iaload, 1) := by decide +kernel
theorem dX6_digit_55 : decode cX6_digit 55 = .ok (.bipush 48, 2) := by decide +kernel
theorem dX6_digit_57 : decode cX6_digit 57 = .ok (.isub, 1) := by decide +kernel
theorem dX6_digit_58 : decode cX6_digit 58 = .ok (.ireturn, 1) := by decide +kernel
theorem dX6_isSign_0 : decode cX6_isSign 0 = .ok (.aload_n 0, 1) := by decide +kernel
theorem dX6_isSign_1 : decode cX6_isSign 1 = .ok (.getfield 90, 3) := by decide +kernel
theorem dX6_isSign_4 : decode cX6_isSign 4 = .ok (.iload_n 1, 1) := by decide +kernel
theorem dX6_isSign_5 : decode cX6_isSign 5 = .ok (.if_icmp .ge 16, 3) := by decide +kernel
theorem dX6_isSign_8 : decode cX6_isSign 8 = .ok (.aload_n 0, 1) := by decide +kernel
theorem dX6_isSign_9 : decode cX6_isSign 9 = .ok (.getfield 16, 3) := by decide +kernel
theorem dX6_isSign_12 : decode cX6_isSign 12 = .ok (.aload_n 0, 1) := by decide +kernel
theorem dX6_isSign_13 : decode cX6_isSign 13 = .ok (.getfield 90, 3) := by decide +kernel
theorem dX6_isSign_16 : decode cX6_isSign 16 = .ok (.iaload, 1) := by decide +kernel
theorem dX6_isSign_17 : decode cX6_isSign 17 = .ok (.iload_n 2, 1) := by decide +kernel
theorem dX6_isSign_18 : decode cX6_isSign 18 = .ok (.if_icmp .eq 5, 3) := by decide +kernel
theorem dX6_isSign_21 : decode cX6_isSign 21 = .ok (.iconst 0, 1) := by decide +kernel
theorem dX6_isSign_22 : decode cX6_isSign 22 = .ok (.ireturn, 1) := by decide +kernel
theorem dX6_isSign_23 : decode cX6_isSign 23 = .ok (.aload_n 0, 1) := by decide +kernel
theorem dX6_isSign_24 : decode cX6_isSign 24 = .ok (.dup, 1) := by decide +kernel
theorem dX6_isSign_25 : decode cX6_isSign 25 = .ok (.getfield 90, 3) := by decide +kernel
theorem dX6_isSign_28 : decode cX6_isSign 28 = .ok (.iconst 1, 1) := by decide +kernel
theorem dX6_isSign_29 : decode cX6_isSign 29 = .ok (.iadd, 1) := by decide +kernel
theorem dX6_isSign_30 : decode cX6_isSign 30 = .ok (.putfield 90, 3) := by decide +kernel
theorem dX6_isSign_33 : decode cX6_isSign 33 = .ok (.iconst 1, 1) := by decide +kernel
theorem dX6_isSign_34 : decode cX6_isSign 34 = .ok (.ireturn, 1) := by decide +kernel
theorem dX6_portage_0 : decode cX6_portage 0 = .ok (.aload_n 0, 1) := by decide +kernel
theorem dX6_portage_1 : decode cX6_portage 1 = .ok (.iconst 0, 1) := by decide +kernel
theorem dX6_portage_2 : decode cX6_portage 2 = .ok (.putfield 75, 3) := by decide +kernel
theorem dX6_portage_5 : decode cX6_portage 5 = .ok (.iload_n 1, 1) := by decide +kernel
theorem dX6_portage_6 : decode cX6_portage 6 = .ok (.invokestatic 93, 3) := by decide +kernel
theorem dX6_portage_9 : decode cX6_portage 9 = .ok (.ifCond .ne 5, 3) := by decide +kernel
theorem dX6_portage_12 : decode cX6_portage 12 = .ok (.iconst (-1), 1) := by decide +kernel
theorem dX6_portage_13 : decode cX6_portage 13 = .ok (.ireturn, 1) := by decide +kernel
theorem dX6_portage_14 : decode cX6_portage 14 = .ok (.iload_n 2, 1) := by decide +kernel
theorem dX6_portage_15 : decode cX6_portage 15 = .ok (.invokestatic 97, 3) := by decide +kernel
theorem dX6_portage_18 : decode cX6_portage 18 = .ok (.ifCond .ne 6, 3) := by decide +kernel
theorem dX6_portage_21 : decode cX6_portage 21 = .ok (.bipush (-2), 2) := by decide +kernel
theorem dX6_portage_23 : decode cX6_portage 23 = .ok (.ireturn, 1) := by decide +kernel
theorem dX6_portage_24 : decode cX6_portage 24 = .ok (.aload_n 0, 1) := by decide +kernel
theorem dX6_portage_25 : decode cX6_portage 25 = .ok (.iload_n 1, 1) := by decide +kernel
theorem dX6_portage_26 : decode cX6_portage 26 = .ok (.iload_n 2, 1) := by decide +kernel
theorem dX6_portage_27 : decode cX6_portage 27 = .ok (.iload_n 3, 1) := by decide +kernel
theorem dX6_portage_28 : decode cX6_portage 28 = .ok (.iload 4, 2) := by decide +kernel
theorem dX6_portage_30 : decode cX6_portage 30 = .ok (.invokevirtual 100, 3) := by decide +kernel
theorem dX6_portage_33 : decode cX6_portage 33 = .ok (.istore 5, 2) := by decide +kernel
theorem dX6_portage_35 : decode cX6_portage 35 = .ok (.iload 5, 2) := by decide +kernel
theorem dX6_portage_37 : decode cX6_portage 37 = .ok (.ifCond .eq 10, 3) := by decide +kernel
theorem dX6_portage_40 : decode cX6_portage 40 = .ok (.aload_n 0, 1) := by decide +kernel
theorem dX6_portage_41 : decode cX6_portage 41 = .ok (.iload 5, 2) := by decide +kernel
theorem dX6_portage_43 : decode cX6_portage 43 = .ok (.invokevirtual 104, 3) := by decide +kernel
theorem dX6_portage_46 : decode cX6_portage 46 = .ok (.ireturn, 1) := by decide +kernel
theorem dX6_portage_47 : decode cX6_portage 47 = .ok (.bipush 60, 2) := by decide +kernel
theorem dX6_portage_49 : decode cX6_portage 49 = .ok (.iload_n 1, 1) := by decide +kernel
theorem dX6_portage_50 : decode cX6_portage 50 = .ok (.imul, 1) := by decide +kernel
theorem dX6_portage_51 : decode cX6_portage 51 = .ok (.iload_n 3, 1) := by decide +kernel
theorem dX6_portage_52 : decode cX6_portage 52 = .ok (.iadd, 1) := by decide +kernel
theorem dX6_portage_53 : decode cX6_portage 53 = .ok (.istore 6, 2) := by decide +kernel
theorem dX6_portage_55 : decode cX6_portage 55 = .ok (.aload_n 0, 1) := by decide +kernel
theorem dX6_portage_56 : decode cX6_portage 56 = .ok (.iload 6, 2) := by decide +kernel
theorem dX6_portage_58 : decode cX6_portage 58 = .ok (.putfield 90, 3) := by decide +kernel
theorem dX6_portage_61 : decode cX6_portage 61 = .ok (.aload_n 0, 1) := by decide +kernel
theorem dX6_portage_62 : decode cX6_portage 62 = .ok (.iload 6, 2) := by decide +kernel
theorem dX6_portage_64 : decode cX6_portage 64 = .ok (.iload 4, 2) := by decide +kernel
theorem dX6_portage_66 : decode cX6_portage 66 = .ok (.iadd, 1) := by decide +kernel
theorem dX6_portage_67 : decode cX6_portage 67 = .ok (.invokevirtual 108, 3) := by decide +kernel
theorem dX6_portage_70 : decode cX6_portage 70 = .ok (.ifCond .ne 14, 3) := by decide +kernel
theorem dX6_portage_73 : decode cX6_portage 73 = .ok (.bipush (-100), 2) := by decide +kernel
theorem dX6_portage_75 : decode cX6_portage 75 = .ok (.aload_n 0, 1) := by decide +kernel
theorem dX6_portage_76 : decode cX6_portage 76 = .ok (.getfield 90, 3) := by decide +kernel
theorem dX6_portage_79 : decode cX6_portage 79 = .ok (.iload 6, 2) := by decide +kernel
theorem dX6_portage_81 : decode cX6_portage 81 = .ok (.isub, 1) := by decide +kernel
theorem dX6_portage_82 : decode cX6_portage 82 = .ok (.isub, 1) := by decide +kernel
theorem dX6_portage_83 : decode cX6_portage 83 = .ok (.ireturn, 1) := by decide +kernel
theorem dX6_portage_84 : decode cX6_portage 84 = .ok (.aload_n 0, 1) := by decide +kernel
theorem dX6_portage_85 : decode cX6_portage 85 = .ok (.aload_n 0, 1) := by decide +kernel
theorem dX6_portage_86 : decode cX6_portage 86 = .ok (.getfield 111, 3) := by decide +kernel
theorem dX6_portage_89 : decode cX6_portage 89 = .ok (.putfield 114, 3) := by decide +kernel
theorem dX6_portage_92 : decode cX6_portage 92 = .ok (.aload_n 0, 1) := by decide +kernel
theorem dX6_portage_93 : decode cX6_portage 93 = .ok (.aload_n 0, 1) := by decide +kernel
theorem dX6_portage_94 : decode cX6_portage 94 = .ok (.getfield 117, 3) := by decide +kernel
theorem dX6_portage_97 : decode cX6_portage 97 = .ok (.putfield 84, 3) := by decide +kernel
theorem dX6_portage_100 : decode cX6_portage 100 = .ok (.aload_n 0, 1) := by decide +kernel
theorem dX6_portage_101 : decode cX6_portage 101 = .ok (.aload_n 0, 1) := by decide +kernel
theorem dX6_portage_102 : decode cX6_portage 102 = .ok (.getfield 120, 3) := by decide +kernel
theorem dX6_portage_105 : decode cX6_portage 105 = .ok (.putfield 87, 3) := by decide +kernel
theorem dX6_portage_108 : decode cX6_portage 108 = .ok (.aload_n 0, 1) := by decide +kernel
theorem dX6_portage_109 : decode cX6_portage 109 = .ok (.bipush (-9), 2) := by decide +kernel
theorem dX6_portage_111 : decode cX6_portage 111 = .ok (.putfield 19, 3) := by decide +kernel
theorem dX6_portage_114 : decode cX6_portage 114 = .ok (.iconst 0, 1) := by decide +kernel
theorem dX6_portage_115 : decode cX6_portage 115 = .ok (.istore 7, 2) := by decide +kernel
theorem dX6_portage_117 : decode cX6_portage 117 = .ok (.iload 7, 2) := by decide +kernel
theorem dX6_portage_119 : decode cX6_portage 119 = .ok (.aload_n 0, 1) := by decide +kernel
theorem dX6_portage_120 : decode cX6_portage 120 = .ok (.getfield 84, 3) := by decide +kernel
theorem dX6_portage_123 : decode cX6_portage 123 = .ok (.if_icmp .ge 51, 3) := by decide +kernel
theorem dX6_portage_126 : decode cX6_portage 126 = .ok (.aload_n 0, 1) := by decide +kernel
theorem dX6_portage_127 : decode cX6_portage 127 = .ok (.getfield 23, 3) := by decide +kernel
theorem dX6_portage_130 : decode cX6_portage 130 = .ok (.iload 7, 2) := by decide +kernel
theorem dX6_portage_132 : decode cX6_portage 132 = .ok (.aload_n 0, 1) := by decide +kernel
theorem dX6_portage_133 : decode cX6_portage 133 = .ok (.getfield 42, 3) := by decide +kernel
theorem dX6_portage_136 : decode cX6_portage 136 = .ok (.iconst 2, 1) := by decide +kernel
theorem dX6_portage_137 : decode cX6_portage 137 = .ok (.iload 7, 2) := by decide +kernel
theorem dX6_portage_139 : decode cX6_portage 139 = .ok (.imul, 1) := by decide +kernel
theorem dX6_portage_140 : decode cX6_portage 140 = .ok (.iaload, 1) := by decide +kernel
theorem dX6_portage_141 : decode cX6_portage 141 = .ok (.iastore, 1) := by decide +kernel
theorem dX6_portage_142 : decode cX6_portage 142 = .ok (.aload_n 0, 1) := by decide +kernel
theorem dX6_portage_143 : decode cX6_portage 143 = .ok (.getfield 26, 3) := by decide +kernel
theorem dX6_portage_146 : decode cX6_portage 146 = .ok (.iload 7, 2) := by decide +kernel
theorem dX6_portage_148 : decode cX6_portage 148 = .ok (.aload_n 0, 1) := by decide +kernel
theorem dX6_portage_149 : decode cX6_portage 149 = .ok (.getfield 42, 3) := by decide +kernel
theorem dX6_portage_152 : decode cX6_portage 152 = .ok (.iconst 2, 1) := by decide +kernel
theorem dX6_portage_153 : decode cX6_portage 153 = .ok (.iload 7, 2) := by decide +kernel
theorem dX6_portage_155 : decode cX6_portage 155 = .ok (.imul, 1) := by decide +kernel
theorem dX6_portage_156 : decode cX6_portage 156 = .ok (.iconst 1, 1) := by decide +kernel
theorem dX6_portage_157 : decode cX6_portage 157 = .ok (.iadd, 1) := by decide +kernel
theorem dX6_portage_158 : decode cX6_portage 158 = .ok (.iaload, 1) := by decide +kernel
theorem dX6_portage_159 : decode cX6_portage 159 = .ok (.iastore, 1) := by decide +kernel
theorem dX6_portage_160 : decode cX6_portage 160 = .ok (.aload_n 0, 1) := by decide +kernel
theorem dX6_portage_161 : decode cX6_portage 161 = .ok (.getfield 29, 3) := by decide +kernel
theorem dX6_portage_164 : decode cX6_portage 164 = .ok (.iload 7, 2) := by decide +kernel
theorem dX6_portage_166 : decode cX6_portage 166 = .ok (.iconst 0, 1) := by decide +kernel
theorem dX6_portage_167 : decode cX6_portage 167 = .ok (.bastore, 1) := by decide +kernel
theorem dX6_portage_168 : decode cX6_portage 168 = .ok (.iinc 7 1, 3) := by decide +kernel
theorem dX6_portage_171 : decode cX6_portage 171 = .ok (.goto (-54), 3) := by decide +kernel
theorem dX6_portage_174 : decode cX6_portage 174 = .ok (.iconst 0, 1) := by decide +kernel
theorem dX6_portage_175 : decode cX6_portage 175 = .ok (.istore 7, 2) := by decide +kernel
theorem dX6_portage_177 : decode cX6_portage 177 = .ok (.iload 7, 2) := by decide +kernel
theorem dX6_portage_179 : decode cX6_portage 179 = .ok (.aload_n 0, 1) := by decide +kernel
theorem dX6_portage_180 : decode cX6_portage 180 = .ok (.getfield 87, 3) := by decide +kernel
theorem dX6_portage_183 : decode cX6_portage 183 = .ok (.if_icmp .ge 43, 3) := by decide +kernel
theorem dX6_portage_186 : decode cX6_portage 186 = .ok (.aload_n 0, 1) := by decide +kernel
theorem dX6_portage_187 : decode cX6_portage 187 = .ok (.getfield 33, 3) := by decide +kernel
theorem dX6_portage_190 : decode cX6_portage 190 = .ok (.iload 7, 2) := by decide +kernel
theorem dX6_portage_192 : decode cX6_portage 192 = .ok (.aload_n 0, 1) := by decide +kernel
theorem dX6_portage_193 : decode cX6_portage 193 = .ok (.getfield 45, 3) := by decide +kernel
theorem dX6_portage_196 : decode cX6_portage 196 = .ok (.iconst 2, 1) := by decide +kernel
theorem dX6_portage_197 : decode cX6_portage 197 = .ok (.iload 7, 2) := by decide +kernel
theorem dX6_portage_199 : decode cX6_portage 199 = .ok (.imul, 1) := by decide +kernel
theorem dX6_portage_200 : decode cX6_portage 200 = .ok (.iaload, 1) := by decide +kernel
theorem dX6_portage_201 : decode cX6_portage 201 = .ok (.iastore, 1) := by decide +kernel
theorem dX6_portage_202 : decode cX6_portage 202 = .ok (.aload_n 0, 1) := by decide +kernel
theorem dX6_portage_203 : decode cX6_portage 203 = .ok (.getfield 36, 3) := by decide +kernel
theorem dX6_portage_206 : decode cX6_portage 206 = .ok (.iload 7, 2) := by decide +kernel
theorem dX6_portage_208 : decode cX6_portage 208 = .ok (.aload_n 0, 1) := by decide +kernel
theorem dX6_portage_209 : decode cX6_portage 209 = .ok (.getfield 45, 3) := by decide +kernel
theorem dX6_portage_212 : decode cX6_portage 212 = .ok (.iconst 2, 1) := by decide +kernel
theorem dX6_portage_213 : decode cX6_portage 213 = .ok (.iload 7, 2) := by decide +kernel
theorem dX6_portage_215 : decode cX6_portage 215 = .ok (.imul, 1) := by decide +kernel
theorem dX6_portage_216 : decode cX6_portage 216 = .ok (.iconst 1, 1) := by decide +kernel
theorem dX6_portage_217 : decode cX6_portage 217 = .ok (.iadd, 1) := by decide +kernel
theorem dX6_portage_218 : decode cX6_portage 218 = .ok (.iaload, 1) := by decide +kernel
theorem dX6_portage_219 : decode cX6_portage 219 = .ok (.iastore, 1) := by decide +kernel
theorem dX6_portage_220 : decode cX6_portage 220 = .ok (.iinc 7 1, 3) := by decide +kernel
theorem dX6_portage_223 : decode cX6_portage 223 = .ok (.goto (-46), 3) := by decide +kernel
theorem dX6_portage_226 : decode cX6_portage 226 = .ok (.aload_n 0, 1) := by decide +kernel
theorem dX6_portage_227 : decode cX6_portage 227 = .ok (.iconst 0, 1) := by decide +kernel
theorem dX6_portage_228 : decode cX6_portage 228 = .ok (.putfield 123, 3) := by decide +kernel
theorem dX6_portage_231 : decode cX6_portage 231 = .ok (.aload_n 0, 1) := by decide +kernel
theorem dX6_portage_232 : decode cX6_portage 232 = .ok (.getfield 87, 3) := by decide +kernel
theorem dX6_portage_235 : decode cX6_portage 235 = .ok (.ireturn, 1) := by decide +kernel
theorem dX6_readAll_0 : decode cX6_readAll 0 = .ok (.aload_n 0, 1) := by decide +kernel
theorem dX6_readAll_1 : decode cX6_readAll 1 = .ok (.iconst 0, 1) := by decide +kernel
theorem dX6_readAll_2 : decode cX6_readAll 2 = .ok (.putfield 117, 3) := by decide +kernel
theorem dX6_readAll_5 : decode cX6_readAll 5 = .ok (.aload_n 0, 1) := by decide +kernel
theorem dX6_readAll_6 : decode cX6_readAll 6 = .ok (.iconst 0, 1) := by decide +kernel
theorem dX6_readAll_7 : decode cX6_readAll 7 = .ok (.putfield 120, 3) := by decide +kernel
theorem dX6_readAll_10 : decode cX6_readAll 10 = .ok (.aload_n 0, 1) := by decide +kernel
theorem dX6_readAll_11 : decode cX6_readAll 11 = .ok (.iload_n 1, 1) := by decide +kernel
theorem dX6_readAll_12 : decode cX6_readAll 12 = .ok (.bipush 103, 2) := by decide +kernel
theorem dX6_readAll_14 : decode cX6_readAll 14 = .ok (.invokevirtual 126, 3) := by decide +kernel
theorem dX6_readAll_17 : decode cX6_readAll 17 = .ok (.ifCond .ne 5, 3) := by decide +kernel
theorem dX6_readAll_20 : decode cX6_readAll 20 = .ok (.iconst 0, 1) := by decide +kernel
theorem dX6_readAll_21 : decode cX6_readAll 21 = .ok (.ireturn, 1) := by decide +kernel
theorem dX6_readAll_22 : decode cX6_readAll 22 = .ok (.aload_n 0, 1) := by decide +kernel
theorem dX6_readAll_23 : decode cX6_readAll 23 = .ok (.aload_n 0, 1) := by decide +kernel
theorem dX6_readAll_24 : decode cX6_readAll 24 = .ok (.iload_n 1, 1) := by decide +kernel
theorem dX6_readAll_25 : decode cX6_readAll 25 = .ok (.iconst 1, 1) := by decide +kernel
theorem dX6_readAll_26 : decode cX6_readAll 26 = .ok (.bipush 9, 2) := by decide +kernel
theorem dX6_readAll_28 : decode cX6_readAll 28 = .ok (.invokevirtual 130, 3) := by decide +kernel
theorem dX6_readAll_31 : decode cX6_readAll 31 = .ok (.putfield 111, 3) := by decide +kernel
theorem dX6_readAll_34 : decode cX6_readAll 34 = .ok (.aload_n 0, 1) := by decide +kernel
theorem dX6_readAll_35 : decode cX6_readAll 35 = .ok (.getfield 111, 3) := by decide +kernel
theorem dX6_readAll_38 : decode cX6_readAll 38 = .ok (.bipush (-9), 2) := by decide +kernel
theorem dX6_readAll_40 : decode cX6_readAll 40 = .ok (.if_icmp .eq 21, 3) := by decide +kernel
theorem dX6_readAll_43 : decode cX6_readAll 43 = .ok (.aload_n 0, 1) := by decide +kernel
theorem dX6_readAll_44 : decode cX6_readAll 44 = .ok (.iload_n 1, 1) := by decide +kernel
theorem dX6_readAll_45 : decode cX6_readAll 45 = .ok (.bipush 59, 2) := by decide +kernel
theorem dX6_readAll_47 : decode cX6_readAll 47 = .ok (.invokevirtual 126, 3) := by decide +kernel
theorem dX6_readAll_50 : decode cX6_readAll 50 = .ok (.ifCond .eq 11, 3) := by decide +kernel
theorem dX6_readAll_53 : decode cX6_readAll 53 = .ok (.aload_n 0, 1) := by decide +kernel
theorem dX6_readAll_54 : decode cX6_readAll 54 = .ok (.iload_n 1, 1) := by decide +kernel
theorem dX6_readAll_55 : decode cX6_readAll 55 = .ok (.invokevirtual 134, 3) := by decide +kernel
theorem dX6_readAll_58 : decode cX6_readAll 58 = .ok (.ifCond .ne 5, 3) := by decide +kernel
theorem dX6_readAll_61 : decode cX6_readAll 61 = .ok (.iconst 0, 1) := by decide +kernel
theorem dX6_readAll_62 : decode cX6_readAll 62 = .ok (.ireturn, 1) := by decide +kernel
theorem dX6_readAll_63 : decode cX6_readAll 63 = .ok (.aload_n 0, 1) := by decide +kernel
theorem dX6_readAll_64 : decode cX6_readAll 64 = .ok (.getfield 117, 3) := by decide +kernel
theorem dX6_readAll_67 : decode cX6_readAll 67 = .ok (.iconst 3, 1) := by decide +kernel
theorem dX6_readAll_68 : decode cX6_readAll 68 = .ok (.if_icmp .ge 23, 3) := by decide +kernel
theorem dX6_readAll_71 : decode cX6_readAll 71 = .ok (.aload_n 0, 1) := by decide +kernel
theorem dX6_readAll_72 : decode cX6_readAll 72 = .ok (.iload_n 1, 1) := by decide +kernel
theorem dX6_readAll_73 : decode cX6_readAll 73 = .ok (.bipush 59, 2) := by decide +kernel
theorem dX6_readAll_75 : decode cX6_readAll 75 = .ok (.invokevirtual 126, 3) := by decide +kernel
theorem dX6_readAll_78 : decode cX6_readAll 78 = .ok (.ifCond .eq 13, 3) := by decide +kernel
theorem dX6_readAll_81 : decode cX6_readAll 81 = .ok (.aload_n 0, 1) := by decide +kernel
theorem dX6_readAll_82 : decode cX6_readAll 82 = .ok (.iload_n 1, 1) := by decide +kernel
theorem dX6_readAll_83 : decode cX6_readAll 83 = .ok (.invokevirtual 134, 3) := by decide +kernel
theorem dX6_readAll_86 : decode cX6_readAll 86 = .ok (.ifCond .ne (-23), 3) := by decide +kernel
theorem dX6_readAll_89 : decode cX6_readAll 89 = .ok (.iconst 0, 1) := by decide +kernel
theorem dX6_readAll_90 : decode cX6_readAll 90 = .ok (.ireturn, 1) := by decide +kernel
theorem dX6_readAll_91 : decode cX6_readAll 91 = .ok (.aload_n 0, 1) := by decide +kernel
theorem dX6_readAll_92 : decode cX6_readAll 92 = .ok (.iload_n 1, 1) := by decide +kernel
theorem dX6_readAll_93 : decode cX6_readAll 93 = .ok (.bipush 44, 2) := by decide +kernel
theorem dX6_readAll_95 : decode cX6_readAll 95 = .ok (.invokevirtual 126, 3) := by decide +kernel
theorem dX6_readAll_98 : decode cX6_readAll 98 = .ok (.ifCond .eq 11, 3) := by decide +kernel
theorem dX6_readAll_101 : decode cX6_readAll 101 = .ok (.aload_n 0, 1) := by decide +kernel
theorem dX6_readAll_102 : decode cX6_readAll 102 = .ok (.iload_n 1, 1) := by decide +kernel
theorem dX6_readAll_103 : decode cX6_readAll 103 = .ok (.invokevirtual 137, 3) := by decide +kernel
theorem dX6_readAll_106 : decode cX6_readAll 106 = .ok (.ifCond .ne 5, 3) := by decide +kernel
theorem dX6_readAll_109 : decode cX6_readAll 109 = .ok (.iconst 0, 1) := by decide +kernel
theorem dX6_readAll_110 : decode cX6_readAll 110 = .ok (.ireturn, 1) := by decide +kernel
theorem dX6_readAll_111 : decode cX6_readAll 111 = .ok (.aload_n 0, 1) := by decide +kernel
theorem dX6_readAll_112 : decode cX6_readAll 112 = .ok (.getfield 120, 3) := by decide +kernel
theorem dX6_readAll_115 : decode cX6_readAll 115 = .ok (.iconst 4, 1) := by decide +kernel
theorem dX6_readAll_116 : decode cX6_readAll 116 = .ok (.if_icmp .ge 23, 3) := by decide +kernel
theorem dX6_readAll_119 : decode cX6_readAll 119 = .ok (.aload_n 0, 1) := by decide +kernel
theorem dX6_readAll_120 : decode cX6_readAll 120 = .ok (.iload_n 1, 1) := by decide +kernel
theorem dX6_readAll_121 : decode cX6_readAll 121 = .ok (.bipush 44, 2) := by decide +kernel
theorem dX6_readAll_123 : decode cX6_readAll 123 = .ok (.invokevirtual 126, 3) := by decide +kernel
theorem dX6_readAll_126 : decode cX6_readAll 126 = .ok (.ifCond .eq 13, 3) := by decide +kernel
theorem dX6_readAll_129 : decode cX6_readAll 129 = .ok (.aload_n 0, 1) := by decide +kernel
theorem dX6_readAll_130 : decode cX6_readAll 130 = .ok (.iload_n 1, 1) := by decide +kernel
theorem dX6_readAll_131 : decode cX6_readAll 131 = .ok (.invokevirtual 137, 3) := by decide +kernel
theorem dX6_readAll_134 : decode cX6_readAll 134 = .ok (.ifCond .ne (-23), 3) := by decide +kernel
theorem dX6_readAll_137 : decode cX6_readAll 137 = .ok (.iconst 0, 1) := by decide +kernel
theorem dX6_readAll_138 : decode cX6_readAll 138 = .ok (.ireturn, 1) := by decide +kernel
theorem dX6_readAll_139 : decode cX6_readAll 139 = .ok (.aload_n 0, 1) := by decide +kernel
theorem dX6_readAll_140 : decode cX6_readAll 140 = .ok (.getfield 90, 3) := by decide +kernel
theorem dX6_readAll_143 : decode cX6_readAll 143 = .ok (.iload_n 1, 1) := by decide +kernel
theorem dX6_readAll_144 : decode cX6_readAll 144 = .ok (.if_icmp .ne 7, 3) := by decide +kernel
theorem dX6_readAll_147 : decode cX6_readAll 147 = .ok (.iconst 1, 1) := by decide +kernel
theorem dX6_readAll_148 : decode cX6_readAll 148 = .ok (.goto 4, 3) := by decide +kernel
theorem dX6_readAll_151 : decode cX6_readAll 151 = .ok (.iconst 0, 1) := by decide +kernel
theorem dX6_readAll_152 : decode cX6_readAll 152 = .ok (.ireturn, 1) := by decide +kernel
theorem dX6_readOneStage_0 : decode cX6_readOneStage 0 = .ok (.iconst 2, 1) := by decide +kernel
theorem dX6_readOneStage_1 : decode cX6_readOneStage 1 = .ok (.aload_n 0, 1) := by decide +kernel
theorem dX6_readOneStage_2 : decode cX6_readOneStage 2 = .ok (.getfield 117, 3) := by decide +kernel
theorem dX6_readOneStage_5 : decode cX6_readOneStage 5 = .ok (.imul, 1) := by decide +kernel
theorem dX6_readOneStage_6 : decode cX6_readOneStage 6 = .ok (.istore_n 2, 1) := by decide +kernel
theorem dX6_readOneStage_7 : decode cX6_readOneStage 7 = .ok (.aload_n 0, 1) := by decide +kernel
theorem dX6_readOneStage_8 : decode cX6_readOneStage 8 = .ok (.getfield 42, 3) := by decide +kernel
theorem dX6_readOneStage_11 : decode cX6_readOneStage 11 = .ok (.iload_n 2, 1) := by decide +kernel
theorem dX6_readOneStage_12 : decode cX6_readOneStage 12 = .ok (.aload_n 0, 1) := by decide +kernel
theorem dX6_readOneStage_13 : decode cX6_readOneStage 13 = .ok (.iload_n 1, 1) := by decide +kernel
theorem dX6_readOneStage_14 : decode cX6_readOneStage 14 = .ok (.iconst 1, 1) := by decide +kernel
theorem dX6_readOneStage_15 : decode cX6_readOneStage 15 = .ok (.bipush 9, 2) := by decide +kernel
theorem dX6_readOneStage_17 : decode cX6_readOneStage 17 = .ok (.invokevirtual 130, 3) := by decide +kernel
theorem dX6_readOneStage_20 : decode cX6_readOneStage 20 = .ok (.iastore, 1) := by decide +kernel
theorem dX6_readOneStage_21 : decode cX6_readOneStage 21 = .ok (.aload_n 0, 1) := by decide +kernel
theorem dX6_readOneStage_22 : decode cX6_readOneStage 22 = .ok (.getfield 42, 3) := by decide +kernel
theorem dX6_readOneStage_25 : decode cX6_readOneStage 25 = .ok (.iload_n 2, 1) := by decide +kernel
theorem dX6_readOneStage_26 : decode cX6_readOneStage 26 = .ok (.iaload, 1) := by decide +kernel
theorem dX6_readOneStage_27 : decode cX6_readOneStage 27 = .ok (.bipush (-9), 2) := by decide +kernel
theorem dX6_readOneStage_29 : decode cX6_readOneStage 29 = .ok (.if_icmp .ne 5, 3) := by decide +kernel
theorem dX6_readOneStage_32 : decode cX6_readOneStage 32 = .ok (.iconst 0, 1) := by decide +kernel
theorem dX6_readOneStage_33 : decode cX6_readOneStage 33 = .ok (.ireturn, 1) := by decide +kernel
theorem dX6_readOneStage_34 : decode cX6_readOneStage 34 = .ok (.aload_n 0, 1) := by decide +kernel
theorem dX6_readOneStage_35 : decode cX6_readOneStage 35 = .ok (.getfield 42, 3) := by decide +kernel
theorem dX6_readOneStage_38 : decode cX6_readOneStage 38 = .ok (.iload_n 2, 1) := by decide +kernel
theorem dX6_readOneStage_39 : decode cX6_readOneStage 39 = .ok (.iconst 1, 1) := by decide +kernel
theorem dX6_readOneStage_40 : decode cX6_readOneStage 40 = .ok (.iadd, 1) := by decide +kernel
theorem dX6_readOneStage_41 : decode cX6_readOneStage 41 = .ok (.aload_n 0, 1) := by decide +kernel
theorem dX6_readOneStage_42 : decode cX6_readOneStage 42 = .ok (.iload_n 1, 1) := by decide +kernel
theorem dX6_readOneStage_43 : decode cX6_readOneStage 43 = .ok (.iconst 0, 1) := by decide +kernel
theorem dX6_readOneStage_44 : decode cX6_readOneStage 44 = .ok (.iconst 4, 1) := by decide +kernel
theorem dX6_readOneStage_45 : decode cX6_readOneStage 45 = .ok (.invokevirtual 130, 3) := by decide +kernel
theorem dX6_readOneStage_48 : decode cX6_readOneStage 48 = .ok (.iastore, 1) := by decide +kernel
theorem dX6_readOneStage_49 : decode cX6_readOneStage 49 = .ok (.aload_n 0, 1) := by decide +kernel
theorem dX6_readOneStage_50 : decode cX6_readOneStage 50 = .ok (.dup, 1) := by decide +kernel
theorem dX6_readOneStage_51 : decode cX6_readOneStage 51 = .ok (.getfield 117, 3) := by decide +kernel
theorem dX6_readOneStage_54 : decode cX6_readOneStage 54 = .ok (.iconst 1, 1) := by decide +kernel
theorem dX6_readOneStage_55 : decode cX6_readOneStage 55 = .ok (.iadd, 1) := by decide +kernel
theorem dX6_readOneStage_56 : decode cX6_readOneStage 56 = .ok (.putfield 117, 3) := by decide +kernel
theorem dX6_readOneStage_59 : decode cX6_readOneStage 59 = .ok (.aload_n 0, 1) := by decide +kernel
theorem dX6_readOneStage_60 : decode cX6_readOneStage 60 = .ok (.getfield 42, 3) := by decide +kernel
theorem dX6_readOneStage_63 : decode cX6_readOneStage 63 = .ok (.iload_n 2, 1) := by decide +kernel
theorem dX6_readOneStage_64 : decode cX6_readOneStage 64 = .ok (.iconst 1, 1) := by decide +kernel
theorem dX6_readOneStage_65 : decode cX6_readOneStage 65 = .ok (.iadd, 1) := by decide +kernel
theorem dX6_readOneStage_66 : decode cX6_readOneStage 66 = .ok (.iaload, 1) := by decide +kernel
theorem dX6_readOneStage_67 : decode cX6_readOneStage 67 = .ok (.bipush (-9), 2) := by decide +kernel
theorem dX6_readOneStage_69 : decode cX6_readOneStage 69 = .ok (.if_icmp .eq 7, 3) := by decide +kernel
theorem dX6_readOneStage_72 : decode cX6_readOneStage 72 = .ok (.iconst 1, 1) := by decide +kernel
theorem dX6_readOneStage_73 : decode cX6_readOneStage 73 = .ok (.goto 4, 3) := by decide +kernel
theorem dX6_readOneStage_76 : decode cX6_readOneStage 76 = .ok (.iconst 0, 1) := by decide +kernel
theorem dX6_readOneStage_77 : decode cX6_readOneStage 77 = .ok (.ireturn, 1) := by decide +kernel
theorem dX6_readOneThing_0 : decode cX6_readOneThing 0 = .ok (.iconst 2, 1) := by decide +kernel
theorem dX6_readOneThing_1 : decode cX6_readOneThing 1 = .ok (.aload_n 0, 1) := by decide +kernel
theorem dX6_readOneThing_2 : decode cX6_readOneThing 2 = .ok (.getfield 120, 3) := by decide +kernel
theorem dX6_readOneThing_5 : decode cX6_readOneThing 5 = .ok (.imul, 1) := by decide +kernel
theorem dX6_readOneThing_6 : decode cX6_readOneThing 6 = .ok (.istore_n 2, 1) := by decide +kernel
theorem dX6_readOneThing_7 : decode cX6_readOneThing 7 = .ok (.aload_n 0, 1) := by decide +kernel
theorem dX6_readOneThing_8 : decode cX6_readOneThing 8 = .ok (.getfield 90, 3) := by decide +kernel
theorem dX6_readOneThing_11 : decode cX6_readOneThing 11 = .ok (.iload_n 1, 1) := by decide +kernel
theorem dX6_readOneThing_12 : decode cX6_readOneThing 12 = .ok (.if_icmp .ge 15, 3) := by decide +kernel
theorem dX6_readOneThing_15 : decode cX6_readOneThing 15 = .ok (.aload_n 0, 1) := by decide +kernel
theorem dX6_readOneThing_16 : decode cX6_readOneThing 16 = .ok (.getfield 16, 3) := by decide +kernel
theorem dX6_readOneThing_19 : decode cX6_readOneThing 19 = .ok (.aload_n 0, 1) := by decide +kernel
theorem dX6_readOneThing_20 : decode cX6_readOneThing 20 = .ok (.getfield 90, 3) := by decide +kernel
theorem dX6_readOneThing_23 : decode cX6_readOneThing 23 = .ok (.iaload, 1) := by decide +kernel
theorem dX6_readOneThing_24 : decode cX6_readOneThing 24 = .ok (.goto 4, 3) := by decide +kernel
theorem dX6_readOneThing_27 : decode cX6_readOneThing 27 = .ok (.iconst 0, 1) := by decide +kernel
theorem dX6_readOneThing_28 : decode cX6_readOneThing 28 = .ok (.istore_n 3, 1) := by decide +kernel
theorem dX6_readOneThing_29 : decode cX6_readOneThing 29 = .ok (.aload_n 0, 1) := by decide +kernel
theorem dX6_readOneThing_30 : decode cX6_readOneThing 30 = .ok (.getfield 45, 3) := by decide +kernel
theorem dX6_readOneThing_33 : decode cX6_readOneThing 33 = .ok (.iload_n 2, 1) := by decide +kernel
theorem dX6_readOneThing_34 : decode cX6_readOneThing 34 = .ok (.iload_n 3, 1) := by decide +kernel
theorem dX6_readOneThing_35 : decode cX6_readOneThing 35 = .ok (.bipush 116, 2) := by decide +kernel
theorem dX6_readOneThing_37 : decode cX6_readOneThing 37 = .ok (.if_icmp .ne 7, 3) := by decide +kernel
theorem dX6_readOneThing_40 : decode cX6_readOneThing 40 = .ok (.iconst 0, 1) := by decide +kernel
theorem dX6_readOneThing_41 : decode cX6_readOneThing 41 = .ok (.goto 25, 3) := by decide +kernel
theorem dX6_readOneThing_44 : decode cX6_readOneThing 44 = .ok (.iload_n 3, 1) := by decide +kernel
theorem dX6_readOneThing_45 : decode cX6_readOneThing 45 = .ok (.bipush 102, 2) := by decide +kernel
theorem dX6_readOneThing_47 : decode cX6_readOneThing 47 = .ok (.if_icmp .ne 7, 3) := by decide +kernel
theorem dX6_readOneThing_50 : decode cX6_readOneThing 50 = .ok (.iconst 1, 1) := by decide +kernel
theorem dX6_readOneThing_51 : decode cX6_readOneThing 51 = .ok (.goto 15, 3) := by decide +kernel
theorem dX6_readOneThing_54 : decode cX6_readOneThing 54 = .ok (.iload_n 3, 1) := by decide +kernel
theorem dX6_readOneThing_55 : decode cX6_readOneThing 55 = .ok (.bipush 99, 2) := by decide +kernel
theorem dX6_readOneThing_57 : decode cX6_readOneThing 57 = .ok (.if_icmp .ne 7, 3) := by decide +kernel
theorem dX6_readOneThing_60 : decode cX6_readOneThing 60 = .ok (.iconst 2, 1) := by decide +kernel
theorem dX6_readOneThing_61 : decode cX6_readOneThing 61 = .ok (.goto 5, 3) := by decide +kernel
theorem dX6_readOneThing_64 : decode cX6_readOneThing 64 = .ok (.bipush (-9), 2) := by decide +kernel
theorem dX6_readOneThing_66 : decode cX6_readOneThing 66 = .ok (.iastore, 1) := by decide +kernel
theorem dX6_readOneThing_67 : decode cX6_readOneThing 67 = .ok (.aload_n 0, 1) := by decide +kernel
theorem dX6_readOneThing_68 : decode cX6_readOneThing 68 = .ok (.getfield 45, 3) := by decide +kernel
theorem dX6_readOneThing_71 : decode cX6_readOneThing 71 = .ok (.iload_n 2, 1) := by decide +kernel
theorem dX6_readOneThing_72 : decode cX6_readOneThing 72 = .ok (.iaload, 1) := by decide +kernel
theorem dX6_readOneThing_73 : decode cX6_readOneThing 73 = .ok (.bipush (-9), 2) := by decide +kernel
theorem dX6_readOneThing_75 : decode cX6_readOneThing 75 = .ok (.if_icmp .ne 5, 3) := by decide +kernel
theorem dX6_readOneThing_78 : decode cX6_readOneThing 78 = .ok (.iconst 0, 1) := by decide +kernel
theorem dX6_readOneThing_79 : decode cX6_readOneThing 79 = .ok (.ireturn, 1) := by decide +kernel
theorem dX6_readOneThing_80 : decode cX6_readOneThing 80 = .ok (.aload_n 0, 1) := by decide +kernel
theorem dX6_readOneThing_81 : decode cX6_readOneThing 81 = .ok (.dup, 1) := by decide +kernel
theorem dX6_readOneThing_82 : decode cX6_readOneThing 82 = .ok (.getfield 90, 3) := by decide +kernel
theorem dX6_readOneThing_85 : decode cX6_readOneThing 85 = .ok (.iconst 1, 1) := by decide +kernel
theorem dX6_readOneThing_86 : decode cX6_readOneThing 86 = .ok (.iadd, 1) := by decide +kernel
theorem dX6_readOneThing_87 : decode cX6_readOneThing 87 = .ok (.putfield 90, 3) := by decide +kernel
theorem dX6_readOneThing_90 : decode cX6_readOneThing 90 = .ok (.aload_n 0, 1) := by decide +kernel
theorem dX6_readOneThing_91 : decode cX6_readOneThing 91 = .ok (.getfield 45, 3) := by decide +kernel
theorem dX6_readOneThing_94 : decode cX6_readOneThing 94 = .ok (.iload_n 2, 1) := by decide +kernel
theorem dX6_readOneThing_95 : decode cX6_readOneThing 95 = .ok (.iconst 1, 1) := by decide +kernel
theorem dX6_readOneThing_96 : decode cX6_readOneThing 96 = .ok (.iadd, 1) := by decide +kernel
theorem dX6_readOneThing_97 : decode cX6_readOneThing 97 = .ok (.aload_n 0, 1) := by decide +kernel
theorem dX6_readOneThing_98 : decode cX6_readOneThing 98 = .ok (.iload_n 1, 1) := by decide +kernel
theorem dX6_readOneThing_99 : decode cX6_readOneThing 99 = .ok (.iconst 1, 1) := by decide +kernel
theorem dX6_readOneThing_100 : decode cX6_readOneThing 100 = .ok (.bipush 9, 2) := by decide +kernel
theorem dX6_readOneThing_102 : decode cX6_readOneThing 102 = .ok (.invokevirtual 130, 3) := by decide +kernel
theorem dX6_readOneThing_105 : decode cX6_readOneThing 105 = .ok (.iastore, 1) := by decide +kernel
theorem dX6_readOneThing_106 : decode cX6_readOneThing 106 = .ok (.aload_n 0, 1) := by decide +kernel
theorem dX6_readOneThing_107 : decode cX6_readOneThing 107 = .ok (.dup, 1) := by decide +kernel
theorem dX6_readOneThing_108 : decode cX6_readOneThing 108 = .ok (.getfield 120, 3) := by decide +kernel
theorem dX6_readOneThing_111 : decode cX6_readOneThing 111 = .ok (.iconst 1, 1) := by decide +kernel
theorem dX6_readOneThing_112 : decode cX6_readOneThing 112 = .ok (.iadd, 1) := by decide +kernel
theorem dX6_readOneThing_113 : decode cX6_readOneThing 113 = .ok (.putfield 120, 3) := by decide +kernel
theorem dX6_readOneThing_116 : decode cX6_readOneThing 116 = .ok (.aload_n 0, 1) := by decide +kernel
theorem dX6_readOneThing_117 : decode cX6_readOneThing 117 = .ok (.getfield 45, 3) := by decide +kernel
theorem dX6_readOneThing_120 : decode cX6_readOneThing 120 = .ok (.iload_n 2, 1) := by decide +kernel
theorem dX6_readOneThing_121 : decode cX6_readOneThing 121 = .ok (.iconst 1, 1) := by decide +kernel
theorem dX6_readOneThing_122 : decode cX6_readOneThing 122 = .ok (.iadd, 1) := by decide +kernel
theorem dX6_readOneThing_123 : decode cX6_readOneThing 123 = .ok (.iaload, 1) := by decide +kernel
theorem dX6_readOneThing_124 : decode cX6_readOneThing 124 = .ok (.bipush (-9), 2) := by decide +kernel
theorem dX6_readOneThing_126 : decode cX6_readOneThing 126 = .ok (.if_icmp .eq 7, 3) := by decide +kernel
theorem dX6_readOneThing_129 : decode cX6_readOneThing 129 = .ok (.iconst 1, 1) := by decide +kernel
theorem dX6_readOneThing_130 : decode cX6_readOneThing 130 = .ok (.goto 4, 3) := by decide +kernel
theorem dX6_readOneThing_133 : decode cX6_readOneThing 133 = .ok (.iconst 0, 1) := by decide +kernel
theorem dX6_readOneThing_134 : decode cX6_readOneThing 134 = .ok (.ireturn, 1) := by decide +kernel
theorem dX6_ofStage_0 : decode cX6_ofStage 0 = .ok (.aload_n 0, 1) := by decide +kernel
theorem dX6_ofStage_1 : decode cX6_ofStage 1 = .ok (.iload_n 1, 1) := by decide +kernel
theorem dX6_ofStage_2 : decode cX6_ofStage 2 = .ok (.invokevirtual 140, 3) := by decide +kernel
theorem dX6_ofStage_5 : decode cX6_ofStage 5 = .ok (.ifCond .ne 5, 3) := by decide +kernel
theorem dX6_ofStage_8 : decode cX6_ofStage 8 = .ok (.iconst (-1), 1) := by decide +kernel
theorem dX6_ofStage_9 : decode cX6_ofStage 9 = .ok (.ireturn, 1) := by decide +kernel
theorem dX6_ofStage_10 : decode cX6_ofStage 10 = .ok (.iload_n 2, 1) := by decide +kernel
theorem dX6_ofStage_11 : decode cX6_ofStage 11 = .ok (.ifCond .ne 12, 3) := by decide +kernel
theorem dX6_ofStage_14 : decode cX6_ofStage 14 = .ok (.aload_n 0, 1) := by decide +kernel
theorem dX6_ofStage_15 : decode cX6_ofStage 15 = .ok (.getfield 23, 3) := by decide +kernel
theorem dX6_ofStage_18 : decode cX6_ofStage 18 = .ok (.iload_n 1, 1) := by decide +kernel
theorem dX6_ofStage_19 : decode cX6_ofStage 19 = .ok (.iaload, 1) := by decide +kernel
theorem dX6_ofStage_20 : decode cX6_ofStage 20 = .ok (.goto 41, 3) := by decide +kernel
theorem dX6_ofStage_23 : decode cX6_ofStage 23 = .ok (.iload_n 2, 1) := by decide +kernel
theorem dX6_ofStage_24 : decode cX6_ofStage 24 = .ok (.iconst 1, 1) := by decide +kernel
theorem dX6_ofStage_25 : decode cX6_ofStage 25 = .ok (.if_icmp .ne 12, 3) := by decide +kernel
theorem dX6_ofStage_28 : decode cX6_ofStage 28 = .ok (.aload_n 0, 1) := by decide +kernel
theorem dX6_ofStage_29 : decode cX6_ofStage 29 = .ok (.getfield 26, 3) := by decide +kernel
theorem dX6_ofStage_32 : decode cX6_ofStage 32 = .ok (.iload_n 1, 1) := by decide +kernel
theorem dX6_ofStage_33 : decode cX6_ofStage 33 = .ok (.iaload, 1) := by decide +kernel
theorem dX6_ofStage_34 : decode cX6_ofStage 34 = .ok (.goto 27, 3) := by decide +kernel
theorem dX6_ofStage_37 : decode cX6_ofStage 37 = .ok (.iload_n 2, 1) := by decide +kernel
theorem dX6_ofStage_38 : decode cX6_ofStage 38 = .ok (.iconst 2, 1) := by decide +kernel
theorem dX6_ofStage_39 : decode cX6_ofStage 39 = .ok (.if_icmp .ne 20, 3) := by decide +kernel
theorem dX6_ofStage_42 : decode cX6_ofStage 42 = .ok (.aload_n 0, 1) := by decide +kernel
theorem dX6_ofStage_43 : decode cX6_ofStage 43 = .ok (.getfield 29, 3) := by decide +kernel
theorem dX6_ofStage_46 : decode cX6_ofStage 46 = .ok (.iload_n 1, 1) := by decide +kernel
theorem dX6_ofStage_47 : decode cX6_ofStage 47 = .ok (.baload, 1) := by decide +kernel
theorem dX6_ofStage_48 : decode cX6_ofStage 48 = .ok (.ifCond .eq 7, 3) := by decide +kernel
theorem dX6_ofStage_51 : decode cX6_ofStage 51 = .ok (.iconst 1, 1) := by decide +kernel
theorem dX6_ofStage_52 : decode cX6_ofStage 52 = .ok (.goto 9, 3) := by decide +kernel
theorem dX6_ofStage_55 : decode cX6_ofStage 55 = .ok (.iconst 0, 1) := by decide +kernel
theorem dX6_ofStage_56 : decode cX6_ofStage 56 = .ok (.goto 5, 3) := by decide +kernel
theorem dX6_ofStage_59 : decode cX6_ofStage 59 = .ok (.bipush (-2), 2) := by decide +kernel
theorem dX6_ofStage_61 : decode cX6_ofStage 61 = .ok (.ireturn, 1) := by decide +kernel
theorem dX6_ofThing_0 : decode cX6_ofThing 0 = .ok (.aload_n 0, 1) := by decide +kernel
theorem dX6_ofThing_1 : decode cX6_ofThing 1 = .ok (.iload_n 1, 1) := by decide +kernel
theorem dX6_ofThing_2 : decode cX6_ofThing 2 = .ok (.invokevirtual 143, 3) := by decide +kernel
theorem dX6_ofThing_5 : decode cX6_ofThing 5 = .ok (.ifCond .ne 5, 3) := by decide +kernel
theorem dX6_ofThing_8 : decode cX6_ofThing 8 = .ok (.iconst (-1), 1) := by decide +kernel
theorem dX6_ofThing_9 : decode cX6_ofThing 9 = .ok (.ireturn, 1) := by decide +kernel
theorem dX6_ofThing_10 : decode cX6_ofThing 10 = .ok (.iload_n 2, 1) := by decide +kernel
theorem dX6_ofThing_11 : decode cX6_ofThing 11 = .ok (.ifCond .ne 12, 3) := by decide +kernel
theorem dX6_ofThing_14 : decode cX6_ofThing 14 = .ok (.aload_n 0, 1) := by decide +kernel
theorem dX6_ofThing_15 : decode cX6_ofThing 15 = .ok (.getfield 33, 3) := by decide +kernel
theorem dX6_ofThing_18 : decode cX6_ofThing 18 = .ok (.iload_n 1, 1) := by decide +kernel
theorem dX6_ofThing_19 : decode cX6_ofThing 19 = .ok (.iaload, 1) := by decide +kernel
theorem dX6_ofThing_20 : decode cX6_ofThing 20 = .ok (.goto 19, 3) := by decide +kernel
theorem dX6_ofThing_23 : decode cX6_ofThing 23 = .ok (.iload_n 2, 1) := by decide +kernel
theorem dX6_ofThing_24 : decode cX6_ofThing 24 = .ok (.iconst 1, 1) := by decide +kernel
theorem dX6_ofThing_25 : decode cX6_ofThing 25 = .ok (.if_icmp .ne 12, 3) := by decide +kernel
theorem dX6_ofThing_28 : decode cX6_ofThing 28 = .ok (.aload_n 0, 1) := by decide +kernel
theorem dX6_ofThing_29 : decode cX6_ofThing 29 = .ok (.getfield 36, 3) := by decide +kernel
theorem dX6_ofThing_32 : decode cX6_ofThing 32 = .ok (.iload_n 1, 1) := by decide +kernel
theorem dX6_ofThing_33 : decode cX6_ofThing 33 = .ok (.iaload, 1) := by decide +kernel
theorem dX6_ofThing_34 : decode cX6_ofThing 34 = .ok (.goto 5, 3) := by decide +kernel
theorem dX6_ofThing_37 : decode cX6_ofThing 37 = .ok (.bipush (-2), 2) := by decide +kernel
theorem dX6_ofThing_39 : decode cX6_ofThing 39 = .ok (.ireturn, 1) := by decide +kernel
theorem dX6_bears_0 : decode cX6_bears 0 = .ok (.iload_n 1, 1) := by decide +kernel
theorem dX6_bears_1 : decode cX6_bears 1 = .ok (.iconst 1, 1) := by decide +kernel
theorem dX6_bears_2 : decode cX6_bears 2 = .ok (.bipush 36, 2) := by decide +kernel
theorem dX6_bears_4 : decode cX6_bears 4 = .ok (.invokestatic 80, 3) := by decide +kernel
theorem dX6_bears_7 : decode cX6_bears 7 = .ok (.ifCond .ne 6, 3) := by decide +kernel
theorem dX6_bears_10 : decode cX6_bears 10 = .ok (.bipush (-2), 2) := by decide +kernel
theorem dX6_bears_12 : decode cX6_bears 12 = .ok (.ireturn, 1) := by decide +kernel
theorem dX6_bears_13 : decode cX6_bears 13 = .ok (.aload_n 0, 1) := by decide +kernel
theorem dX6_bears_14 : decode cX6_bears 14 = .ok (.getfield 84, 3) := by decide +kernel
theorem dX6_bears_17 : decode cX6_bears 17 = .ok (.ifCond .ne 6, 3) := by decide +kernel
theorem dX6_bears_20 : decode cX6_bears 20 = .ok (.bipush (-3), 2) := by decide +kernel
theorem dX6_bears_22 : decode cX6_bears 22 = .ok (.ireturn, 1) := by decide +kernel
theorem dX6_bears_23 : decode cX6_bears 23 = .ok (.aload_n 0, 1) := by decide +kernel
theorem dX6_bears_24 : decode cX6_bears 24 = .ok (.getfield 114, 3) := by decide +kernel
theorem dX6_bears_27 : decode cX6_bears 27 = .ok (.istore_n 2, 1) := by decide +kernel
theorem dX6_bears_28 : decode cX6_bears 28 = .ok (.aload_n 0, 1) := by decide +kernel
theorem dX6_bears_29 : decode cX6_bears 29 = .ok (.iload_n 1, 1) := by decide +kernel
theorem dX6_bears_30 : decode cX6_bears 30 = .ok (.putfield 114, 3) := by decide +kernel
theorem dX6_bears_33 : decode cX6_bears 33 = .ok (.iload_n 2, 1) := by decide +kernel
theorem dX6_bears_34 : decode cX6_bears 34 = .ok (.ireturn, 1) := by decide +kernel
theorem dX6_rain_0 : decode cX6_rain 0 = .ok (.iload_n 1, 1) := by decide +kernel
theorem dX6_rain_1 : decode cX6_rain 1 = .ok (.bipush (-9), 2) := by decide +kernel
theorem dX6_rain_3 : decode cX6_rain 3 = .ok (.if_icmp .eq 16, 3) := by decide +kernel
theorem dX6_rain_6 : decode cX6_rain 6 = .ok (.iload_n 1, 1) := by decide +kernel
theorem dX6_rain_7 : decode cX6_rain 7 = .ok (.iconst 0, 1) := by decide +kernel
theorem dX6_rain_8 : decode cX6_rain 8 = .ok (.bipush 99, 2) := by decide +kernel
theorem dX6_rain_10 : decode cX6_rain 10 = .ok (.invokestatic 80, 3) := by decide +kernel
theorem dX6_rain_13 : decode cX6_rain 13 = .ok (.ifCond .ne 6, 3) := by decide +kernel
theorem dX6_rain_16 : decode cX6_rain 16 = .ok (.bipush (-2), 2) := by decide +kernel
theorem dX6_rain_18 : decode cX6_rain 18 = .ok (.ireturn, 1) := by decide +kernel
theorem dX6_rain_19 : decode cX6_rain 19 = .ok (.aload_n 0, 1) := by decide +kernel
theorem dX6_rain_20 : decode cX6_rain 20 = .ok (.getfield 84, 3) := by decide +kernel
theorem dX6_rain_23 : decode cX6_rain 23 = .ok (.ifCond .ne 6, 3) := by decide +kernel
theorem dX6_rain_26 : decode cX6_rain 26 = .ok (.bipush (-3), 2) := by decide +kernel
theorem dX6_rain_28 : decode cX6_rain 28 = .ok (.ireturn, 1) := by decide +kernel
theorem dX6_rain_29 : decode cX6_rain 29 = .ok (.aload_n 0, 1) := by decide +kernel
theorem dX6_rain_30 : decode cX6_rain 30 = .ok (.getfield 19, 3) := by decide +kernel
theorem dX6_rain_33 : decode cX6_rain 33 = .ok (.istore_n 2, 1) := by decide +kernel
theorem dX6_rain_34 : decode cX6_rain 34 = .ok (.aload_n 0, 1) := by decide +kernel
theorem dX6_rain_35 : decode cX6_rain 35 = .ok (.iload_n 1, 1) := by decide +kernel
theorem dX6_rain_36 : decode cX6_rain 36 = .ok (.putfield 19, 3) := by decide +kernel
theorem dX6_rain_39 : decode cX6_rain 39 = .ok (.iload_n 2, 1) := by decide +kernel
theorem dX6_rain_40 : decode cX6_rain 40 = .ok (.ireturn, 1) := by decide +kernel
theorem dX6_boards_0 : decode cX6_boards 0 = .ok (.aload_n 0, 1) := by decide +kernel
theorem dX6_boards_1 : decode cX6_boards 1 = .ok (.iload_n 1, 1) := by decide +kernel
theorem dX6_boards_2 : decode cX6_boards 2 = .ok (.invokevirtual 140, 3) := by decide +kernel
theorem dX6_boards_5 : decode cX6_boards 5 = .ok (.ifCond .ne 5, 3) := by decide +kernel
theorem dX6_boards_8 : decode cX6_boards 8 = .ok (.iconst (-1), 1) := by decide +kernel
theorem dX6_boards_9 : decode cX6_boards 9 = .ok (.ireturn, 1) := by decide +kernel
theorem dX6_boards_10 : decode cX6_boards 10 = .ok (.aload_n 0, 1) := by decide +kernel
theorem dX6_boards_11 : decode cX6_boards 11 = .ok (.getfield 29, 3) := by decide +kernel
theorem dX6_boards_14 : decode cX6_boards 14 = .ok (.iload_n 1, 1) := by decide +kernel
theorem dX6_boards_15 : decode cX6_boards 15 = .ok (.baload, 1) := by decide +kernel
theorem dX6_boards_16 : decode cX6_boards 16 = .ok (.istore_n 3, 1) := by decide +kernel
theorem dX6_boards_17 : decode cX6_boards 17 = .ok (.aload_n 0, 1) := by decide +kernel
theorem dX6_boards_18 : decode cX6_boards 18 = .ok (.getfield 29, 3) := by decide +kernel
theorem dX6_boards_21 : decode cX6_boards 21 = .ok (.iload_n 1, 1) := by decide +kernel
theorem dX6_boards_22 : decode cX6_boards 22 = .ok (.iload_n 2, 1) := by decide +kernel
theorem dX6_boards_23 : decode cX6_boards 23 = .ok (.bastore, 1) := by decide +kernel
theorem dX6_boards_24 : decode cX6_boards 24 = .ok (.iload_n 3, 1) := by decide +kernel
theorem dX6_boards_25 : decode cX6_boards 25 = .ok (.iload_n 2, 1) := by decide +kernel
theorem dX6_boards_26 : decode cX6_boards 26 = .ok (.if_icmp .ne 7, 3) := by decide +kernel
theorem dX6_boards_29 : decode cX6_boards 29 = .ok (.iconst 0, 1) := by decide +kernel
theorem dX6_boards_30 : decode cX6_boards 30 = .ok (.goto 4, 3) := by decide +kernel
theorem dX6_boards_33 : decode cX6_boards 33 = .ok (.iconst 1, 1) := by decide +kernel
theorem dX6_boards_34 : decode cX6_boards 34 = .ok (.ireturn, 1) := by decide +kernel
theorem dX6_isWell_0 : decode cX6_isWell 0 = .ok (.aload_n 0, 1) := by decide +kernel
theorem dX6_isWell_1 : decode cX6_isWell 1 = .ok (.getfield 33, 3) := by decide +kernel
theorem dX6_isWell_4 : decode cX6_isWell 4 = .ok (.iload_n 1, 1) := by decide +kernel
theorem dX6_isWell_5 : decode cX6_isWell 5 = .ok (.iaload, 1) := by decide +kernel
theorem dX6_isWell_6 : decode cX6_isWell 6 = .ok (.ifCond .ne 5, 3) := by decide +kernel
theorem dX6_isWell_9 : decode cX6_isWell 9 = .ok (.iconst 1, 1) := by decide +kernel
theorem dX6_isWell_10 : decode cX6_isWell 10 = .ok (.ireturn, 1) := by decide +kernel
theorem dX6_isWell_11 : decode cX6_isWell 11 = .ok (.iconst 0, 1) := by decide +kernel
theorem dX6_isWell_12 : decode cX6_isWell 12 = .ok (.istore_n 3, 1) := by decide +kernel
theorem dX6_isWell_13 : decode cX6_isWell 13 = .ok (.iconst 0, 1) := by decide +kernel
theorem dX6_isWell_14 : decode cX6_isWell 14 = .ok (.istore 4, 2) := by decide +kernel
theorem dX6_isWell_16 : decode cX6_isWell 16 = .ok (.iload 4, 2) := by decide +kernel
theorem dX6_isWell_18 : decode cX6_isWell 18 = .ok (.aload_n 0, 1) := by decide +kernel
theorem dX6_isWell_19 : decode cX6_isWell 19 = .ok (.getfield 87, 3) := by decide +kernel
theorem dX6_isWell_22 : decode cX6_isWell 22 = .ok (.if_icmp .ge 40, 3) := by decide +kernel
theorem dX6_isWell_25 : decode cX6_isWell 25 = .ok (.iload_n 3, 1) := by decide +kernel
theorem dX6_isWell_26 : decode cX6_isWell 26 = .ok (.ifCond .ne 24, 3) := by decide +kernel
theorem dX6_isWell_29 : decode cX6_isWell 29 = .ok (.iload_n 2, 1) := by decide +kernel
theorem dX6_isWell_30 : decode cX6_isWell 30 = .ok (.iload 4, 2) := by decide +kernel
theorem dX6_isWell_32 : decode cX6_isWell 32 = .ok (.ishr, 1) := by decide +kernel
theorem dX6_isWell_33 : decode cX6_isWell 33 = .ok (.iconst 1, 1) := by decide +kernel
theorem dX6_isWell_34 : decode cX6_isWell 34 = .ok (.iand, 1) := by decide +kernel
theorem dX6_isWell_35 : decode cX6_isWell 35 = .ok (.iconst 1, 1) := by decide +kernel
theorem dX6_isWell_36 : decode cX6_isWell 36 = .ok (.if_icmp .ne 18, 3) := by decide +kernel
theorem dX6_isWell_39 : decode cX6_isWell 39 = .ok (.aload_n 0, 1) := by decide +kernel
theorem dX6_isWell_40 : decode cX6_isWell 40 = .ok (.getfield 33, 3) := by decide +kernel
theorem dX6_isWell_43 : decode cX6_isWell 43 = .ok (.iload 4, 2) := by decide +kernel
theorem dX6_isWell_45 : decode cX6_isWell 45 = .ok (.iaload, 1) := by decide +kernel
theorem dX6_isWell_46 : decode cX6_isWell 46 = .ok (.iconst 1, 1) := by decide +kernel
theorem dX6_isWell_47 : decode cX6_isWell 47 = .ok (.if_icmp .ne 7, 3) := by decide +kernel
theorem dX6_isWell_50 : decode cX6_isWell 50 = .ok (.iconst 1, 1) := by decide +kernel
theorem dX6_isWell_51 : decode cX6_isWell 51 = .ok (.goto 4, 3) := by decide +kernel
theorem dX6_isWell_54 : decode cX6_isWell 54 = .ok (.iconst 0, 1) := by decide +kernel
theorem dX6_isWell_55 : decode cX6_isWell 55 = .ok (.istore_n 3, 1) := by decide +kernel
theorem dX6_isWell_56 : decode cX6_isWell 56 = .ok (.iinc 4 1, 3) := by decide +kernel
theorem dX6_isWell_59 : decode cX6_isWell 59 = .ok (.goto (-43), 3) := by decide +kernel
theorem dX6_isWell_62 : decode cX6_isWell 62 = .ok (.iload_n 2, 1) := by decide +kernel
theorem dX6_isWell_63 : decode cX6_isWell 63 = .ok (.iconst 1, 1) := by decide +kernel
theorem dX6_isWell_64 : decode cX6_isWell 64 = .ok (.iload_n 1, 1) := by decide +kernel
theorem dX6_isWell_65 : decode cX6_isWell 65 = .ok (.ishl, 1) := by decide +kernel
theorem dX6_isWell_66 : decode cX6_isWell 66 = .ok (.iconst (-1), 1) := by decide +kernel
theorem dX6_isWell_67 : decode cX6_isWell 67 = .ok (.ixor, 1) := by decide +kernel
theorem dX6_isWell_68 : decode cX6_isWell 68 = .ok (.iand, 1) := by decide +kernel
theorem dX6_isWell_69 : decode cX6_isWell 69 = .ok (.ifCond .eq 21, 3) := by decide +kernel
theorem dX6_isWell_72 : decode cX6_isWell 72 = .ok (.aload_n 0, 1) := by decide +kernel
theorem dX6_isWell_73 : decode cX6_isWell 73 = .ok (.getfield 33, 3) := by decide +kernel
theorem dX6_isWell_76 : decode cX6_isWell 76 = .ok (.iload_n 1, 1) := by decide +kernel
theorem dX6_isWell_77 : decode cX6_isWell 77 = .ok (.iaload, 1) := by decide +kernel
theorem dX6_isWell_78 : decode cX6_isWell 78 = .ok (.iconst 1, 1) := by decide +kernel
theorem dX6_isWell_79 : decode cX6_isWell 79 = .ok (.if_icmp .eq 7, 3) := by decide +kernel
theorem dX6_isWell_82 : decode cX6_isWell 82 = .ok (.iload_n 3, 1) := by decide +kernel
theorem dX6_isWell_83 : decode cX6_isWell 83 = .ok (.ifCond .ne 7, 3) := by decide +kernel
theorem dX6_isWell_86 : decode cX6_isWell 86 = .ok (.iconst 1, 1) := by decide +kernel
theorem dX6_isWell_87 : decode cX6_isWell 87 = .ok (.goto 4, 3) := by decide +kernel
theorem dX6_isWell_90 : decode cX6_isWell 90 = .ok (.iconst 0, 1) := by decide +kernel
theorem dX6_isWell_91 : decode cX6_isWell 91 = .ok (.ireturn, 1) := by decide +kernel
theorem dX6_wellOf_0 : decode cX6_wellOf 0 = .ok (.iconst 0, 1) := by decide +kernel
theorem dX6_wellOf_1 : decode cX6_wellOf 1 = .ok (.istore_n 2, 1) := by decide +kernel
theorem dX6_wellOf_2 : decode cX6_wellOf 2 = .ok (.iconst 0, 1) := by decide +kernel
theorem dX6_wellOf_3 : decode cX6_wellOf 3 = .ok (.istore_n 3, 1) := by decide +kernel
theorem dX6_wellOf_4 : decode cX6_wellOf 4 = .ok (.iload_n 3, 1) := by decide +kernel
theorem dX6_wellOf_5 : decode cX6_wellOf 5 = .ok (.aload_n 0, 1) := by decide +kernel
theorem dX6_wellOf_6 : decode cX6_wellOf 6 = .ok (.getfield 87, 3) := by decide +kernel
theorem dX6_wellOf_9 : decode cX6_wellOf 9 = .ok (.if_icmp .ge 37, 3) := by decide +kernel
theorem dX6_wellOf_12 : decode cX6_wellOf 12 = .ok (.iload_n 2, 1) := by decide +kernel
theorem dX6_wellOf_13 : decode cX6_wellOf 13 = .ok (.iload_n 1, 1) := by decide +kernel
theorem dX6_wellOf_14 : decode cX6_wellOf 14 = .ok (.iload_n 3, 1) := by decide +kernel
theorem dX6_wellOf_15 : decode cX6_wellOf 15 = .ok (.ishr, 1) := by decide +kernel
theorem dX6_wellOf_16 : decode cX6_wellOf 16 = .ok (.iconst 1, 1) := by decide +kernel
theorem dX6_wellOf_17 : decode cX6_wellOf 17 = .ok (.iand, 1) := by decide +kernel
theorem dX6_wellOf_18 : decode cX6_wellOf 18 = .ok (.iconst 1, 1) := by decide +kernel
theorem dX6_wellOf_19 : decode cX6_wellOf 19 = .ok (.if_icmp .ne 18, 3) := by decide +kernel
theorem dX6_wellOf_22 : decode cX6_wellOf 22 = .ok (.aload_n 0, 1) := by decide +kernel
theorem dX6_wellOf_23 : decode cX6_wellOf 23 = .ok (.iload_n 3, 1) := by decide +kernel
theorem dX6_wellOf_24 : decode cX6_wellOf 24 = .ok (.iload_n 1, 1) := by decide +kernel
theorem dX6_wellOf_25 : decode cX6_wellOf 25 = .ok (.invokevirtual 146, 3) := by decide +kernel
theorem dX6_wellOf_28 : decode cX6_wellOf 28 = .ok (.ifCond .eq 9, 3) := by decide +kernel
theorem dX6_wellOf_31 : decode cX6_wellOf 31 = .ok (.iconst 1, 1) := by decide +kernel
theorem dX6_wellOf_32 : decode cX6_wellOf 32 = .ok (.iload_n 3, 1) := by decide +kernel
theorem dX6_wellOf_33 : decode cX6_wellOf 33 = .ok (.ishl, 1) := by decide +kernel
theorem dX6_wellOf_34 : decode cX6_wellOf 34 = .ok (.goto 4, 3) := by decide +kernel
theorem dX6_wellOf_37 : decode cX6_wellOf 37 = .ok (.iconst 0, 1) := by decide +kernel
theorem dX6_wellOf_38 : decode cX6_wellOf 38 = .ok (.ior, 1) := by decide +kernel
theorem dX6_wellOf_39 : decode cX6_wellOf 39 = .ok (.istore_n 2, 1) := by decide +kernel
theorem dX6_wellOf_40 : decode cX6_wellOf 40 = .ok (.iinc 3 1, 3) := by decide +kernel
theorem dX6_wellOf_43 : decode cX6_wellOf 43 = .ok (.goto (-39), 3) := by decide +kernel
theorem dX6_wellOf_46 : decode cX6_wellOf 46 = .ok (.iload_n 2, 1) := by decide +kernel
theorem dX6_wellOf_47 : decode cX6_wellOf 47 = .ok (.ireturn, 1) := by decide +kernel
theorem dX6_well_0 : decode cX6_well 0 = .ok (.iload_n 1, 1) := by decide +kernel
theorem dX6_well_1 : decode cX6_well 1 = .ok (.iconst 0, 1) := by decide +kernel
theorem dX6_well_2 : decode cX6_well 2 = .ok (.aload_n 0, 1) := by decide +kernel
theorem dX6_well_3 : decode cX6_well 3 = .ok (.invokevirtual 149, 3) := by decide +kernel
theorem dX6_well_6 : decode cX6_well 6 = .ok (.invokestatic 80, 3) := by decide +kernel
theorem dX6_well_9 : decode cX6_well 9 = .ok (.ifCond .ne 6, 3) := by decide +kernel
theorem dX6_well_12 : decode cX6_well 12 = .ok (.bipush (-2), 2) := by decide +kernel
theorem dX6_well_14 : decode cX6_well 14 = .ok (.ireturn, 1) := by decide +kernel
theorem dX6_well_15 : decode cX6_well 15 = .ok (.aload_n 0, 1) := by decide +kernel
theorem dX6_well_16 : decode cX6_well 16 = .ok (.getfield 84, 3) := by decide +kernel
theorem dX6_well_19 : decode cX6_well 19 = .ok (.ifCond .ne 8, 3) := by decide +kernel
theorem dX6_well_22 : decode cX6_well 22 = .ok (.bipush (-3), 2) := by decide +kernel
theorem dX6_well_24 : decode cX6_well 24 = .ok (.goto 8, 3) := by decide +kernel
theorem dX6_well_27 : decode cX6_well 27 = .ok (.aload_n 0, 1) := by decide +kernel
theorem dX6_well_28 : decode cX6_well 28 = .ok (.iload_n 1, 1) := by decide +kernel
theorem dX6_well_29 : decode cX6_well 29 = .ok (.invokevirtual 153, 3) := by decide +kernel
theorem dX6_well_32 : decode cX6_well 32 = .ok (.ireturn, 1) := by decide +kernel
theorem dX6_thingsAt_0 : decode cX6_thingsAt 0 = .ok (.iconst 0, 1) := by decide +kernel
theorem dX6_thingsAt_1 : decode cX6_thingsAt 1 = .ok (.istore_n 3, 1) := by decide +kernel
theorem dX6_thingsAt_2 : decode cX6_thingsAt 2 = .ok (.iconst 0, 1) := by decide +kernel
theorem dX6_thingsAt_3 : decode cX6_thingsAt 3 = .ok (.istore 4, 2) := by decide +kernel
theorem dX6_thingsAt_5 : decode cX6_thingsAt 5 = .ok (.iload 4, 2) := by decide +kernel
theorem dX6_thingsAt_7 : decode cX6_thingsAt 7 = .ok (.aload_n 0, 1) := by decide +kernel
theorem dX6_thingsAt_8 : decode cX6_thingsAt 8 = .ok (.getfield 87, 3) := by decide +kernel
theorem dX6_thingsAt_11 : decode cX6_thingsAt 11 = .ok (.if_icmp .ge 43, 3) := by decide +kernel
theorem dX6_thingsAt_14 : decode cX6_thingsAt 14 = .ok (.iload_n 3, 1) := by decide +kernel
theorem dX6_thingsAt_15 : decode cX6_thingsAt 15 = .ok (.iload 4, 2) := by decide +kernel
theorem dX6_thingsAt_17 : decode cX6_thingsAt 17 = .ok (.aload_n 0, 1) := by decide +kernel
theorem dX6_thingsAt_18 : decode cX6_thingsAt 18 = .ok (.getfield 39, 3) := by decide +kernel
theorem dX6_thingsAt_21 : decode cX6_thingsAt 21 = .ok (.if_icmp .eq 24, 3) := by decide +kernel
theorem dX6_thingsAt_24 : decode cX6_thingsAt 24 = .ok (.iload_n 1, 1) := by decide +kernel
theorem dX6_thingsAt_25 : decode cX6_thingsAt 25 = .ok (.iconst 2, 1) := by decide +kernel
theorem dX6_thingsAt_26 : decode cX6_thingsAt 26 = .ok (.iload 4, 2) := by decide +kernel
theorem dX6_thingsAt_28 : decode cX6_thingsAt 28 = .ok (.imul, 1) := by decide +kernel
theorem dX6_thingsAt_29 : decode cX6_thingsAt 29 = .ok (.iconst 2, 1) := by decide +kernel
theorem dX6_thingsAt_30 : decode cX6_thingsAt 30 = .ok (.iadd, 1) := by decide +kernel
theorem dX6_thingsAt_31 : decode cX6_thingsAt 31 = .ok (.ishr, 1) := by decide +kernel
theorem dX6_thingsAt_32 : decode cX6_thingsAt 32 = .ok (.iconst 3, 1) := by decide +kernel
theorem dX6_thingsAt_33 : decode cX6_thingsAt 33 = .ok (.iand, 1) := by decide +kernel
theorem dX6_thingsAt_34 : decode cX6_thingsAt 34 = .ok (.iload_n 2, 1) := by decide +kernel
theorem dX6_thingsAt_35 : decode cX6_thingsAt 35 = .ok (.if_icmp .ne 10, 3) := by decide +kernel
theorem dX6_thingsAt_38 : decode cX6_thingsAt 38 = .ok (.iconst 1, 1) := by decide +kernel
theorem dX6_thingsAt_39 : decode cX6_thingsAt 39 = .ok (.iload 4, 2) := by decide +kernel
theorem dX6_thingsAt_41 : decode cX6_thingsAt 41 = .ok (.ishl, 1) := by decide +kernel
theorem dX6_thingsAt_42 : decode cX6_thingsAt 42 = .ok (.goto 4, 3) := by decide +kernel
theorem dX6_thingsAt_45 : decode cX6_thingsAt 45 = .ok (.iconst 0, 1) := by decide +kernel
theorem dX6_thingsAt_46 : decode cX6_thingsAt 46 = .ok (.ior, 1) := by decide +kernel
theorem dX6_thingsAt_47 : decode cX6_thingsAt 47 = .ok (.istore_n 3, 1) := by decide +kernel
theorem dX6_thingsAt_48 : decode cX6_thingsAt 48 = .ok (.iinc 4 1, 3) := by decide +kernel
theorem dX6_thingsAt_51 : decode cX6_thingsAt 51 = .ok (.goto (-46), 3) := by decide +kernel
theorem dX6_thingsAt_54 : decode cX6_thingsAt 54 = .ok (.iload_n 3, 1) := by decide +kernel
theorem dX6_thingsAt_55 : decode cX6_thingsAt 55 = .ok (.ireturn, 1) := by decide +kernel
theorem dX6_poundsOf_0 : decode cX6_poundsOf 0 = .ok (.iconst 0, 1) := by decide +kernel
theorem dX6_poundsOf_1 : decode cX6_poundsOf 1 = .ok (.istore_n 2, 1) := by decide +kernel
theorem dX6_poundsOf_2 : decode cX6_poundsOf 2 = .ok (.iconst 0, 1) := by decide +kernel
theorem dX6_poundsOf_3 : decode cX6_poundsOf 3 = .ok (.istore_n 3, 1) := by decide +kernel
theorem dX6_poundsOf_4 : decode cX6_poundsOf 4 = .ok (.iload_n 3, 1) := by decide +kernel
theorem dX6_poundsOf_5 : decode cX6_poundsOf 5 = .ok (.aload_n 0, 1) := by decide +kernel
theorem dX6_poundsOf_6 : decode cX6_poundsOf 6 = .ok (.getfield 87, 3) := by decide +kernel
theorem dX6_poundsOf_9 : decode cX6_poundsOf 9 = .ok (.if_icmp .ge 31, 3) := by decide +kernel
theorem dX6_poundsOf_12 : decode cX6_poundsOf 12 = .ok (.iload_n 2, 1) := by decide +kernel
theorem dX6_poundsOf_13 : decode cX6_poundsOf 13 = .ok (.iload_n 1, 1) := by decide +kernel
theorem dX6_poundsOf_14 : decode cX6_poundsOf 14 = .ok (.iload_n 3, 1) := by decide +kernel
theorem dX6_poundsOf_15 : decode cX6_poundsOf 15 = .ok (.ishr, 1) := by decide +kernel
theorem dX6_poundsOf_16 : decode cX6_poundsOf 16 = .ok (.iconst 1, 1) := by decide +kernel
theorem dX6_poundsOf_17 : decode cX6_poundsOf 17 = .ok (.iand, 1) := by decide +kernel
theorem dX6_poundsOf_18 : decode cX6_poundsOf 18 = .ok (.iconst 1, 1) := by decide +kernel
theorem dX6_poundsOf_19 : decode cX6_poundsOf 19 = .ok (.if_icmp .ne 12, 3) := by decide +kernel
theorem dX6_poundsOf_22 : decode cX6_poundsOf 22 = .ok (.aload_n 0, 1) := by decide +kernel
theorem dX6_poundsOf_23 : decode cX6_poundsOf 23 = .ok (.getfield 36, 3) := by decide +kernel
theorem dX6_poundsOf_26 : decode cX6_poundsOf 26 = .ok (.iload_n 3, 1) := by decide +kernel
theorem dX6_poundsOf_27 : decode cX6_poundsOf 27 = .ok (.iaload, 1) := by decide +kernel
theorem dX6_poundsOf_28 : decode cX6_poundsOf 28 = .ok (.goto 4, 3) := by decide +kernel
theorem dX6_poundsOf_31 : decode cX6_poundsOf 31 = .ok (.iconst 0, 1) := by decide +kernel
theorem dX6_poundsOf_32 : decode cX6_poundsOf 32 = .ok (.iadd, 1) := by decide +kernel
theorem dX6_poundsOf_33 : decode cX6_poundsOf 33 = .ok (.istore_n 2, 1) := by decide +kernel
theorem dX6_poundsOf_34 : decode cX6_poundsOf 34 = .ok (.iinc 3 1, 3) := by decide +kernel
theorem dX6_poundsOf_37 : decode cX6_poundsOf 37 = .ok (.goto (-33), 3) := by decide +kernel
theorem dX6_poundsOf_40 : decode cX6_poundsOf 40 = .ok (.iload_n 2, 1) := by decide +kernel
theorem dX6_poundsOf_41 : decode cX6_poundsOf 41 = .ok (.ireturn, 1) := by decide +kernel
theorem dX6_mayGo_0 : decode cX6_mayGo 0 = .ok (.iload_n 1, 1) := by decide +kernel
theorem dX6_mayGo_1 : decode cX6_mayGo 1 = .ok (.iconst 3, 1) := by decide +kernel
theorem dX6_mayGo_2 : decode cX6_mayGo 2 = .ok (.iand, 1) := by decide +kernel
theorem dX6_mayGo_3 : decode cX6_mayGo 3 = .ok (.istore 4, 2) := by decide +kernel
theorem dX6_mayGo_5 : decode cX6_mayGo 5 = .ok (.aload_n 0, 1) := by decide +kernel
theorem dX6_mayGo_6 : decode cX6_mayGo 6 = .ok (.iload_n 1, 1) := by decide +kernel
theorem dX6_mayGo_7 : decode cX6_mayGo 7 = .ok (.iload 4, 2) := by decide +kernel
theorem dX6_mayGo_9 : decode cX6_mayGo 9 = .ok (.invokevirtual 156, 3) := by decide +kernel
theorem dX6_mayGo_12 : decode cX6_mayGo 12 = .ok (.istore 5, 2) := by decide +kernel
theorem dX6_mayGo_14 : decode cX6_mayGo 14 = .ok (.iload_n 2, 1) := by decide +kernel
theorem dX6_mayGo_15 : decode cX6_mayGo 15 = .ok (.iload 4, 2) := by decide +kernel
theorem dX6_mayGo_17 : decode cX6_mayGo 17 = .ok (.iconst 1, 1) := by decide +kernel
theorem dX6_mayGo_18 : decode cX6_mayGo 18 = .ok (.iadd, 1) := by decide +kernel
theorem dX6_mayGo_19 : decode cX6_mayGo 19 = .ok (.if_icmp .eq 11, 3) := by decide +kernel
theorem dX6_mayGo_22 : decode cX6_mayGo 22 = .ok (.iload_n 2, 1) := by decide +kernel
theorem dX6_mayGo_23 : decode cX6_mayGo 23 = .ok (.iload 4, 2) := by decide +kernel
theorem dX6_mayGo_25 : decode cX6_mayGo 25 = .ok (.iconst 1, 1) := by decide +kernel
theorem dX6_mayGo_26 : decode cX6_mayGo 26 = .ok (.isub, 1) := by decide +kernel
theorem dX6_mayGo_27 : decode cX6_mayGo 27 = .ok (.if_icmp .ne 7, 3) := by decide +kernel
theorem dX6_mayGo_30 : decode cX6_mayGo 30 = .ok (.iconst 1, 1) := by decide +kernel
theorem dX6_mayGo_31 : decode cX6_mayGo 31 = .ok (.goto 4, 3) := by decide +kernel
theorem dX6_mayGo_34 : decode cX6_mayGo 34 = .ok (.iconst 0, 1) := by decide +kernel
theorem dX6_mayGo_35 : decode cX6_mayGo 35 = .ok (.istore 6, 2) := by decide +kernel
theorem dX6_mayGo_37 : decode cX6_mayGo 37 = .ok (.aload_n 0, 1) := by decide +kernel
theorem dX6_mayGo_38 : decode cX6_mayGo 38 = .ok (.iload_n 2, 1) := by decide +kernel
theorem dX6_mayGo_39 : decode cX6_mayGo 39 = .ok (.invokevirtual 160, 3) := by decide +kernel
theorem dX6_mayGo_42 : decode cX6_mayGo 42 = .ok (.ifCond .eq 29, 3) := by decide +kernel
theorem dX6_mayGo_45 : decode cX6_mayGo 45 = .ok (.iload 6, 2) := by decide +kernel
theorem dX6_mayGo_47 : decode cX6_mayGo 47 = .ok (.ifCond .eq 24, 3) := by decide +kernel
theorem dX6_mayGo_50 : decode cX6_mayGo 50 = .ok (.iload_n 3, 1) := by decide +kernel
theorem dX6_mayGo_51 : decode cX6_mayGo 51 = .ok (.iload 5, 2) := by decide +kernel
theorem dX6_mayGo_53 : decode cX6_mayGo 53 = .ok (.iconst (-1), 1) := by decide +kernel
theorem dX6_mayGo_54 : decode cX6_mayGo 54 = .ok (.ixor, 1) := by decide +kernel
theorem dX6_mayGo_55 : decode cX6_mayGo 55 = .ok (.iand, 1) := by decide +kernel
theorem dX6_mayGo_56 : decode cX6_mayGo 56 = .ok (.ifCond .ne 15, 3) := by decide +kernel
theorem dX6_mayGo_59 : decode cX6_mayGo 59 = .ok (.aload_n 0, 1) := by decide +kernel
theorem dX6_mayGo_60 : decode cX6_mayGo 60 = .ok (.iload_n 3, 1) := by decide +kernel
theorem dX6_mayGo_61 : decode cX6_mayGo 61 = .ok (.invokevirtual 163, 3) := by decide +kernel
theorem dX6_mayGo_64 : decode cX6_mayGo 64 = .ok (.aload_n 0, 1) := by decide +kernel
theorem dX6_mayGo_65 : decode cX6_mayGo 65 = .ok (.getfield 114, 3) := by decide +kernel
theorem dX6_mayGo_68 : decode cX6_mayGo 68 = .ok (.if_icmp .le 5, 3) := by decide +kernel
theorem dX6_mayGo_71 : decode cX6_mayGo 71 = .ok (.iconst 0, 1) := by decide +kernel
theorem dX6_mayGo_72 : decode cX6_mayGo 72 = .ok (.ireturn, 1) := by decide +kernel
theorem dX6_mayGo_73 : decode cX6_mayGo 73 = .ok (.iload 5, 2) := by decide +kernel
theorem dX6_mayGo_75 : decode cX6_mayGo 75 = .ok (.iload_n 3, 1) := by decide +kernel
theorem dX6_mayGo_76 : decode cX6_mayGo 76 = .ok (.iconst (-1), 1) := by decide +kernel
theorem dX6_mayGo_77 : decode cX6_mayGo 77 = .ok (.ixor, 1) := by decide +kernel
theorem dX6_mayGo_78 : decode cX6_mayGo 78 = .ok (.iand, 1) := by decide +kernel
theorem dX6_mayGo_79 : decode cX6_mayGo 79 = .ok (.istore 7, 2) := by decide +kernel
theorem dX6_mayGo_81 : decode cX6_mayGo 81 = .ok (.aload_n 0, 1) := by decide +kernel
theorem dX6_mayGo_82 : decode cX6_mayGo 82 = .ok (.iload 7, 2) := by decide +kernel
theorem dX6_mayGo_84 : decode cX6_mayGo 84 = .ok (.invokevirtual 153, 3) := by decide +kernel
theorem dX6_mayGo_87 : decode cX6_mayGo 87 = .ok (.iload 7, 2) := by decide +kernel
theorem dX6_mayGo_89 : decode cX6_mayGo 89 = .ok (.if_icmp .ne 7, 3) := by decide +kernel
theorem dX6_mayGo_92 : decode cX6_mayGo 92 = .ok (.iconst 1, 1) := by decide +kernel
theorem dX6_mayGo_93 : decode cX6_mayGo 93 = .ok (.goto 4, 3) := by decide +kernel
theorem dX6_mayGo_96 : decode cX6_mayGo 96 = .ok (.iconst 0, 1) := by decide +kernel
theorem dX6_mayGo_97 : decode cX6_mayGo 97 = .ok (.ireturn, 1) := by decide +kernel
theorem dX6_gone_0 : decode cX6_gone 0 = .ok (.iload_n 0, 1) := by decide +kernel
theorem dX6_gone_1 : decode cX6_gone 1 = .ok (.bipush (-4), 2) := by decide +kernel
theorem dX6_gone_3 : decode cX6_gone 3 = .ok (.iand, 1) := by decide +kernel
theorem dX6_gone_4 : decode cX6_gone 4 = .ok (.iload_n 1, 1) := by decide +kernel
theorem dX6_gone_5 : decode cX6_gone 5 = .ok (.ior, 1) := by decide +kernel
theorem dX6_gone_6 : decode cX6_gone 6 = .ok (.istore_n 3, 1) := by decide +kernel
theorem dX6_gone_7 : decode cX6_gone 7 = .ok (.iconst 0, 1) := by decide +kernel
theorem dX6_gone_8 : decode cX6_gone 8 = .ok (.istore 4, 2) := by decide +kernel
theorem dX6_gone_10 : decode cX6_gone 10 = .ok (.iload 4, 2) := by decide +kernel
theorem dX6_gone_12 : decode cX6_gone 12 = .ok (.iconst 4, 1) := by decide +kernel
theorem dX6_gone_13 : decode cX6_gone 13 = .ok (.if_icmp .ge 41, 3) := by decide +kernel
theorem dX6_gone_16 : decode cX6_gone 16 = .ok (.iload_n 2, 1) := by decide +kernel
theorem dX6_gone_17 : decode cX6_gone 17 = .ok (.iload 4, 2) := by decide +kernel
theorem dX6_gone_19 : decode cX6_gone 19 = .ok (.ishr, 1) := by decide +kernel
theorem dX6_gone_20 : decode cX6_gone 20 = .ok (.iconst 1, 1) := by decide +kernel
theorem dX6_gone_21 : decode cX6_gone 21 = .ok (.iand, 1) := by decide +kernel
theorem dX6_gone_22 : decode cX6_gone 22 = .ok (.iconst 1, 1) := by decide +kernel
theorem dX6_gone_23 : decode cX6_gone 23 = .ok (.if_icmp .ne 25, 3) := by decide +kernel
theorem dX6_gone_26 : decode cX6_gone 26 = .ok (.iload_n 3, 1) := by decide +kernel
theorem dX6_gone_27 : decode cX6_gone 27 = .ok (.iconst 3, 1) := by decide +kernel
theorem dX6_gone_28 : decode cX6_gone 28 = .ok (.iconst 2, 1) := by decide +kernel
theorem dX6_gone_29 : decode cX6_gone 29 = .ok (.iload 4, 2) := by decide +kernel
theorem dX6_gone_31 : decode cX6_gone 31 = .ok (.imul, 1) := by decide +kernel
theorem dX6_gone_32 : decode cX6_gone 32 = .ok (.iconst 2, 1) := by decide +kernel
theorem dX6_gone_33 : decode cX6_gone 33 = .ok (.iadd, 1) := by decide +kernel
theorem dX6_gone_34 : decode cX6_gone 34 = .ok (.ishl, 1) := by decide +kernel
theorem dX6_gone_35 : decode cX6_gone 35 = .ok (.iconst (-1), 1) := by decide +kernel
theorem dX6_gone_36 : decode cX6_gone 36 = .ok (.ixor, 1) := by decide +kernel
theorem dX6_gone_37 : decode cX6_gone 37 = .ok (.iand, 1) := by decide +kernel
theorem dX6_gone_38 : decode cX6_gone 38 = .ok (.iload_n 1, 1) := by decide +kernel
theorem dX6_gone_39 : decode cX6_gone 39 = .ok (.iconst 2, 1) := by decide +kernel
theorem dX6_gone_40 : decode cX6_gone 40 = .ok (.iload 4, 2) := by decide +kernel
theorem dX6_gone_42 : decode cX6_gone 42 = .ok (.imul, 1) := by decide +kernel
theorem dX6_gone_43 : decode cX6_gone 43 = .ok (.iconst 2, 1) := by decide +kernel
theorem dX6_gone_44 : decode cX6_gone 44 = .ok (.iadd, 1) := by decide +kernel
theorem dX6_gone_45 : decode cX6_gone 45 = .ok (.ishl, 1) := by decide +kernel
theorem dX6_gone_46 : decode cX6_gone 46 = .ok (.ior, 1) := by decide +kernel
theorem dX6_gone_47 : decode cX6_gone 47 = .ok (.istore_n 3, 1) := by decide +kernel
theorem dX6_gone_48 : decode cX6_gone 48 = .ok (.iinc 4 1, 3) := by decide +kernel
theorem dX6_gone_51 : decode cX6_gone 51 = .ok (.goto (-41), 3) := by decide +kernel
theorem dX6_gone_54 : decode cX6_gone 54 = .ok (.iload_n 3, 1) := by decide +kernel
theorem dX6_gone_55 : decode cX6_gone 55 = .ok (.ireturn, 1) := by decide +kernel
theorem dX6_stageOf_0 : decode cX6_stageOf 0 = .ok (.iload_n 1, 1) := by decide +kernel
theorem dX6_stageOf_1 : decode cX6_stageOf 1 = .ok (.iload_n 2, 1) := by decide +kernel
theorem dX6_stageOf_2 : decode cX6_stageOf 2 = .ok (.if_icmp .ge 7, 3) := by decide +kernel
theorem dX6_stageOf_5 : decode cX6_stageOf 5 = .ok (.iload_n 1, 1) := by decide +kernel
theorem dX6_stageOf_6 : decode cX6_stageOf 6 = .ok (.goto 4, 3) := by decide +kernel
theorem dX6_stageOf_9 : decode cX6_stageOf 9 = .ok (.iload_n 2, 1) := by decide +kernel
theorem dX6_stageOf_10 : decode cX6_stageOf 10 = .ok (.ireturn, 1) := by decide +kernel
theorem dX6_mudOf_0 : decode cX6_mudOf 0 = .ok (.aload_n 0, 1) := by decide +kernel
theorem dX6_mudOf_1 : decode cX6_mudOf 1 = .ok (.getfield 29, 3) := by decide +kernel
theorem dX6_mudOf_4 : decode cX6_mudOf 4 = .ok (.iload_n 1, 1) := by decide +kernel
theorem dX6_mudOf_5 : decode cX6_mudOf 5 = .ok (.baload, 1) := by decide +kernel
theorem dX6_mudOf_6 : decode cX6_mudOf 6 = .ok (.ifCond .eq 5, 3) := by decide +kernel
theorem dX6_mudOf_9 : decode cX6_mudOf 9 = .ok (.iconst 0, 1) := by decide +kernel
theorem dX6_mudOf_10 : decode cX6_mudOf 10 = .ok (.ireturn, 1) := by decide +kernel
theorem dX6_mudOf_11 : decode cX6_mudOf 11 = .ok (.aload_n 0, 1) := by decide +kernel
theorem dX6_mudOf_12 : decode cX6_mudOf 12 = .ok (.getfield 19, 3) := by decide +kernel
theorem dX6_mudOf_15 : decode cX6_mudOf 15 = .ok (.bipush (-9), 2) := by decide +kernel
theorem dX6_mudOf_17 : decode cX6_mudOf 17 = .ok (.if_icmp .eq 22, 3) := by decide +kernel
theorem dX6_mudOf_20 : decode cX6_mudOf 20 = .ok (.iload_n 2, 1) := by decide +kernel
theorem dX6_mudOf_21 : decode cX6_mudOf 21 = .ok (.aload_n 0, 1) := by decide +kernel
theorem dX6_mudOf_22 : decode cX6_mudOf 22 = .ok (.getfield 19, 3) := by decide +kernel
theorem dX6_mudOf_25 : decode cX6_mudOf 25 = .ok (.if_icmp .lt 14, 3) := by decide +kernel
theorem dX6_mudOf_28 : decode cX6_mudOf 28 = .ok (.iconst 2, 1) := by decide +kernel
theorem dX6_mudOf_29 : decode cX6_mudOf 29 = .ok (.aload_n 0, 1) := by decide +kernel
theorem dX6_mudOf_30 : decode cX6_mudOf 30 = .ok (.getfield 26, 3) := by decide +kernel
theorem dX6_mudOf_33 : decode cX6_mudOf 33 = .ok (.iload_n 1, 1) := by decide +kernel
theorem dX6_mudOf_34 : decode cX6_mudOf 34 = .ok (.iaload, 1) := by decide +kernel
theorem dX6_mudOf_35 : decode cX6_mudOf 35 = .ok (.imul, 1) := by decide +kernel
theorem dX6_mudOf_36 : decode cX6_mudOf 36 = .ok (.goto 9, 3) := by decide +kernel
theorem dX6_mudOf_39 : decode cX6_mudOf 39 = .ok (.aload_n 0, 1) := by decide +kernel
theorem dX6_mudOf_40 : decode cX6_mudOf 40 = .ok (.getfield 26, 3) := by decide +kernel
theorem dX6_mudOf_43 : decode cX6_mudOf 43 = .ok (.iload_n 1, 1) := by decide +kernel
theorem dX6_mudOf_44 : decode cX6_mudOf 44 = .ok (.iaload, 1) := by decide +kernel
theorem dX6_mudOf_45 : decode cX6_mudOf 45 = .ok (.ireturn, 1) := by decide +kernel
theorem dX6_takes_0 : decode cX6_takes 0 = .ok (.aload_n 0, 1) := by decide +kernel
theorem dX6_takes_1 : decode cX6_takes 1 = .ok (.iload_n 1, 1) := by decide +kernel
theorem dX6_takes_2 : decode cX6_takes 2 = .ok (.iload_n 2, 1) := by decide +kernel
theorem dX6_takes_3 : decode cX6_takes 3 = .ok (.invokevirtual 166, 3) := by decide +kernel
theorem dX6_takes_6 : decode cX6_takes 6 = .ok (.istore 5, 2) := by decide +kernel
theorem dX6_takes_8 : decode cX6_takes 8 = .ok (.iload_n 3, 1) := by decide +kernel
theorem dX6_takes_9 : decode cX6_takes 9 = .ok (.ifCond .ne 13, 3) := by decide +kernel
theorem dX6_takes_12 : decode cX6_takes 12 = .ok (.aload_n 0, 1) := by decide +kernel
theorem dX6_takes_13 : decode cX6_takes 13 = .ok (.getfield 23, 3) := by decide +kernel
theorem dX6_takes_16 : decode cX6_takes 16 = .ok (.iload 5, 2) := by decide +kernel
theorem dX6_takes_18 : decode cX6_takes 18 = .ok (.iaload, 1) := by decide +kernel
theorem dX6_takes_19 : decode cX6_takes 19 = .ok (.goto 27, 3) := by decide +kernel
theorem dX6_takes_22 : decode cX6_takes 22 = .ok (.aload_n 0, 1) := by decide +kernel
theorem dX6_takes_23 : decode cX6_takes 23 = .ok (.getfield 23, 3) := by decide +kernel
theorem dX6_takes_26 : decode cX6_takes 26 = .ok (.iload 5, 2) := by decide +kernel
theorem dX6_takes_28 : decode cX6_takes 28 = .ok (.iaload, 1) := by decide +kernel
theorem dX6_takes_29 : decode cX6_takes 29 = .ok (.aload_n 0, 1) := by decide +kernel
theorem dX6_takes_30 : decode cX6_takes 30 = .ok (.iload 5, 2) := by decide +kernel
theorem dX6_takes_32 : decode cX6_takes 32 = .ok (.iload 4, 2) := by decide +kernel
theorem dX6_takes_34 : decode cX6_takes 34 = .ok (.invokevirtual 169, 3) := by decide +kernel
theorem dX6_takes_37 : decode cX6_takes 37 = .ok (.iadd, 1) := by decide +kernel
theorem dX6_takes_38 : decode cX6_takes 38 = .ok (.aload_n 0, 1) := by decide +kernel
theorem dX6_takes_39 : decode cX6_takes 39 = .ok (.iload_n 3, 1) := by decide +kernel
theorem dX6_takes_40 : decode cX6_takes 40 = .ok (.invokevirtual 163, 3) := by decide +kernel
theorem dX6_takes_43 : decode cX6_takes 43 = .ok (.iconst 3, 1) := by decide +kernel
theorem dX6_takes_44 : decode cX6_takes 44 = .ok (.idiv, 1) := by decide +kernel
theorem dX6_takes_45 : decode cX6_takes 45 = .ok (.iadd, 1) := by decide +kernel
theorem dX6_takes_46 : decode cX6_takes 46 = .ok (.ireturn, 1) := by decide +kernel
theorem dX6_layTrips_0 : decode cX6_layTrips 0 = .ok (.aload_n 0, 1) := by decide +kernel
theorem dX6_layTrips_1 : decode cX6_layTrips 1 = .ok (.iload_n 1, 1) := by decide +kernel
theorem dX6_layTrips_2 : decode cX6_layTrips 2 = .ok (.iload_n 2, 1) := by decide +kernel
theorem dX6_layTrips_3 : decode cX6_layTrips 3 = .ok (.iload_n 3, 1) := by decide +kernel
theorem dX6_layTrips_4 : decode cX6_layTrips 4 = .ok (.iconst 2, 1) := by decide +kernel
theorem dX6_layTrips_5 : decode cX6_layTrips 5 = .ok (.iload 4, 2) := by decide +kernel
theorem dX6_layTrips_7 : decode cX6_layTrips 7 = .ok (.imul, 1) := by decide +kernel
theorem dX6_layTrips_8 : decode cX6_layTrips 8 = .ok (.invokevirtual 100, 3) := by decide +kernel
theorem dX6_layTrips_11 : decode cX6_layTrips 11 = .ok (.istore 5, 2) := by decide +kernel
theorem dX6_layTrips_13 : decode cX6_layTrips 13 = .ok (.iload 5, 2) := by decide +kernel
theorem dX6_layTrips_15 : decode cX6_layTrips 15 = .ok (.ifCond .eq 10, 3) := by decide +kernel
theorem dX6_layTrips_18 : decode cX6_layTrips 18 = .ok (.aload_n 0, 1) := by decide +kernel
theorem dX6_layTrips_19 : decode cX6_layTrips 19 = .ok (.iload 5, 2) := by decide +kernel
theorem dX6_layTrips_21 : decode cX6_layTrips 21 = .ok (.invokevirtual 104, 3) := by decide +kernel
theorem dX6_layTrips_24 : decode cX6_layTrips 24 = .ok (.ireturn, 1) := by decide +kernel
theorem dX6_layTrips_25 : decode cX6_layTrips 25 = .ok (.aload_n 0, 1) := by decide +kernel
theorem dX6_layTrips_26 : decode cX6_layTrips 26 = .ok (.getfield 84, 3) := by decide +kernel
theorem dX6_layTrips_29 : decode cX6_layTrips 29 = .ok (.ifCond .ne 6, 3) := by decide +kernel
theorem dX6_layTrips_32 : decode cX6_layTrips 32 = .ok (.bipush (-3), 2) := by decide +kernel
theorem dX6_layTrips_34 : decode cX6_layTrips 34 = .ok (.ireturn, 1) := by decide +kernel
theorem dX6_layTrips_35 : decode cX6_layTrips 35 = .ok (.bipush 60, 2) := by decide +kernel
theorem dX6_layTrips_37 : decode cX6_layTrips 37 = .ok (.iload_n 1, 1) := by decide +kernel
theorem dX6_layTrips_38 : decode cX6_layTrips 38 = .ok (.imul, 1) := by decide +kernel
theorem dX6_layTrips_39 : decode cX6_layTrips 39 = .ok (.iload_n 3, 1) := by decide +kernel
theorem dX6_layTrips_40 : decode cX6_layTrips 40 = .ok (.iadd, 1) := by decide +kernel
theorem dX6_layTrips_41 : decode cX6_layTrips 41 = .ok (.istore 6, 2) := by decide +kernel
theorem dX6_layTrips_43 : decode cX6_layTrips 43 = .ok (.iconst 0, 1) := by decide +kernel
theorem dX6_layTrips_44 : decode cX6_layTrips 44 = .ok (.istore 7, 2) := by decide +kernel
theorem dX6_layTrips_46 : decode cX6_layTrips 46 = .ok (.iload 7, 2) := by decide +kernel
theorem dX6_layTrips_48 : decode cX6_layTrips 48 = .ok (.iload 4, 2) := by decide +kernel
theorem dX6_layTrips_50 : decode cX6_layTrips 50 = .ok (.if_icmp .ge 98, 3) := by decide +kernel
theorem dX6_layTrips_53 : decode cX6_layTrips 53 = .ok (.aload_n 0, 1) := by decide +kernel
theorem dX6_layTrips_54 : decode cX6_layTrips 54 = .ok (.aload_n 0, 1) := by decide +kernel
theorem dX6_layTrips_55 : decode cX6_layTrips 55 = .ok (.getfield 16, 3) := by decide +kernel
theorem dX6_layTrips_58 : decode cX6_layTrips 58 = .ok (.iload 6, 2) := by decide +kernel
theorem dX6_layTrips_60 : decode cX6_layTrips 60 = .ok (.iconst 2, 1) := by decide +kernel
theorem dX6_layTrips_61 : decode cX6_layTrips 61 = .ok (.iload 7, 2) := by decide +kernel
theorem dX6_layTrips_63 : decode cX6_layTrips 63 = .ok (.imul, 1) := by decide +kernel
theorem dX6_layTrips_64 : decode cX6_layTrips 64 = .ok (.iadd, 1) := by decide +kernel
theorem dX6_layTrips_65 : decode cX6_layTrips 65 = .ok (.iaload, 1) := by decide +kernel
theorem dX6_layTrips_66 : decode cX6_layTrips 66 = .ok (.invokevirtual 160, 3) := by decide +kernel
theorem dX6_layTrips_69 : decode cX6_layTrips 69 = .ok (.ifCond .ne 5, 3) := by decide +kernel
theorem dX6_layTrips_72 : decode cX6_layTrips 72 = .ok (.iconst (-1), 1) := by decide +kernel
theorem dX6_layTrips_73 : decode cX6_layTrips 73 = .ok (.ireturn, 1) := by decide +kernel
theorem dX6_layTrips_74 : decode cX6_layTrips 74 = .ok (.aload_n 0, 1) := by decide +kernel
theorem dX6_layTrips_75 : decode cX6_layTrips 75 = .ok (.getfield 16, 3) := by decide +kernel
theorem dX6_layTrips_78 : decode cX6_layTrips 78 = .ok (.iload 6, 2) := by decide +kernel
theorem dX6_layTrips_80 : decode cX6_layTrips 80 = .ok (.iconst 2, 1) := by decide +kernel
theorem dX6_layTrips_81 : decode cX6_layTrips 81 = .ok (.iload 7, 2) := by decide +kernel
theorem dX6_layTrips_83 : decode cX6_layTrips 83 = .ok (.imul, 1) := by decide +kernel
theorem dX6_layTrips_84 : decode cX6_layTrips 84 = .ok (.iadd, 1) := by decide +kernel
theorem dX6_layTrips_85 : decode cX6_layTrips 85 = .ok (.iconst 1, 1) := by decide +kernel
theorem dX6_layTrips_86 : decode cX6_layTrips 86 = .ok (.iadd, 1) := by decide +kernel
theorem dX6_layTrips_87 : decode cX6_layTrips 87 = .ok (.iaload, 1) := by decide +kernel
theorem dX6_layTrips_88 : decode cX6_layTrips 88 = .ok (.iconst 0, 1) := by decide +kernel
theorem dX6_layTrips_89 : decode cX6_layTrips 89 = .ok (.aload_n 0, 1) := by decide +kernel
theorem dX6_layTrips_90 : decode cX6_layTrips 90 = .ok (.invokevirtual 149, 3) := by decide +kernel
theorem dX6_layTrips_93 : decode cX6_layTrips 93 = .ok (.invokestatic 80, 3) := by decide +kernel
theorem dX6_layTrips_96 : decode cX6_layTrips 96 = .ok (.ifCond .ne 6, 3) := by decide +kernel
theorem dX6_layTrips_99 : decode cX6_layTrips 99 = .ok (.bipush (-2), 2) := by decide +kernel
theorem dX6_layTrips_101 : decode cX6_layTrips 101 = .ok (.ireturn, 1) := by decide +kernel
theorem dX6_layTrips_102 : decode cX6_layTrips 102 = .ok (.aload_n 0, 1) := by decide +kernel
theorem dX6_layTrips_103 : decode cX6_layTrips 103 = .ok (.getfield 48, 3) := by decide +kernel
theorem dX6_layTrips_106 : decode cX6_layTrips 106 = .ok (.iload 7, 2) := by decide +kernel
theorem dX6_layTrips_108 : decode cX6_layTrips 108 = .ok (.aload_n 0, 1) := by decide +kernel
theorem dX6_layTrips_109 : decode cX6_layTrips 109 = .ok (.getfield 16, 3) := by decide +kernel
theorem dX6_layTrips_112 : decode cX6_layTrips 112 = .ok (.iload 6, 2) := by decide +kernel
theorem dX6_layTrips_114 : decode cX6_layTrips 114 = .ok (.iconst 2, 1) := by decide +kernel
theorem dX6_layTrips_115 : decode cX6_layTrips 115 = .ok (.iload 7, 2) := by decide +kernel
theorem dX6_layTrips_117 : decode cX6_layTrips 117 = .ok (.imul, 1) := by decide +kernel
theorem dX6_layTrips_118 : decode cX6_layTrips 118 = .ok (.iadd, 1) := by decide +kernel
theorem dX6_layTrips_119 : decode cX6_layTrips 119 = .ok (.iaload, 1) := by decide +kernel
theorem dX6_layTrips_120 : decode cX6_layTrips 120 = .ok (.iastore, 1) := by decide +kernel
theorem dX6_layTrips_121 : decode cX6_layTrips 121 = .ok (.aload_n 0, 1) := by decide +kernel
theorem dX6_layTrips_122 : decode cX6_layTrips 122 = .ok (.getfield 51, 3) := by decide +kernel
theorem dX6_layTrips_125 : decode cX6_layTrips 125 = .ok (.iload 7, 2) := by decide +kernel
theorem dX6_layTrips_127 : decode cX6_layTrips 127 = .ok (.aload_n 0, 1) := by decide +kernel
theorem dX6_layTrips_128 : decode cX6_layTrips 128 = .ok (.getfield 16, 3) := by decide +kernel
theorem dX6_layTrips_131 : decode cX6_layTrips 131 = .ok (.iload 6, 2) := by decide +kernel
theorem dX6_layTrips_133 : decode cX6_layTrips 133 = .ok (.iconst 2, 1) := by decide +kernel
theorem dX6_layTrips_134 : decode cX6_layTrips 134 = .ok (.iload 7, 2) := by decide +kernel
theorem dX6_layTrips_136 : decode cX6_layTrips 136 = .ok (.imul, 1) := by decide +kernel
theorem dX6_layTrips_137 : decode cX6_layTrips 137 = .ok (.iadd, 1) := by decide +kernel
theorem dX6_layTrips_138 : decode cX6_layTrips 138 = .ok (.iconst 1, 1) := by decide +kernel
theorem dX6_layTrips_139 : decode cX6_layTrips 139 = .ok (.iadd, 1) := by decide +kernel
theorem dX6_layTrips_140 : decode cX6_layTrips 140 = .ok (.iaload, 1) := by decide +kernel
theorem dX6_layTrips_141 : decode cX6_layTrips 141 = .ok (.iastore, 1) := by decide +kernel
theorem dX6_layTrips_142 : decode cX6_layTrips 142 = .ok (.iinc 7 1, 3) := by decide +kernel
theorem dX6_layTrips_145 : decode cX6_layTrips 145 = .ok (.goto (-99), 3) := by decide +kernel
theorem dX6_layTrips_148 : decode cX6_layTrips 148 = .ok (.aload_n 0, 1) := by decide +kernel
theorem dX6_layTrips_149 : decode cX6_layTrips 149 = .ok (.iload 4, 2) := by decide +kernel
theorem dX6_layTrips_151 : decode cX6_layTrips 151 = .ok (.putfield 172, 3) := by decide +kernel
theorem dX6_layTrips_154 : decode cX6_layTrips 154 = .ok (.iconst 0, 1) := by decide +kernel
theorem dX6_layTrips_155 : decode cX6_layTrips 155 = .ok (.ireturn, 1) := by decide +kernel
theorem dX6_go_0 : decode cX6_go 0 = .ok (.aload_n 0, 1) := by decide +kernel
theorem dX6_go_1 : decode cX6_go 1 = .ok (.iconst 0, 1) := by decide +kernel
theorem dX6_go_2 : decode cX6_go 2 = .ok (.putfield 175, 3) := by decide +kernel
theorem dX6_go_5 : decode cX6_go 5 = .ok (.aload_n 0, 1) := by decide +kernel
theorem dX6_go_6 : decode cX6_go 6 = .ok (.iconst 0, 1) := by decide +kernel
theorem dX6_go_7 : decode cX6_go 7 = .ok (.putfield 178, 3) := by decide +kernel
theorem dX6_go_10 : decode cX6_go 10 = .ok (.aload_n 0, 1) := by decide +kernel
theorem dX6_go_11 : decode cX6_go 11 = .ok (.lconst 1, 1) := by decide +kernel
theorem dX6_go_12 : decode cX6_go 12 = .ok (.putfield 181, 3) := by decide +kernel
theorem dX6_go_15 : decode cX6_go 15 = .ok (.aload_n 0, 1) := by decide +kernel
theorem dX6_go_16 : decode cX6_go 16 = .ok (.lconst 1, 1) := by decide +kernel
theorem dX6_go_17 : decode cX6_go 17 = .ok (.putfield 185, 3) := by decide +kernel
theorem dX6_go_20 : decode cX6_go 20 = .ok (.iconst 0, 1) := by decide +kernel
theorem dX6_go_21 : decode cX6_go 21 = .ok (.istore_n 1, 1) := by decide +kernel
theorem dX6_go_22 : decode cX6_go 22 = .ok (.iload_n 1, 1) := by decide +kernel
theorem dX6_go_23 : decode cX6_go 23 = .ok (.aload_n 0, 1) := by decide +kernel
theorem dX6_go_24 : decode cX6_go 24 = .ok (.getfield 172, 3) := by decide +kernel
theorem dX6_go_27 : decode cX6_go 27 = .ok (.if_icmp .ge 167, 3) := by decide +kernel
theorem dX6_go_30 : decode cX6_go 30 = .ok (.aload_n 0, 1) := by decide +kernel
theorem dX6_go_31 : decode cX6_go 31 = .ok (.aload_n 0, 1) := by decide +kernel
theorem dX6_go_32 : decode cX6_go 32 = .ok (.getfield 175, 3) := by decide +kernel
theorem dX6_go_35 : decode cX6_go 35 = .ok (.aload_n 0, 1) := by decide +kernel
theorem dX6_go_36 : decode cX6_go 36 = .ok (.getfield 48, 3) := by decide +kernel
theorem dX6_go_39 : decode cX6_go 39 = .ok (.iload_n 1, 1) := by decide +kernel
theorem dX6_go_40 : decode cX6_go 40 = .ok (.iaload, 1) := by decide +kernel
theorem dX6_go_41 : decode cX6_go 41 = .ok (.aload_n 0, 1) := by decide +kernel
theorem dX6_go_42 : decode cX6_go 42 = .ok (.getfield 51, 3) := by decide +kernel
theorem dX6_go_45 : decode cX6_go 45 = .ok (.iload_n 1, 1) := by decide +kernel
theorem dX6_go_46 : decode cX6_go 46 = .ok (.iaload, 1) := by decide +kernel
theorem dX6_go_47 : decode cX6_go 47 = .ok (.invokevirtual 188, 3) := by decide +kernel
theorem dX6_go_50 : decode cX6_go 50 = .ok (.ifCond .ne 5, 3) := by decide +kernel
theorem dX6_go_53 : decode cX6_go 53 = .ok (.iload_n 1, 1) := by decide +kernel
theorem dX6_go_54 : decode cX6_go 54 = .ok (.ireturn, 1) := by decide +kernel
theorem dX6_go_55 : decode cX6_go 55 = .ok (.aload_n 0, 1) := by decide +kernel
theorem dX6_go_56 : decode cX6_go 56 = .ok (.getfield 175, 3) := by decide +kernel
theorem dX6_go_59 : decode cX6_go 59 = .ok (.iconst 3, 1) := by decide +kernel
theorem dX6_go_60 : decode cX6_go 60 = .ok (.iand, 1) := by decide +kernel
theorem dX6_go_61 : decode cX6_go 61 = .ok (.istore_n 2, 1) := by decide +kernel
theorem dX6_go_62 : decode cX6_go 62 = .ok (.aload_n 0, 1) := by decide +kernel
theorem dX6_go_63 : decode cX6_go 63 = .ok (.getfield 51, 3) := by decide +kernel
theorem dX6_go_66 : decode cX6_go 66 = .ok (.iload_n 1, 1) := by decide +kernel
theorem dX6_go_67 : decode cX6_go 67 = .ok (.iaload, 1) := by decide +kernel
theorem dX6_go_68 : decode cX6_go 68 = .ok (.ifCond .eq 47, 3) := by decide +kernel
theorem dX6_go_71 : decode cX6_go 71 = .ok (.aload_n 0, 1) := by decide +kernel
theorem dX6_go_72 : decode cX6_go 72 = .ok (.dup, 1) := by decide +kernel
theorem dX6_go_73 : decode cX6_go 73 = .ok (.getfield 181, 3) := by decide +kernel
theorem dX6_go_76 : decode cX6_go 76 = .ok (.bipush 10, 2) := by decide +kernel
theorem dX6_go_78 : decode cX6_go 78 = .ok (.aload_n 0, 1) := by decide +kernel
theorem dX6_go_79 : decode cX6_go 79 = .ok (.aload_n 0, 1) := by decide +kernel
theorem dX6_go_80 : decode cX6_go 80 = .ok (.iload_n 2, 1) := by decide +kernel
theorem dX6_go_81 : decode cX6_go 81 = .ok (.aload_n 0, 1) := by decide +kernel
theorem dX6_go_82 : decode cX6_go 82 = .ok (.getfield 48, 3) := by decide +kernel
theorem dX6_go_85 : decode cX6_go 85 = .ok (.iload_n 1, 1) := by decide +kernel
theorem dX6_go_86 : decode cX6_go 86 = .ok (.iaload, 1) := by decide +kernel
theorem dX6_go_87 : decode cX6_go 87 = .ok (.invokevirtual 166, 3) := by decide +kernel
theorem dX6_go_90 : decode cX6_go 90 = .ok (.aload_n 0, 1) := by decide +kernel
theorem dX6_go_91 : decode cX6_go 91 = .ok (.getfield 178, 3) := by decide +kernel
theorem dX6_go_94 : decode cX6_go 94 = .ok (.invokevirtual 169, 3) := by decide +kernel
theorem dX6_go_97 : decode cX6_go 97 = .ok (.isub, 1) := by decide +kernel
theorem dX6_go_98 : decode cX6_go 98 = .ok (.i2l, 1) := by decide +kernel
theorem dX6_go_99 : decode cX6_go 99 = .ok (.lmul, 1) := by decide +kernel
theorem dX6_go_100 : decode cX6_go 100 = .ok (.putfield 181, 3) := by decide +kernel
theorem dX6_go_103 : decode cX6_go 103 = .ok (.aload_n 0, 1) := by decide +kernel
theorem dX6_go_104 : decode cX6_go 104 = .ok (.dup, 1) := by decide +kernel
theorem dX6_go_105 : decode cX6_go 105 = .ok (.getfield 185, 3) := by decide +kernel
theorem dX6_go_108 : decode cX6_go 108 = .ok (.ldc2_w 191, 3) := by decide +kernel
theorem dX6_go_111 : decode cX6_go 111 = .ok (.lmul, 1) := by decide +kernel
theorem dX6_go_112 : decode cX6_go 112 = .ok (.putfield 185, 3) := by decide +kernel
theorem dX6_go_115 : decode cX6_go 115 = .ok (.aload_n 0, 1) := by decide +kernel
theorem dX6_go_116 : decode cX6_go 116 = .ok (.getfield 54, 3) := by decide +kernel
theorem dX6_go_119 : decode cX6_go 119 = .ok (.iload_n 1, 1) := by decide +kernel
theorem dX6_go_120 : decode cX6_go 120 = .ok (.aload_n 0, 1) := by decide +kernel
theorem dX6_go_121 : decode cX6_go 121 = .ok (.getfield 178, 3) := by decide +kernel
theorem dX6_go_124 : decode cX6_go 124 = .ok (.iastore, 1) := by decide +kernel
theorem dX6_go_125 : decode cX6_go 125 = .ok (.aload_n 0, 1) := by decide +kernel
theorem dX6_go_126 : decode cX6_go 126 = .ok (.dup, 1) := by decide +kernel
theorem dX6_go_127 : decode cX6_go 127 = .ok (.getfield 178, 3) := by decide +kernel
theorem dX6_go_130 : decode cX6_go 130 = .ok (.aload_n 0, 1) := by decide +kernel
theorem dX6_go_131 : decode cX6_go 131 = .ok (.iload_n 2, 1) := by decide +kernel
theorem dX6_go_132 : decode cX6_go 132 = .ok (.aload_n 0, 1) := by decide +kernel
theorem dX6_go_133 : decode cX6_go 133 = .ok (.getfield 48, 3) := by decide +kernel
theorem dX6_go_136 : decode cX6_go 136 = .ok (.iload_n 1, 1) := by decide +kernel
theorem dX6_go_137 : decode cX6_go 137 = .ok (.iaload, 1) := by decide +kernel
theorem dX6_go_138 : decode cX6_go 138 = .ok (.aload_n 0, 1) := by decide +kernel
theorem dX6_go_139 : decode cX6_go 139 = .ok (.getfield 51, 3) := by decide +kernel
theorem dX6_go_142 : decode cX6_go 142 = .ok (.iload_n 1, 1) := by decide +kernel
theorem dX6_go_143 : decode cX6_go 143 = .ok (.iaload, 1) := by decide +kernel
theorem dX6_go_144 : decode cX6_go 144 = .ok (.aload_n 0, 1) := by decide +kernel
theorem dX6_go_145 : decode cX6_go 145 = .ok (.getfield 178, 3) := by decide +kernel
theorem dX6_go_148 : decode cX6_go 148 = .ok (.invokevirtual 193, 3) := by decide +kernel
theorem dX6_go_151 : decode cX6_go 151 = .ok (.iadd, 1) := by decide +kernel
theorem dX6_go_152 : decode cX6_go 152 = .ok (.putfield 178, 3) := by decide +kernel
theorem dX6_go_155 : decode cX6_go 155 = .ok (.aload_n 0, 1) := by decide +kernel
theorem dX6_go_156 : decode cX6_go 156 = .ok (.getfield 57, 3) := by decide +kernel
theorem dX6_go_159 : decode cX6_go 159 = .ok (.iload_n 1, 1) := by decide +kernel
theorem dX6_go_160 : decode cX6_go 160 = .ok (.aload_n 0, 1) := by decide +kernel
theorem dX6_go_161 : decode cX6_go 161 = .ok (.getfield 178, 3) := by decide +kernel
theorem dX6_go_164 : decode cX6_go 164 = .ok (.iastore, 1) := by decide +kernel
theorem dX6_go_165 : decode cX6_go 165 = .ok (.aload_n 0, 1) := by decide +kernel
theorem dX6_go_166 : decode cX6_go 166 = .ok (.aload_n 0, 1) := by decide +kernel
theorem dX6_go_167 : decode cX6_go 167 = .ok (.getfield 175, 3) := by decide +kernel
theorem dX6_go_170 : decode cX6_go 170 = .ok (.aload_n 0, 1) := by decide +kernel
theorem dX6_go_171 : decode cX6_go 171 = .ok (.getfield 48, 3) := by decide +kernel
theorem dX6_go_174 : decode cX6_go 174 = .ok (.iload_n 1, 1) := by decide +kernel
theorem dX6_go_175 : decode cX6_go 175 = .ok (.iaload, 1) := by decide +kernel
theorem dX6_go_176 : decode cX6_go 176 = .ok (.aload_n 0, 1) := by decide +kernel
theorem dX6_go_177 : decode cX6_go 177 = .ok (.getfield 51, 3) := by decide +kernel
theorem dX6_go_180 : decode cX6_go 180 = .ok (.iload_n 1, 1) := by decide +kernel
theorem dX6_go_181 : decode cX6_go 181 = .ok (.iaload, 1) := by decide +kernel
theorem dX6_go_182 : decode cX6_go 182 = .ok (.invokestatic 196, 3) := by decide +kernel
theorem dX6_go_185 : decode cX6_go 185 = .ok (.putfield 175, 3) := by decide +kernel
theorem dX6_go_188 : decode cX6_go 188 = .ok (.iinc 1 1, 3) := by decide +kernel
theorem dX6_go_191 : decode cX6_go 191 = .ok (.goto (-169), 3) := by decide +kernel
theorem dX6_go_194 : decode cX6_go 194 = .ok (.bipush (-9), 2) := by decide +kernel
theorem dX6_go_196 : decode cX6_go 196 = .ok (.ireturn, 1) := by decide +kernel
theorem dX6_arePairs_0 : decode cX6_arePairs 0 = .ok (.iload_n 0, 1) := by decide +kernel
theorem dX6_arePairs_1 : decode cX6_arePairs 1 = .ok (.invokestatic 97, 3) := by decide +kernel
theorem dX6_arePairs_4 : decode cX6_arePairs 4 = .ok (.ifCond .eq 17, 3) := by decide +kernel
theorem dX6_arePairs_7 : decode cX6_arePairs 7 = .ok (.iload_n 1, 1) := by decide +kernel
theorem dX6_arePairs_8 : decode cX6_arePairs 8 = .ok (.iconst 0, 1) := by decide +kernel
theorem dX6_arePairs_9 : decode cX6_arePairs 9 = .ok (.bipush 18, 2) := by decide +kernel
theorem dX6_arePairs_11 : decode cX6_arePairs 11 = .ok (.invokestatic 80, 3) := by decide +kernel
theorem dX6_arePairs_14 : decode cX6_arePairs 14 = .ok (.ifCond .eq 7, 3) := by decide +kernel
theorem dX6_arePairs_17 : decode cX6_arePairs 17 = .ok (.iconst 1, 1) := by decide +kernel
theorem dX6_arePairs_18 : decode cX6_arePairs 18 = .ok (.goto 4, 3) := by decide +kernel
theorem dX6_arePairs_21 : decode cX6_arePairs 21 = .ok (.iconst 0, 1) := by decide +kernel
theorem dX6_arePairs_22 : decode cX6_arePairs 22 = .ok (.ireturn, 1) := by decide +kernel
theorem dX6_trips_0 : decode cX6_trips 0 = .ok (.aload_n 0, 1) := by decide +kernel
theorem dX6_trips_1 : decode cX6_trips 1 = .ok (.iconst 0, 1) := by decide +kernel
theorem dX6_trips_2 : decode cX6_trips 2 = .ok (.putfield 75, 3) := by decide +kernel
theorem dX6_trips_5 : decode cX6_trips 5 = .ok (.iload_n 1, 1) := by decide +kernel
theorem dX6_trips_6 : decode cX6_trips 6 = .ok (.invokestatic 93, 3) := by decide +kernel
theorem dX6_trips_9 : decode cX6_trips 9 = .ok (.ifCond .ne 5, 3) := by decide +kernel
theorem dX6_trips_12 : decode cX6_trips 12 = .ok (.iconst (-1), 1) := by decide +kernel
theorem dX6_trips_13 : decode cX6_trips 13 = .ok (.ireturn, 1) := by decide +kernel
theorem dX6_trips_14 : decode cX6_trips 14 = .ok (.iload_n 2, 1) := by decide +kernel
theorem dX6_trips_15 : decode cX6_trips 15 = .ok (.iload 4, 2) := by decide +kernel
theorem dX6_trips_17 : decode cX6_trips 17 = .ok (.invokestatic 199, 3) := by decide +kernel
theorem dX6_trips_20 : decode cX6_trips 20 = .ok (.ifCond .eq 25, 3) := by decide +kernel
theorem dX6_trips_23 : decode cX6_trips 23 = .ok (.iload 5, 2) := by decide +kernel
theorem dX6_trips_25 : decode cX6_trips 25 = .ok (.iconst 0, 1) := by decide +kernel
theorem dX6_trips_26 : decode cX6_trips 26 = .ok (.iconst 2, 1) := by decide +kernel
theorem dX6_trips_27 : decode cX6_trips 27 = .ok (.invokestatic 80, 3) := by decide +kernel
theorem dX6_trips_30 : decode cX6_trips 30 = .ok (.ifCond .ne 18, 3) := by decide +kernel
theorem dX6_trips_33 : decode cX6_trips 33 = .ok (.iload 5, 2) := by decide +kernel
theorem dX6_trips_35 : decode cX6_trips 35 = .ok (.bipush 10, 2) := by decide +kernel
theorem dX6_trips_37 : decode cX6_trips 37 = .ok (.bipush 13, 2) := by decide +kernel
theorem dX6_trips_39 : decode cX6_trips 39 = .ok (.invokestatic 80, 3) := by decide +kernel
theorem dX6_trips_42 : decode cX6_trips 42 = .ok (.ifCond .ne 6, 3) := by decide +kernel
theorem dX6_trips_45 : decode cX6_trips 45 = .ok (.bipush (-2), 2) := by decide +kernel
theorem dX6_trips_47 : decode cX6_trips 47 = .ok (.ireturn, 1) := by decide +kernel
theorem dX6_trips_48 : decode cX6_trips 48 = .ok (.aload_n 0, 1) := by decide +kernel
theorem dX6_trips_49 : decode cX6_trips 49 = .ok (.iload_n 1, 1) := by decide +kernel
theorem dX6_trips_50 : decode cX6_trips 50 = .ok (.iload_n 2, 1) := by decide +kernel
theorem dX6_trips_51 : decode cX6_trips 51 = .ok (.iload_n 3, 1) := by decide +kernel
theorem dX6_trips_52 : decode cX6_trips 52 = .ok (.iload 4, 2) := by decide +kernel
theorem dX6_trips_54 : decode cX6_trips 54 = .ok (.invokevirtual 202, 3) := by decide +kernel
theorem dX6_trips_57 : decode cX6_trips 57 = .ok (.istore 6, 2) := by decide +kernel
theorem dX6_trips_59 : decode cX6_trips 59 = .ok (.iload 6, 2) := by decide +kernel
theorem dX6_trips_61 : decode cX6_trips 61 = .ok (.ifCond .eq 6, 3) := by decide +kernel
theorem dX6_trips_64 : decode cX6_trips 64 = .ok (.iload 6, 2) := by decide +kernel
theorem dX6_trips_66 : decode cX6_trips 66 = .ok (.ireturn, 1) := by decide +kernel
theorem dX6_trips_67 : decode cX6_trips 67 = .ok (.aload_n 0, 1) := by decide +kernel
theorem dX6_trips_68 : decode cX6_trips 68 = .ok (.invokevirtual 205, 3) := by decide +kernel
theorem dX6_trips_71 : decode cX6_trips 71 = .ok (.istore 7, 2) := by decide +kernel
theorem dX6_trips_73 : decode cX6_trips 73 = .ok (.iload 5, 2) := by decide +kernel
theorem dX6_trips_75 : decode cX6_trips 75 = .ok (.iconst 1, 1) := by decide +kernel
theorem dX6_trips_76 : decode cX6_trips 76 = .ok (.if_icmp .ne 6, 3) := by decide +kernel
theorem dX6_trips_79 : decode cX6_trips 79 = .ok (.iload 7, 2) := by decide +kernel
theorem dX6_trips_81 : decode cX6_trips 81 = .ok (.ireturn, 1) := by decide +kernel
theorem dX6_trips_82 : decode cX6_trips 82 = .ok (.iload 7, 2) := by decide +kernel
theorem dX6_trips_84 : decode cX6_trips 84 = .ok (.bipush (-9), 2) := by decide +kernel
theorem dX6_trips_86 : decode cX6_trips 86 = .ok (.if_icmp .eq 9, 3) := by decide +kernel
theorem dX6_trips_89 : decode cX6_trips 89 = .ok (.bipush (-100), 2) := by decide +kernel
theorem dX6_trips_91 : decode cX6_trips 91 = .ok (.iload 7, 2) := by decide +kernel
theorem dX6_trips_93 : decode cX6_trips 93 = .ok (.isub, 1) := by decide +kernel
theorem dX6_trips_94 : decode cX6_trips 94 = .ok (.ireturn, 1) := by decide +kernel
theorem dX6_trips_95 : decode cX6_trips 95 = .ok (.iload 5, 2) := by decide +kernel
theorem dX6_trips_97 : decode cX6_trips 97 = .ok (.iconst 2, 1) := by decide +kernel
theorem dX6_trips_98 : decode cX6_trips 98 = .ok (.if_icmp .le 34, 3) := by decide +kernel
theorem dX6_trips_101 : decode cX6_trips 101 = .ok (.aload_n 0, 1) := by decide +kernel
theorem dX6_trips_102 : decode cX6_trips 102 = .ok (.iload 5, 2) := by decide +kernel
theorem dX6_trips_104 : decode cX6_trips 104 = .ok (.bipush 10, 2) := by decide +kernel
theorem dX6_trips_106 : decode cX6_trips 106 = .ok (.isub, 1) := by decide +kernel
theorem dX6_trips_107 : decode cX6_trips 107 = .ok (.invokevirtual 160, 3) := by decide +kernel
theorem dX6_trips_110 : decode cX6_trips 110 = .ok (.ifCond .eq 19, 3) := by decide +kernel
theorem dX6_trips_113 : decode cX6_trips 113 = .ok (.aload_n 0, 1) := by decide +kernel
theorem dX6_trips_114 : decode cX6_trips 114 = .ok (.aload_n 0, 1) := by decide +kernel
theorem dX6_trips_115 : decode cX6_trips 115 = .ok (.getfield 175, 3) := by decide +kernel
theorem dX6_trips_118 : decode cX6_trips 118 = .ok (.iload 5, 2) := by decide +kernel
theorem dX6_trips_120 : decode cX6_trips 120 = .ok (.bipush 10, 2) := by decide +kernel
theorem dX6_trips_122 : decode cX6_trips 122 = .ok (.isub, 1) := by decide +kernel
theorem dX6_trips_123 : decode cX6_trips 123 = .ok (.invokevirtual 156, 3) := by decide +kernel
theorem dX6_trips_126 : decode cX6_trips 126 = .ok (.goto 5, 3) := by decide +kernel
theorem dX6_trips_129 : decode cX6_trips 129 = .ok (.bipush (-9), 2) := by decide +kernel
theorem dX6_trips_131 : decode cX6_trips 131 = .ok (.ireturn, 1) := by decide +kernel
theorem dX6_trips_132 : decode cX6_trips 132 = .ok (.iload 5, 2) := by decide +kernel
theorem dX6_trips_134 : decode cX6_trips 134 = .ok (.ifCond .ne 10, 3) := by decide +kernel
theorem dX6_trips_137 : decode cX6_trips 137 = .ok (.aload_n 0, 1) := by decide +kernel
theorem dX6_trips_138 : decode cX6_trips 138 = .ok (.getfield 178, 3) := by decide +kernel
theorem dX6_trips_141 : decode cX6_trips 141 = .ok (.goto 9, 3) := by decide +kernel
theorem dX6_trips_144 : decode cX6_trips 144 = .ok (.aload_n 0, 1) := by decide +kernel
theorem dX6_trips_145 : decode cX6_trips 145 = .ok (.getfield 175, 3) := by decide +kernel
theorem dX6_trips_148 : decode cX6_trips 148 = .ok (.iconst 3, 1) := by decide +kernel
theorem dX6_trips_149 : decode cX6_trips 149 = .ok (.iand, 1) := by decide +kernel
theorem dX6_trips_150 : decode cX6_trips 150 = .ok (.ireturn, 1) := by decide +kernel
theorem dX6_spotAt_0 : decode cX6_spotAt 0 = .ok (.iconst 0, 1) := by decide +kernel
theorem dX6_spotAt_1 : decode cX6_spotAt 1 = .ok (.istore_n 3, 1) := by decide +kernel
theorem dX6_spotAt_2 : decode cX6_spotAt 2 = .ok (.iconst 0, 1) := by decide +kernel
theorem dX6_spotAt_3 : decode cX6_spotAt 3 = .ok (.istore 4, 2) := by decide +kernel
theorem dX6_spotAt_5 : decode cX6_spotAt 5 = .ok (.iload 4, 2) := by decide +kernel
theorem dX6_spotAt_7 : decode cX6_spotAt 7 = .ok (.aload_n 0, 1) := by decide +kernel
theorem dX6_spotAt_8 : decode cX6_spotAt 8 = .ok (.getfield 172, 3) := by decide +kernel
theorem dX6_spotAt_11 : decode cX6_spotAt 11 = .ok (.if_icmp .ge 59, 3) := by decide +kernel
theorem dX6_spotAt_14 : decode cX6_spotAt 14 = .ok (.aload_n 0, 1) := by decide +kernel
theorem dX6_spotAt_15 : decode cX6_spotAt 15 = .ok (.getfield 51, 3) := by decide +kernel
theorem dX6_spotAt_18 : decode cX6_spotAt 18 = .ok (.iload 4, 2) := by decide +kernel
theorem dX6_spotAt_20 : decode cX6_spotAt 20 = .ok (.iaload, 1) := by decide +kernel
theorem dX6_spotAt_21 : decode cX6_spotAt 21 = .ok (.iload_n 1, 1) := by decide +kernel
theorem dX6_spotAt_22 : decode cX6_spotAt 22 = .ok (.ishr, 1) := by decide +kernel
theorem dX6_spotAt_23 : decode cX6_spotAt 23 = .ok (.iconst 1, 1) := by decide +kernel
theorem dX6_spotAt_24 : decode cX6_spotAt 24 = .ok (.iand, 1) := by decide +kernel
theorem dX6_spotAt_25 : decode cX6_spotAt 25 = .ok (.iconst 1, 1) := by decide +kernel
theorem dX6_spotAt_26 : decode cX6_spotAt 26 = .ok (.if_icmp .ne 38, 3) := by decide +kernel
theorem dX6_spotAt_29 : decode cX6_spotAt 29 = .ok (.aload_n 0, 1) := by decide +kernel
theorem dX6_spotAt_30 : decode cX6_spotAt 30 = .ok (.getfield 54, 3) := by decide +kernel
theorem dX6_spotAt_33 : decode cX6_spotAt 33 = .ok (.iload 4, 2) := by decide +kernel
theorem dX6_spotAt_35 : decode cX6_spotAt 35 = .ok (.iaload, 1) := by decide +kernel
theorem dX6_spotAt_36 : decode cX6_spotAt 36 = .ok (.iload_n 2, 1) := by decide +kernel
theorem dX6_spotAt_37 : decode cX6_spotAt 37 = .ok (.if_icmp .gt 27, 3) := by decide +kernel
theorem dX6_spotAt_40 : decode cX6_spotAt 40 = .ok (.iload_n 2, 1) := by decide +kernel
theorem dX6_spotAt_41 : decode cX6_spotAt 41 = .ok (.aload_n 0, 1) := by decide +kernel
theorem dX6_spotAt_42 : decode cX6_spotAt 42 = .ok (.getfield 57, 3) := by decide +kernel
theorem dX6_spotAt_45 : decode cX6_spotAt 45 = .ok (.iload 4, 2) := by decide +kernel
theorem dX6_spotAt_47 : decode cX6_spotAt 47 = .ok (.iaload, 1) := by decide +kernel
theorem dX6_spotAt_48 : decode cX6_spotAt 48 = .ok (.if_icmp .ge 8, 3) := by decide +kernel
theorem dX6_spotAt_51 : decode cX6_spotAt 51 = .ok (.bipush (-9), 2) := by decide +kernel
theorem dX6_spotAt_53 : decode cX6_spotAt 53 = .ok (.goto 10, 3) := by decide +kernel
theorem dX6_spotAt_56 : decode cX6_spotAt 56 = .ok (.aload_n 0, 1) := by decide +kernel
theorem dX6_spotAt_57 : decode cX6_spotAt 57 = .ok (.getfield 48, 3) := by decide +kernel
theorem dX6_spotAt_60 : decode cX6_spotAt 60 = .ok (.iload 4, 2) := by decide +kernel
theorem dX6_spotAt_62 : decode cX6_spotAt 62 = .ok (.iaload, 1) := by decide +kernel
theorem dX6_spotAt_63 : decode cX6_spotAt 63 = .ok (.istore_n 3, 1) := by decide +kernel
theorem dX6_spotAt_64 : decode cX6_spotAt 64 = .ok (.iinc 4 1, 3) := by decide +kernel
theorem dX6_spotAt_67 : decode cX6_spotAt 67 = .ok (.goto (-62), 3) := by decide +kernel
theorem dX6_spotAt_70 : decode cX6_spotAt 70 = .ok (.iload_n 3, 1) := by decide +kernel
theorem dX6_spotAt_71 : decode cX6_spotAt 71 = .ok (.ireturn, 1) := by decide +kernel
theorem dX6_at_0 : decode cX6_at 0 = .ok (.aload_n 0, 1) := by decide +kernel
theorem dX6_at_1 : decode cX6_at 1 = .ok (.iconst 0, 1) := by decide +kernel
theorem dX6_at_2 : decode cX6_at 2 = .ok (.putfield 75, 3) := by decide +kernel
theorem dX6_at_5 : decode cX6_at 5 = .ok (.aload_n 0, 1) := by decide +kernel
theorem dX6_at_6 : decode cX6_at 6 = .ok (.iload_n 1, 1) := by decide +kernel
theorem dX6_at_7 : decode cX6_at 7 = .ok (.invokevirtual 143, 3) := by decide +kernel
theorem dX6_at_10 : decode cX6_at 10 = .ok (.ifCond .ne 5, 3) := by decide +kernel
theorem dX6_at_13 : decode cX6_at 13 = .ok (.iconst (-1), 1) := by decide +kernel
theorem dX6_at_14 : decode cX6_at 14 = .ok (.ireturn, 1) := by decide +kernel
theorem dX6_at_15 : decode cX6_at 15 = .ok (.iload_n 2, 1) := by decide +kernel
theorem dX6_at_16 : decode cX6_at 16 = .ok (.iconst 0, 1) := by decide +kernel
theorem dX6_at_17 : decode cX6_at 17 = .ok (.sipush 999, 3) := by decide +kernel
theorem dX6_at_20 : decode cX6_at 20 = .ok (.invokestatic 80, 3) := by decide +kernel
theorem dX6_at_23 : decode cX6_at 23 = .ok (.ifCond .ne 6, 3) := by decide +kernel
theorem dX6_at_26 : decode cX6_at 26 = .ok (.bipush (-2), 2) := by decide +kernel
theorem dX6_at_28 : decode cX6_at 28 = .ok (.ireturn, 1) := by decide +kernel
theorem dX6_at_29 : decode cX6_at 29 = .ok (.iload_n 3, 1) := by decide +kernel
theorem dX6_at_30 : decode cX6_at 30 = .ok (.invokestatic 93, 3) := by decide +kernel
theorem dX6_at_33 : decode cX6_at 33 = .ok (.ifCond .ne 5, 3) := by decide +kernel
theorem dX6_at_36 : decode cX6_at 36 = .ok (.iconst (-1), 1) := by decide +kernel
theorem dX6_at_37 : decode cX6_at 37 = .ok (.ireturn, 1) := by decide +kernel
theorem dX6_at_38 : decode cX6_at 38 = .ok (.iload 4, 2) := by decide +kernel
theorem dX6_at_40 : decode cX6_at 40 = .ok (.iload 6, 2) := by decide +kernel
theorem dX6_at_42 : decode cX6_at 42 = .ok (.invokestatic 199, 3) := by decide +kernel
theorem dX6_at_45 : decode cX6_at 45 = .ok (.ifCond .ne 6, 3) := by decide +kernel
theorem dX6_at_48 : decode cX6_at 48 = .ok (.bipush (-2), 2) := by decide +kernel
theorem dX6_at_50 : decode cX6_at 50 = .ok (.ireturn, 1) := by decide +kernel
theorem dX6_at_51 : decode cX6_at 51 = .ok (.aload_n 0, 1) := by decide +kernel
theorem dX6_at_52 : decode cX6_at 52 = .ok (.iload_n 3, 1) := by decide +kernel
theorem dX6_at_53 : decode cX6_at 53 = .ok (.iload 4, 2) := by decide +kernel
theorem dX6_at_55 : decode cX6_at 55 = .ok (.iload 5, 2) := by decide +kernel
theorem dX6_at_57 : decode cX6_at 57 = .ok (.iload 6, 2) := by decide +kernel
theorem dX6_at_59 : decode cX6_at 59 = .ok (.invokevirtual 202, 3) := by decide +kernel
theorem dX6_at_62 : decode cX6_at 62 = .ok (.istore 7, 2) := by decide +kernel
theorem dX6_at_64 : decode cX6_at 64 = .ok (.iload 7, 2) := by decide +kernel
theorem dX6_at_66 : decode cX6_at 66 = .ok (.ifCond .eq 6, 3) := by decide +kernel
theorem dX6_at_69 : decode cX6_at 69 = .ok (.iload 7, 2) := by decide +kernel
theorem dX6_at_71 : decode cX6_at 71 = .ok (.ireturn, 1) := by decide +kernel
theorem dX6_at_72 : decode cX6_at 72 = .ok (.aload_n 0, 1) := by decide +kernel
theorem dX6_at_73 : decode cX6_at 73 = .ok (.invokevirtual 205, 3) := by decide +kernel
theorem dX6_at_76 : decode cX6_at 76 = .ok (.istore 8, 2) := by decide +kernel
theorem dX6_at_78 : decode cX6_at 78 = .ok (.iload 8, 2) := by decide +kernel
theorem dX6_at_80 : decode cX6_at 80 = .ok (.bipush (-9), 2) := by decide +kernel
theorem dX6_at_82 : decode cX6_at 82 = .ok (.if_icmp .ne 12, 3) := by decide +kernel
theorem dX6_at_85 : decode cX6_at 85 = .ok (.aload_n 0, 1) := by decide +kernel
theorem dX6_at_86 : decode cX6_at 86 = .ok (.iload_n 1, 1) := by decide +kernel
theorem dX6_at_87 : decode cX6_at 87 = .ok (.iload_n 2, 1) := by decide +kernel
theorem dX6_at_88 : decode cX6_at 88 = .ok (.invokevirtual 208, 3) := by decide +kernel
theorem dX6_at_91 : decode cX6_at 91 = .ok (.goto 8, 3) := by decide +kernel
theorem dX6_at_94 : decode cX6_at 94 = .ok (.bipush (-100), 2) := by decide +kernel
theorem dX6_at_96 : decode cX6_at 96 = .ok (.iload 8, 2) := by decide +kernel
theorem dX6_at_98 : decode cX6_at 98 = .ok (.isub, 1) := by decide +kernel
theorem dX6_at_99 : decode cX6_at 99 = .ok (.ireturn, 1) := by decide +kernel
theorem dX6_inLeastTerms_0 : decode cX6_inLeastTerms 0 = .ok (.lload_n 0, 1) := by decide +kernel
theorem dX6_inLeastTerms_1 : decode cX6_inLeastTerms 1 = .ok (.lstore 5, 2) := by decide +kernel
theorem dX6_inLeastTerms_3 : decode cX6_inLeastTerms 3 = .ok (.lload_n 2, 1) := by decide +kernel
theorem dX6_inLeastTerms_4 : decode cX6_inLeastTerms 4 = .ok (.lstore 7, 2) := by decide +kernel
theorem dX6_inLeastTerms_6 : decode cX6_inLeastTerms 6 = .ok (.lload 7, 2) := by decide +kernel
theorem dX6_inLeastTerms_8 : decode cX6_inLeastTerms 8 = .ok (.lconst 0, 1) := by decide +kernel
theorem dX6_inLeastTerms_9 : decode cX6_inLeastTerms 9 = .ok (.lcmp, 1) := by decide +kernel
theorem dX6_inLeastTerms_10 : decode cX6_inLeastTerms 10 = .ok (.ifCond .eq 21, 3) := by decide +kernel
theorem dX6_inLeastTerms_13 : decode cX6_inLeastTerms 13 = .ok (.lload 5, 2) := by decide +kernel
theorem dX6_inLeastTerms_15 : decode cX6_inLeastTerms 15 = .ok (.lload 7, 2) := by decide +kernel
theorem dX6_inLeastTerms_17 : decode cX6_inLeastTerms 17 = .ok (.lrem, 1) := by decide +kernel
theorem dX6_inLeastTerms_18 : decode cX6_inLeastTerms 18 = .ok (.lstore 9, 2) := by decide +kernel
theorem dX6_inLeastTerms_20 : decode cX6_inLeastTerms 20 = .ok (.lload 7, 2) := by decide +kernel
theorem dX6_inLeastTerms_22 : decode cX6_inLeastTerms 22 = .ok (.lstore 5, 2) := by decide +kernel
theorem dX6_inLeastTerms_24 : decode cX6_inLeastTerms 24 = .ok (.lload 9, 2) := by decide +kernel
theorem dX6_inLeastTerms_26 : decode cX6_inLeastTerms 26 = .ok (.lstore 7, 2) := by decide +kernel
theorem dX6_inLeastTerms_28 : decode cX6_inLeastTerms 28 = .ok (.goto (-22), 3) := by decide +kernel
theorem dX6_inLeastTerms_31 : decode cX6_inLeastTerms 31 = .ok (.iload 4, 2) := by decide +kernel
theorem dX6_inLeastTerms_33 : decode cX6_inLeastTerms 33 = .ok (.ifCond .ne 10, 3) := by decide +kernel
theorem dX6_inLeastTerms_36 : decode cX6_inLeastTerms 36 = .ok (.lload_n 0, 1) := by decide +kernel
theorem dX6_inLeastTerms_37 : decode cX6_inLeastTerms 37 = .ok (.lload 5, 2) := by decide +kernel
theorem dX6_inLeastTerms_39 : decode cX6_inLeastTerms 39 = .ok (.ldiv, 1) := by decide +kernel
theorem dX6_inLeastTerms_40 : decode cX6_inLeastTerms 40 = .ok (.goto 7, 3) := by decide +kernel
theorem dX6_inLeastTerms_43 : decode cX6_inLeastTerms 43 = .ok (.lload_n 2, 1) := by decide +kernel
theorem dX6_inLeastTerms_44 : decode cX6_inLeastTerms 44 = .ok (.lload 5, 2) := by decide +kernel
theorem dX6_inLeastTerms_46 : decode cX6_inLeastTerms 46 = .ok (.ldiv, 1) := by decide +kernel
theorem dX6_inLeastTerms_47 : decode cX6_inLeastTerms 47 = .ok (.lreturn, 1) := by decide +kernel
theorem dX6_dry_0 : decode cX6_dry 0 = .ok (.aload_n 0, 1) := by decide +kernel
theorem dX6_dry_1 : decode cX6_dry 1 = .ok (.iconst 0, 1) := by decide +kernel
theorem dX6_dry_2 : decode cX6_dry 2 = .ok (.putfield 75, 3) := by decide +kernel
theorem dX6_dry_5 : decode cX6_dry 5 = .ok (.iload_n 1, 1) := by decide +kernel
theorem dX6_dry_6 : decode cX6_dry 6 = .ok (.invokestatic 93, 3) := by decide +kernel
theorem dX6_dry_9 : decode cX6_dry 9 = .ok (.ifCond .eq 22, 3) := by decide +kernel
theorem dX6_dry_12 : decode cX6_dry 12 = .ok (.iload_n 2, 1) := by decide +kernel
theorem dX6_dry_13 : decode cX6_dry 13 = .ok (.iload 4, 2) := by decide +kernel
theorem dX6_dry_15 : decode cX6_dry 15 = .ok (.invokestatic 199, 3) := by decide +kernel
theorem dX6_dry_18 : decode cX6_dry 18 = .ok (.ifCond .eq 13, 3) := by decide +kernel
theorem dX6_dry_21 : decode cX6_dry 21 = .ok (.iload 5, 2) := by decide +kernel
theorem dX6_dry_23 : decode cX6_dry 23 = .ok (.iconst 0, 1) := by decide +kernel
theorem dX6_dry_24 : decode cX6_dry 24 = .ok (.iconst 1, 1) := by decide +kernel
theorem dX6_dry_25 : decode cX6_dry 25 = .ok (.invokestatic 80, 3) := by decide +kernel
theorem dX6_dry_28 : decode cX6_dry 28 = .ok (.ifCond .ne 7, 3) := by decide +kernel
theorem dX6_dry_31 : decode cX6_dry 31 = .ok (.ldc2_w 78, 3) := by decide +kernel
theorem dX6_dry_34 : decode cX6_dry 34 = .ok (.lreturn, 1) := by decide +kernel
theorem dX6_dry_35 : decode cX6_dry 35 = .ok (.aload_n 0, 1) := by decide +kernel
theorem dX6_dry_36 : decode cX6_dry 36 = .ok (.iload_n 1, 1) := by decide +kernel
theorem dX6_dry_37 : decode cX6_dry 37 = .ok (.iload_n 2, 1) := by decide +kernel
theorem dX6_dry_38 : decode cX6_dry 38 = .ok (.iload_n 3, 1) := by decide +kernel
theorem dX6_dry_39 : decode cX6_dry 39 = .ok (.iload 4, 2) := by decide +kernel
theorem dX6_dry_41 : decode cX6_dry 41 = .ok (.invokevirtual 202, 3) := by decide +kernel
theorem dX6_dry_44 : decode cX6_dry 44 = .ok (.ifCond .ne 12, 3) := by decide +kernel
theorem dX6_dry_47 : decode cX6_dry 47 = .ok (.aload_n 0, 1) := by decide +kernel
theorem dX6_dry_48 : decode cX6_dry 48 = .ok (.invokevirtual 205, 3) := by decide +kernel
theorem dX6_dry_51 : decode cX6_dry 51 = .ok (.bipush (-9), 2) := by decide +kernel
theorem dX6_dry_53 : decode cX6_dry 53 = .ok (.if_icmp .eq 7, 3) := by decide +kernel
theorem dX6_dry_56 : decode cX6_dry 56 = .ok (.ldc2_w 78, 3) := by decide +kernel
theorem dX6_dry_59 : decode cX6_dry 59 = .ok (.lreturn, 1) := by decide +kernel
theorem dX6_dry_60 : decode cX6_dry 60 = .ok (.aload_n 0, 1) := by decide +kernel
theorem dX6_dry_61 : decode cX6_dry 61 = .ok (.getfield 181, 3) := by decide +kernel
theorem dX6_dry_64 : decode cX6_dry 64 = .ok (.aload_n 0, 1) := by decide +kernel
theorem dX6_dry_65 : decode cX6_dry 65 = .ok (.getfield 185, 3) := by decide +kernel
theorem dX6_dry_68 : decode cX6_dry 68 = .ok (.iload 5, 2) := by decide +kernel
theorem dX6_dry_70 : decode cX6_dry 70 = .ok (.invokestatic 211, 3) := by decide +kernel
theorem dX6_dry_73 : decode cX6_dry 73 = .ok (.lreturn, 1) := by decide +kernel
theorem dX6_end_0 : decode cX6_end 0 = .ok (.aload_n 0, 1) := by decide +kernel
theorem dX6_end_1 : decode cX6_end 1 = .ok (.getfield 84, 3) := by decide +kernel
theorem dX6_end_4 : decode cX6_end 4 = .ok (.istore_n 1, 1) := by decide +kernel
theorem dX6_end_5 : decode cX6_end 5 = .ok (.iconst 0, 1) := by decide +kernel
theorem dX6_end_6 : decode cX6_end 6 = .ok (.istore_n 2, 1) := by decide +kernel
theorem dX6_end_7 : decode cX6_end 7 = .ok (.iload_n 2, 1) := by decide +kernel
theorem dX6_end_8 : decode cX6_end 8 = .ok (.aload_n 0, 1) := by decide +kernel
theorem dX6_end_9 : decode cX6_end 9 = .ok (.getfield 87, 3) := by decide +kernel
theorem dX6_end_12 : decode cX6_end 12 = .ok (.if_icmp .ge 34, 3) := by decide +kernel
theorem dX6_end_15 : decode cX6_end 15 = .ok (.iload_n 1, 1) := by decide +kernel
theorem dX6_end_16 : decode cX6_end 16 = .ok (.iload_n 2, 1) := by decide +kernel
theorem dX6_end_17 : decode cX6_end 17 = .ok (.aload_n 0, 1) := by decide +kernel
theorem dX6_end_18 : decode cX6_end 18 = .ok (.getfield 39, 3) := by decide +kernel
theorem dX6_end_21 : decode cX6_end 21 = .ok (.if_icmp .ne 7, 3) := by decide +kernel
theorem dX6_end_24 : decode cX6_end 24 = .ok (.iconst 0, 1) := by decide +kernel
theorem dX6_end_25 : decode cX6_end 25 = .ok (.goto 13, 3) := by decide +kernel
theorem dX6_end_28 : decode cX6_end 28 = .ok (.aload_n 0, 1) := by decide +kernel
theorem dX6_end_29 : decode cX6_end 29 = .ok (.getfield 84, 3) := by decide +kernel
theorem dX6_end_32 : decode cX6_end 32 = .ok (.iconst 2, 1) := by decide +kernel
theorem dX6_end_33 : decode cX6_end 33 = .ok (.iload_n 2, 1) := by decide +kernel
theorem dX6_end_34 : decode cX6_end 34 = .ok (.imul, 1) := by decide +kernel
theorem dX6_end_35 : decode cX6_end 35 = .ok (.iconst 2, 1) := by decide +kernel
theorem dX6_end_36 : decode cX6_end 36 = .ok (.iadd, 1) := by decide +kernel
theorem dX6_end_37 : decode cX6_end 37 = .ok (.ishl, 1) := by decide +kernel
theorem dX6_end_38 : decode cX6_end 38 = .ok (.ior, 1) := by decide +kernel
theorem dX6_end_39 : decode cX6_end 39 = .ok (.istore_n 1, 1) := by decide +kernel
theorem dX6_end_40 : decode cX6_end 40 = .ok (.iinc 2 1, 3) := by decide +kernel
theorem dX6_end_43 : decode cX6_end 43 = .ok (.goto (-36), 3) := by decide +kernel
theorem dX6_end_46 : decode cX6_end 46 = .ok (.iload_n 1, 1) := by decide +kernel
theorem dX6_end_47 : decode cX6_end 47 = .ok (.ireturn, 1) := by decide +kernel
theorem dX6_relax_0 : decode cX6_relax 0 = .ok (.aload_n 0, 1) := by decide +kernel
theorem dX6_relax_1 : decode cX6_relax 1 = .ok (.iload_n 1, 1) := by decide +kernel
theorem dX6_relax_2 : decode cX6_relax 2 = .ok (.iload_n 2, 1) := by decide +kernel
theorem dX6_relax_3 : decode cX6_relax 3 = .ok (.iload_n 3, 1) := by decide +kernel
theorem dX6_relax_4 : decode cX6_relax 4 = .ok (.invokevirtual 188, 3) := by decide +kernel
theorem dX6_relax_7 : decode cX6_relax 7 = .ok (.ifCond .ne 5, 3) := by decide +kernel
theorem dX6_relax_10 : decode cX6_relax 10 = .ok (.iconst 0, 1) := by decide +kernel
theorem dX6_relax_11 : decode cX6_relax 11 = .ok (.ireturn, 1) := by decide +kernel
theorem dX6_relax_12 : decode cX6_relax 12 = .ok (.iload_n 1, 1) := by decide +kernel
theorem dX6_relax_13 : decode cX6_relax 13 = .ok (.iload_n 2, 1) := by decide +kernel
theorem dX6_relax_14 : decode cX6_relax 14 = .ok (.iload_n 3, 1) := by decide +kernel
theorem dX6_relax_15 : decode cX6_relax 15 = .ok (.invokestatic 196, 3) := by decide +kernel
theorem dX6_relax_18 : decode cX6_relax 18 = .ok (.istore 4, 2) := by decide +kernel
theorem dX6_relax_20 : decode cX6_relax 20 = .ok (.aload_n 0, 1) := by decide +kernel
theorem dX6_relax_21 : decode cX6_relax 21 = .ok (.getfield 60, 3) := by decide +kernel
theorem dX6_relax_24 : decode cX6_relax 24 = .ok (.iload_n 1, 1) := by decide +kernel
theorem dX6_relax_25 : decode cX6_relax 25 = .ok (.iaload, 1) := by decide +kernel
theorem dX6_relax_26 : decode cX6_relax 26 = .ok (.aload_n 0, 1) := by decide +kernel
theorem dX6_relax_27 : decode cX6_relax 27 = .ok (.iload_n 1, 1) := by decide +kernel
theorem dX6_relax_28 : decode cX6_relax 28 = .ok (.iconst 3, 1) := by decide +kernel
theorem dX6_relax_29 : decode cX6_relax 29 = .ok (.iand, 1) := by decide +kernel
theorem dX6_relax_30 : decode cX6_relax 30 = .ok (.iload_n 2, 1) := by decide +kernel
theorem dX6_relax_31 : decode cX6_relax 31 = .ok (.iload_n 3, 1) := by decide +kernel
theorem dX6_relax_32 : decode cX6_relax 32 = .ok (.aload_n 0, 1) := by decide +kernel
theorem dX6_relax_33 : decode cX6_relax 33 = .ok (.getfield 60, 3) := by decide +kernel
theorem dX6_relax_36 : decode cX6_relax 36 = .ok (.iload_n 1, 1) := by decide +kernel
theorem dX6_relax_37 : decode cX6_relax 37 = .ok (.iaload, 1) := by decide +kernel
theorem dX6_relax_38 : decode cX6_relax 38 = .ok (.invokevirtual 193, 3) := by decide +kernel
theorem dX6_relax_41 : decode cX6_relax 41 = .ok (.iadd, 1) := by decide +kernel
theorem dX6_relax_42 : decode cX6_relax 42 = .ok (.istore 5, 2) := by decide +kernel
theorem dX6_relax_44 : decode cX6_relax 44 = .ok (.aload_n 0, 1) := by decide +kernel
theorem dX6_relax_45 : decode cX6_relax 45 = .ok (.getfield 60, 3) := by decide +kernel
theorem dX6_relax_48 : decode cX6_relax 48 = .ok (.iload 4, 2) := by decide +kernel
theorem dX6_relax_50 : decode cX6_relax 50 = .ok (.iaload, 1) := by decide +kernel
theorem dX6_relax_51 : decode cX6_relax 51 = .ok (.bipush (-9), 2) := by decide +kernel
theorem dX6_relax_53 : decode cX6_relax 53 = .ok (.if_icmp .eq 17, 3) := by decide +kernel
theorem dX6_relax_56 : decode cX6_relax 56 = .ok (.aload_n 0, 1) := by decide +kernel
theorem dX6_relax_57 : decode cX6_relax 57 = .ok (.getfield 60, 3) := by decide +kernel
theorem dX6_relax_60 : decode cX6_relax 60 = .ok (.iload 4, 2) := by decide +kernel
theorem dX6_relax_62 : decode cX6_relax 62 = .ok (.iaload, 1) := by decide +kernel
theorem dX6_relax_63 : decode cX6_relax 63 = .ok (.iload 5, 2) := by decide +kernel
theorem dX6_relax_65 : decode cX6_relax 65 = .ok (.if_icmp .gt 5, 3) := by decide +kernel
theorem dX6_relax_68 : decode cX6_relax 68 = .ok (.iconst 0, 1) := by decide +kernel
theorem dX6_relax_69 : decode cX6_relax 69 = .ok (.ireturn, 1) := by decide +kernel
theorem dX6_relax_70 : decode cX6_relax 70 = .ok (.aload_n 0, 1) := by decide +kernel
theorem dX6_relax_71 : decode cX6_relax 71 = .ok (.getfield 60, 3) := by decide +kernel
theorem dX6_relax_74 : decode cX6_relax 74 = .ok (.iload 4, 2) := by decide +kernel
theorem dX6_relax_76 : decode cX6_relax 76 = .ok (.iload 5, 2) := by decide +kernel
theorem dX6_relax_78 : decode cX6_relax 78 = .ok (.iastore, 1) := by decide +kernel
theorem dX6_relax_79 : decode cX6_relax 79 = .ok (.iconst 1, 1) := by decide +kernel
theorem dX6_relax_80 : decode cX6_relax 80 = .ok (.ireturn, 1) := by decide +kernel
theorem dX6_laySoonest_0 : decode cX6_laySoonest 0 = .ok (.iconst 0, 1) := by decide +kernel
theorem dX6_laySoonest_1 : decode cX6_laySoonest 1 = .ok (.istore_n 1, 1) := by decide +kernel
theorem dX6_laySoonest_2 : decode cX6_laySoonest 2 = .ok (.iload_n 1, 1) := by decide +kernel
theorem dX6_laySoonest_3 : decode cX6_laySoonest 3 = .ok (.sipush 1024, 3) := by decide +kernel
theorem dX6_laySoonest_6 : decode cX6_laySoonest 6 = .ok (.if_icmp .ge 17, 3) := by decide +kernel
theorem dX6_laySoonest_9 : decode cX6_laySoonest 9 = .ok (.aload_n 0, 1) := by decide +kernel
theorem dX6_laySoonest_10 : decode cX6_laySoonest 10 = .ok (.getfield 60, 3) := by decide +kernel
theorem dX6_laySoonest_13 : decode cX6_laySoonest 13 = .ok (.iload_n 1, 1) := by decide +kernel
theorem dX6_laySoonest_14 : decode cX6_laySoonest 14 = .ok (.bipush (-9), 2) := by decide +kernel
theorem dX6_laySoonest_16 : decode cX6_laySoonest 16 = .ok (.iastore, 1) := by decide +kernel
theorem dX6_laySoonest_17 : decode cX6_laySoonest 17 = .ok (.iinc 1 1, 3) := by decide +kernel
theorem dX6_laySoonest_20 : decode cX6_laySoonest 20 = .ok (.goto (-18), 3) := by decide +kernel
theorem dX6_laySoonest_23 : decode cX6_laySoonest 23 = .ok (.aload_n 0, 1) := by decide +kernel
theorem dX6_laySoonest_24 : decode cX6_laySoonest 24 = .ok (.getfield 60, 3) := by decide +kernel
theorem dX6_laySoonest_27 : decode cX6_laySoonest 27 = .ok (.iconst 0, 1) := by decide +kernel
theorem dX6_laySoonest_28 : decode cX6_laySoonest 28 = .ok (.iconst 0, 1) := by decide +kernel
theorem dX6_laySoonest_29 : decode cX6_laySoonest 29 = .ok (.iastore, 1) := by decide +kernel
theorem dX6_laySoonest_30 : decode cX6_laySoonest 30 = .ok (.iconst 1, 1) := by decide +kernel
theorem dX6_laySoonest_31 : decode cX6_laySoonest 31 = .ok (.istore_n 1, 1) := by decide +kernel
theorem dX6_laySoonest_32 : decode cX6_laySoonest 32 = .ok (.iload_n 1, 1) := by decide +kernel
theorem dX6_laySoonest_33 : decode cX6_laySoonest 33 = .ok (.ifCond .eq 78, 3) := by decide +kernel
theorem dX6_laySoonest_36 : decode cX6_laySoonest 36 = .ok (.iconst 0, 1) := by decide +kernel
theorem dX6_laySoonest_37 : decode cX6_laySoonest 37 = .ok (.istore_n 1, 1) := by decide +kernel
theorem dX6_laySoonest_38 : decode cX6_laySoonest 38 = .ok (.iconst 0, 1) := by decide +kernel
theorem dX6_laySoonest_39 : decode cX6_laySoonest 39 = .ok (.istore_n 2, 1) := by decide +kernel
theorem dX6_laySoonest_40 : decode cX6_laySoonest 40 = .ok (.iload_n 2, 1) := by decide +kernel
theorem dX6_laySoonest_41 : decode cX6_laySoonest 41 = .ok (.sipush 1024, 3) := by decide +kernel
theorem dX6_laySoonest_44 : decode cX6_laySoonest 44 = .ok (.if_icmp .ge 64, 3) := by decide +kernel
theorem dX6_laySoonest_47 : decode cX6_laySoonest 47 = .ok (.iconst 0, 1) := by decide +kernel
theorem dX6_laySoonest_48 : decode cX6_laySoonest 48 = .ok (.istore_n 3, 1) := by decide +kernel
theorem dX6_laySoonest_49 : decode cX6_laySoonest 49 = .ok (.iload_n 3, 1) := by decide +kernel
theorem dX6_laySoonest_50 : decode cX6_laySoonest 50 = .ok (.aload_n 0, 1) := by decide +kernel
theorem dX6_laySoonest_51 : decode cX6_laySoonest 51 = .ok (.invokevirtual 149, 3) := by decide +kernel
theorem dX6_laySoonest_54 : decode cX6_laySoonest 54 = .ok (.if_icmp .gt 48, 3) := by decide +kernel
theorem dX6_laySoonest_57 : decode cX6_laySoonest 57 = .ok (.aload_n 0, 1) := by decide +kernel
theorem dX6_laySoonest_58 : decode cX6_laySoonest 58 = .ok (.getfield 60, 3) := by decide +kernel
theorem dX6_laySoonest_61 : decode cX6_laySoonest 61 = .ok (.iload_n 2, 1) := by decide +kernel
theorem dX6_laySoonest_62 : decode cX6_laySoonest 62 = .ok (.iaload, 1) := by decide +kernel
theorem dX6_laySoonest_63 : decode cX6_laySoonest 63 = .ok (.bipush (-9), 2) := by decide +kernel
theorem dX6_laySoonest_65 : decode cX6_laySoonest 65 = .ok (.if_icmp .eq 37, 3) := by decide +kernel
theorem dX6_laySoonest_68 : decode cX6_laySoonest 68 = .ok (.iload_n 1, 1) := by decide +kernel
theorem dX6_laySoonest_69 : decode cX6_laySoonest 69 = .ok (.aload_n 0, 1) := by decide +kernel
theorem dX6_laySoonest_70 : decode cX6_laySoonest 70 = .ok (.iload_n 2, 1) := by decide +kernel
theorem dX6_laySoonest_71 : decode cX6_laySoonest 71 = .ok (.iload_n 2, 1) := by decide +kernel
theorem dX6_laySoonest_72 : decode cX6_laySoonest 72 = .ok (.iconst 3, 1) := by decide +kernel
theorem dX6_laySoonest_73 : decode cX6_laySoonest 73 = .ok (.iand, 1) := by decide +kernel
theorem dX6_laySoonest_74 : decode cX6_laySoonest 74 = .ok (.iconst 1, 1) := by decide +kernel
theorem dX6_laySoonest_75 : decode cX6_laySoonest 75 = .ok (.iadd, 1) := by decide +kernel
theorem dX6_laySoonest_76 : decode cX6_laySoonest 76 = .ok (.iload_n 3, 1) := by decide +kernel
theorem dX6_laySoonest_77 : decode cX6_laySoonest 77 = .ok (.invokevirtual 215, 3) := by decide +kernel
theorem dX6_laySoonest_80 : decode cX6_laySoonest 80 = .ok (.ior, 1) := by decide +kernel
theorem dX6_laySoonest_81 : decode cX6_laySoonest 81 = .ok (.istore_n 1, 1) := by decide +kernel
theorem dX6_laySoonest_82 : decode cX6_laySoonest 82 = .ok (.iload_n 1, 1) := by decide +kernel
theorem dX6_laySoonest_83 : decode cX6_laySoonest 83 = .ok (.aload_n 0, 1) := by decide +kernel
theorem dX6_laySoonest_84 : decode cX6_laySoonest 84 = .ok (.iload_n 2, 1) := by decide +kernel
theorem dX6_laySoonest_85 : decode cX6_laySoonest 85 = .ok (.iload_n 2, 1) := by decide +kernel
theorem dX6_laySoonest_86 : decode cX6_laySoonest 86 = .ok (.iconst 3, 1) := by decide +kernel
theorem dX6_laySoonest_87 : decode cX6_laySoonest 87 = .ok (.iand, 1) := by decide +kernel
theorem dX6_laySoonest_88 : decode cX6_laySoonest 88 = .ok (.iconst 1, 1) := by decide +kernel
theorem dX6_laySoonest_89 : decode cX6_laySoonest 89 = .ok (.isub, 1) := by decide +kernel
theorem dX6_laySoonest_90 : decode cX6_laySoonest 90 = .ok (.iload_n 3, 1) := by decide +kernel
theorem dX6_laySoonest_91 : decode cX6_laySoonest 91 = .ok (.invokevirtual 215, 3) := by decide +kernel
theorem dX6_laySoonest_94 : decode cX6_laySoonest 94 = .ok (.ior, 1) := by decide +kernel
theorem dX6_laySoonest_95 : decode cX6_laySoonest 95 = .ok (.istore_n 1, 1) := by decide +kernel
theorem dX6_laySoonest_96 : decode cX6_laySoonest 96 = .ok (.iinc 3 1, 3) := by decide +kernel
theorem dX6_laySoonest_99 : decode cX6_laySoonest 99 = .ok (.goto (-50), 3) := by decide +kernel
theorem dX6_laySoonest_102 : decode cX6_laySoonest 102 = .ok (.iinc 2 1, 3) := by decide +kernel
theorem dX6_laySoonest_105 : decode cX6_laySoonest 105 = .ok (.goto (-65), 3) := by decide +kernel
theorem dX6_laySoonest_108 : decode cX6_laySoonest 108 = .ok (.goto (-76), 3) := by decide +kernel
theorem dX6_laySoonest_111 : decode cX6_laySoonest 111 = .ok (.return_, 1) := by decide +kernel
theorem dX6_soonestNow_0 : decode cX6_soonestNow 0 = .ok (.aload_n 0, 1) := by decide +kernel
theorem dX6_soonestNow_1 : decode cX6_soonestNow 1 = .ok (.invokevirtual 218, 3) := by decide +kernel
theorem dX6_soonestNow_4 : decode cX6_soonestNow 4 = .ok (.aload_n 0, 1) := by decide +kernel
theorem dX6_soonestNow_5 : decode cX6_soonestNow 5 = .ok (.getfield 60, 3) := by decide +kernel
theorem dX6_soonestNow_8 : decode cX6_soonestNow 8 = .ok (.aload_n 0, 1) := by decide +kernel
theorem dX6_soonestNow_9 : decode cX6_soonestNow 9 = .ok (.invokevirtual 221, 3) := by decide +kernel
theorem dX6_soonestNow_12 : decode cX6_soonestNow 12 = .ok (.iaload, 1) := by decide +kernel
theorem dX6_soonestNow_13 : decode cX6_soonestNow 13 = .ok (.ireturn, 1) := by decide +kernel
theorem dX6_soonest_0 : decode cX6_soonest 0 = .ok (.aload_n 0, 1) := by decide +kernel
theorem dX6_soonest_1 : decode cX6_soonest 1 = .ok (.getfield 84, 3) := by decide +kernel
theorem dX6_soonest_4 : decode cX6_soonest 4 = .ok (.ifCond .ne 8, 3) := by decide +kernel
theorem dX6_soonest_7 : decode cX6_soonest 7 = .ok (.bipush (-3), 2) := by decide +kernel
theorem dX6_soonest_9 : decode cX6_soonest 9 = .ok (.goto 7, 3) := by decide +kernel
theorem dX6_soonest_12 : decode cX6_soonest 12 = .ok (.aload_n 0, 1) := by decide +kernel
theorem dX6_soonest_13 : decode cX6_soonest 13 = .ok (.invokevirtual 224, 3) := by decide +kernel
theorem dX6_soonest_16 : decode cX6_soonest 16 = .ok (.ireturn, 1) := by decide +kernel
theorem dX6_isTight_0 : decode cX6_isTight 0 = .ok (.aload_n 0, 1) := by decide +kernel
theorem dX6_isTight_1 : decode cX6_isTight 1 = .ok (.getfield 60, 3) := by decide +kernel
theorem dX6_isTight_4 : decode cX6_isTight 4 = .ok (.iload_n 1, 1) := by decide +kernel
theorem dX6_isTight_5 : decode cX6_isTight 5 = .ok (.iaload, 1) := by decide +kernel
theorem dX6_isTight_6 : decode cX6_isTight 6 = .ok (.bipush (-9), 2) := by decide +kernel
theorem dX6_isTight_8 : decode cX6_isTight 8 = .ok (.if_icmp .eq 13, 3) := by decide +kernel
theorem dX6_isTight_11 : decode cX6_isTight 11 = .ok (.aload_n 0, 1) := by decide +kernel
theorem dX6_isTight_12 : decode cX6_isTight 12 = .ok (.iload_n 1, 1) := by decide +kernel
theorem dX6_isTight_13 : decode cX6_isTight 13 = .ok (.iload_n 2, 1) := by decide +kernel
theorem dX6_isTight_14 : decode cX6_isTight 14 = .ok (.iload_n 3, 1) := by decide +kernel
theorem dX6_isTight_15 : decode cX6_isTight 15 = .ok (.invokevirtual 188, 3) := by decide +kernel
theorem dX6_isTight_18 : decode cX6_isTight 18 = .ok (.ifCond .ne 5, 3) := by decide +kernel
theorem dX6_isTight_21 : decode cX6_isTight 21 = .ok (.iconst 0, 1) := by decide +kernel
theorem dX6_isTight_22 : decode cX6_isTight 22 = .ok (.ireturn, 1) := by decide +kernel
theorem dX6_isTight_23 : decode cX6_isTight 23 = .ok (.aload_n 0, 1) := by decide +kernel
theorem dX6_isTight_24 : decode cX6_isTight 24 = .ok (.getfield 60, 3) := by decide +kernel
theorem dX6_isTight_27 : decode cX6_isTight 27 = .ok (.iload_n 1, 1) := by decide +kernel
theorem dX6_isTight_28 : decode cX6_isTight 28 = .ok (.iaload, 1) := by decide +kernel
theorem dX6_isTight_29 : decode cX6_isTight 29 = .ok (.aload_n 0, 1) := by decide +kernel
theorem dX6_isTight_30 : decode cX6_isTight 30 = .ok (.iload_n 1, 1) := by decide +kernel
theorem dX6_isTight_31 : decode cX6_isTight 31 = .ok (.iconst 3, 1) := by decide +kernel
theorem dX6_isTight_32 : decode cX6_isTight 32 = .ok (.iand, 1) := by decide +kernel
theorem dX6_isTight_33 : decode cX6_isTight 33 = .ok (.iload_n 2, 1) := by decide +kernel
theorem dX6_isTight_34 : decode cX6_isTight 34 = .ok (.iload_n 3, 1) := by decide +kernel
theorem dX6_isTight_35 : decode cX6_isTight 35 = .ok (.aload_n 0, 1) := by decide +kernel
theorem dX6_isTight_36 : decode cX6_isTight 36 = .ok (.getfield 60, 3) := by decide +kernel
theorem dX6_isTight_39 : decode cX6_isTight 39 = .ok (.iload_n 1, 1) := by decide +kernel
theorem dX6_isTight_40 : decode cX6_isTight 40 = .ok (.iaload, 1) := by decide +kernel
theorem dX6_isTight_41 : decode cX6_isTight 41 = .ok (.invokevirtual 193, 3) := by decide +kernel
theorem dX6_isTight_44 : decode cX6_isTight 44 = .ok (.iadd, 1) := by decide +kernel
theorem dX6_isTight_45 : decode cX6_isTight 45 = .ok (.istore 4, 2) := by decide +kernel
theorem dX6_isTight_47 : decode cX6_isTight 47 = .ok (.aload_n 0, 1) := by decide +kernel
theorem dX6_isTight_48 : decode cX6_isTight 48 = .ok (.getfield 60, 3) := by decide +kernel
theorem dX6_isTight_51 : decode cX6_isTight 51 = .ok (.iload_n 1, 1) := by decide +kernel
theorem dX6_isTight_52 : decode cX6_isTight 52 = .ok (.iload_n 2, 1) := by decide +kernel
theorem dX6_isTight_53 : decode cX6_isTight 53 = .ok (.iload_n 3, 1) := by decide +kernel
theorem dX6_isTight_54 : decode cX6_isTight 54 = .ok (.invokestatic 196, 3) := by decide +kernel
theorem dX6_isTight_57 : decode cX6_isTight 57 = .ok (.iaload, 1) := by decide +kernel
theorem dX6_isTight_58 : decode cX6_isTight 58 = .ok (.iload 4, 2) := by decide +kernel
theorem dX6_isTight_60 : decode cX6_isTight 60 = .ok (.if_icmp .ne 7, 3) := by decide +kernel
theorem dX6_isTight_63 : decode cX6_isTight 63 = .ok (.iconst 1, 1) := by decide +kernel
theorem dX6_isTight_64 : decode cX6_isTight 64 = .ok (.goto 4, 3) := by decide +kernel
theorem dX6_isTight_67 : decode cX6_isTight 67 = .ok (.iconst 0, 1) := by decide +kernel
theorem dX6_isTight_68 : decode cX6_isTight 68 = .ok (.ireturn, 1) := by decide +kernel
theorem dX6_shorten_0 : decode cX6_shorten 0 = .ok (.aload_n 0, 1) := by decide +kernel
theorem dX6_shorten_1 : decode cX6_shorten 1 = .ok (.iload_n 1, 1) := by decide +kernel
theorem dX6_shorten_2 : decode cX6_shorten 2 = .ok (.iload_n 2, 1) := by decide +kernel
theorem dX6_shorten_3 : decode cX6_shorten 3 = .ok (.iload_n 3, 1) := by decide +kernel
theorem dX6_shorten_4 : decode cX6_shorten 4 = .ok (.invokevirtual 227, 3) := by decide +kernel
theorem dX6_shorten_7 : decode cX6_shorten 7 = .ok (.ifCond .ne 5, 3) := by decide +kernel
theorem dX6_shorten_10 : decode cX6_shorten 10 = .ok (.iconst 0, 1) := by decide +kernel
theorem dX6_shorten_11 : decode cX6_shorten 11 = .ok (.ireturn, 1) := by decide +kernel
theorem dX6_shorten_12 : decode cX6_shorten 12 = .ok (.aload_n 0, 1) := by decide +kernel
theorem dX6_shorten_13 : decode cX6_shorten 13 = .ok (.getfield 63, 3) := by decide +kernel
theorem dX6_shorten_16 : decode cX6_shorten 16 = .ok (.iload_n 1, 1) := by decide +kernel
theorem dX6_shorten_17 : decode cX6_shorten 17 = .ok (.iload_n 2, 1) := by decide +kernel
theorem dX6_shorten_18 : decode cX6_shorten 18 = .ok (.iload_n 3, 1) := by decide +kernel
theorem dX6_shorten_19 : decode cX6_shorten 19 = .ok (.invokestatic 196, 3) := by decide +kernel
theorem dX6_shorten_22 : decode cX6_shorten 22 = .ok (.iaload, 1) := by decide +kernel
theorem dX6_shorten_23 : decode cX6_shorten 23 = .ok (.istore 4, 2) := by decide +kernel
theorem dX6_shorten_25 : decode cX6_shorten 25 = .ok (.iload 4, 2) := by decide +kernel
theorem dX6_shorten_27 : decode cX6_shorten 27 = .ok (.bipush (-9), 2) := by decide +kernel
theorem dX6_shorten_29 : decode cX6_shorten 29 = .ok (.if_icmp .eq 27, 3) := by decide +kernel
theorem dX6_shorten_32 : decode cX6_shorten 32 = .ok (.aload_n 0, 1) := by decide +kernel
theorem dX6_shorten_33 : decode cX6_shorten 33 = .ok (.getfield 63, 3) := by decide +kernel
theorem dX6_shorten_36 : decode cX6_shorten 36 = .ok (.iload_n 1, 1) := by decide +kernel
theorem dX6_shorten_37 : decode cX6_shorten 37 = .ok (.iaload, 1) := by decide +kernel
theorem dX6_shorten_38 : decode cX6_shorten 38 = .ok (.bipush (-9), 2) := by decide +kernel
theorem dX6_shorten_40 : decode cX6_shorten 40 = .ok (.if_icmp .eq 18, 3) := by decide +kernel
theorem dX6_shorten_43 : decode cX6_shorten 43 = .ok (.aload_n 0, 1) := by decide +kernel
theorem dX6_shorten_44 : decode cX6_shorten 44 = .ok (.getfield 63, 3) := by decide +kernel
theorem dX6_shorten_47 : decode cX6_shorten 47 = .ok (.iload_n 1, 1) := by decide +kernel
theorem dX6_shorten_48 : decode cX6_shorten 48 = .ok (.iaload, 1) := by decide +kernel
theorem dX6_shorten_49 : decode cX6_shorten 49 = .ok (.iload 4, 2) := by decide +kernel
theorem dX6_shorten_51 : decode cX6_shorten 51 = .ok (.iconst 1, 1) := by decide +kernel
theorem dX6_shorten_52 : decode cX6_shorten 52 = .ok (.iadd, 1) := by decide +kernel
theorem dX6_shorten_53 : decode cX6_shorten 53 = .ok (.if_icmp .gt 5, 3) := by decide +kernel
theorem dX6_shorten_56 : decode cX6_shorten 56 = .ok (.iconst 0, 1) := by decide +kernel
theorem dX6_shorten_57 : decode cX6_shorten 57 = .ok (.ireturn, 1) := by decide +kernel
theorem dX6_shorten_58 : decode cX6_shorten 58 = .ok (.aload_n 0, 1) := by decide +kernel
theorem dX6_shorten_59 : decode cX6_shorten 59 = .ok (.getfield 63, 3) := by decide +kernel
theorem dX6_shorten_62 : decode cX6_shorten 62 = .ok (.iload_n 1, 1) := by decide +kernel
theorem dX6_shorten_63 : decode cX6_shorten 63 = .ok (.iload 4, 2) := by decide +kernel
theorem dX6_shorten_65 : decode cX6_shorten 65 = .ok (.iconst 1, 1) := by decide +kernel
theorem dX6_shorten_66 : decode cX6_shorten 66 = .ok (.iadd, 1) := by decide +kernel
theorem dX6_shorten_67 : decode cX6_shorten 67 = .ok (.iastore, 1) := by decide +kernel
theorem dX6_shorten_68 : decode cX6_shorten 68 = .ok (.iconst 1, 1) := by decide +kernel
theorem dX6_shorten_69 : decode cX6_shorten 69 = .ok (.ireturn, 1) := by decide +kernel
theorem dX6_layLeft_0 : decode cX6_layLeft 0 = .ok (.iconst 0, 1) := by decide +kernel
theorem dX6_layLeft_1 : decode cX6_layLeft 1 = .ok (.istore_n 1, 1) := by decide +kernel
theorem dX6_layLeft_2 : decode cX6_layLeft 2 = .ok (.iload_n 1, 1) := by decide +kernel
theorem dX6_layLeft_3 : decode cX6_layLeft 3 = .ok (.sipush 1024, 3) := by decide +kernel
theorem dX6_layLeft_6 : decode cX6_layLeft 6 = .ok (.if_icmp .ge 17, 3) := by decide +kernel
theorem dX6_layLeft_9 : decode cX6_layLeft 9 = .ok (.aload_n 0, 1) := by decide +kernel
theorem dX6_layLeft_10 : decode cX6_layLeft 10 = .ok (.getfield 63, 3) := by decide +kernel
theorem dX6_layLeft_13 : decode cX6_layLeft 13 = .ok (.iload_n 1, 1) := by decide +kernel
theorem dX6_layLeft_14 : decode cX6_layLeft 14 = .ok (.bipush (-9), 2) := by decide +kernel
theorem dX6_layLeft_16 : decode cX6_layLeft 16 = .ok (.iastore, 1) := by decide +kernel
theorem dX6_layLeft_17 : decode cX6_layLeft 17 = .ok (.iinc 1 1, 3) := by decide +kernel
theorem dX6_layLeft_20 : decode cX6_layLeft 20 = .ok (.goto (-18), 3) := by decide +kernel
theorem dX6_layLeft_23 : decode cX6_layLeft 23 = .ok (.aload_n 0, 1) := by decide +kernel
theorem dX6_layLeft_24 : decode cX6_layLeft 24 = .ok (.getfield 63, 3) := by decide +kernel
theorem dX6_layLeft_27 : decode cX6_layLeft 27 = .ok (.aload_n 0, 1) := by decide +kernel
theorem dX6_layLeft_28 : decode cX6_layLeft 28 = .ok (.invokevirtual 221, 3) := by decide +kernel
theorem dX6_layLeft_31 : decode cX6_layLeft 31 = .ok (.iconst 0, 1) := by decide +kernel
theorem dX6_layLeft_32 : decode cX6_layLeft 32 = .ok (.iastore, 1) := by decide +kernel
theorem dX6_layLeft_33 : decode cX6_layLeft 33 = .ok (.iconst 1, 1) := by decide +kernel
theorem dX6_layLeft_34 : decode cX6_layLeft 34 = .ok (.istore_n 1, 1) := by decide +kernel
theorem dX6_layLeft_35 : decode cX6_layLeft 35 = .ok (.iload_n 1, 1) := by decide +kernel
theorem dX6_layLeft_36 : decode cX6_layLeft 36 = .ok (.ifCond .eq 67, 3) := by decide +kernel
theorem dX6_layLeft_39 : decode cX6_layLeft 39 = .ok (.iconst 0, 1) := by decide +kernel
theorem dX6_layLeft_40 : decode cX6_layLeft 40 = .ok (.istore_n 1, 1) := by decide +kernel
theorem dX6_layLeft_41 : decode cX6_layLeft 41 = .ok (.iconst 0, 1) := by decide +kernel
theorem dX6_layLeft_42 : decode cX6_layLeft 42 = .ok (.istore_n 2, 1) := by decide +kernel
theorem dX6_layLeft_43 : decode cX6_layLeft 43 = .ok (.iload_n 2, 1) := by decide +kernel
theorem dX6_layLeft_44 : decode cX6_layLeft 44 = .ok (.sipush 1024, 3) := by decide +kernel
theorem dX6_layLeft_47 : decode cX6_layLeft 47 = .ok (.if_icmp .ge 53, 3) := by decide +kernel
theorem dX6_layLeft_50 : decode cX6_layLeft 50 = .ok (.iconst 0, 1) := by decide +kernel
theorem dX6_layLeft_51 : decode cX6_layLeft 51 = .ok (.istore_n 3, 1) := by decide +kernel
theorem dX6_layLeft_52 : decode cX6_layLeft 52 = .ok (.iload_n 3, 1) := by decide +kernel
theorem dX6_layLeft_53 : decode cX6_layLeft 53 = .ok (.aload_n 0, 1) := by decide +kernel
theorem dX6_layLeft_54 : decode cX6_layLeft 54 = .ok (.invokevirtual 149, 3) := by decide +kernel
theorem dX6_layLeft_57 : decode cX6_layLeft 57 = .ok (.if_icmp .gt 37, 3) := by decide +kernel
theorem dX6_layLeft_60 : decode cX6_layLeft 60 = .ok (.iload_n 1, 1) := by decide +kernel
theorem dX6_layLeft_61 : decode cX6_layLeft 61 = .ok (.aload_n 0, 1) := by decide +kernel
theorem dX6_layLeft_62 : decode cX6_layLeft 62 = .ok (.iload_n 2, 1) := by decide +kernel
theorem dX6_layLeft_63 : decode cX6_layLeft 63 = .ok (.iload_n 2, 1) := by decide +kernel
theorem dX6_layLeft_64 : decode cX6_layLeft 64 = .ok (.iconst 3, 1) := by decide +kernel
theorem dX6_layLeft_65 : decode cX6_layLeft 65 = .ok (.iand, 1) := by decide +kernel
theorem dX6_layLeft_66 : decode cX6_layLeft 66 = .ok (.iconst 1, 1) := by decide +kernel
theorem dX6_layLeft_67 : decode cX6_layLeft 67 = .ok (.iadd, 1) := by decide +kernel
theorem dX6_layLeft_68 : decode cX6_layLeft 68 = .ok (.iload_n 3, 1) := by decide +kernel
theorem dX6_layLeft_69 : decode cX6_layLeft 69 = .ok (.invokevirtual 230, 3) := by decide +kernel
theorem dX6_layLeft_72 : decode cX6_layLeft 72 = .ok (.ior, 1) := by decide +kernel
theorem dX6_layLeft_73 : decode cX6_layLeft 73 = .ok (.istore_n 1, 1) := by decide +kernel
theorem dX6_layLeft_74 : decode cX6_layLeft 74 = .ok (.iload_n 1, 1) := by decide +kernel
theorem dX6_layLeft_75 : decode cX6_layLeft 75 = .ok (.aload_n 0, 1) := by decide +kernel
theorem dX6_layLeft_76 : decode cX6_layLeft 76 = .ok (.iload_n 2, 1) := by decide +kernel
theorem dX6_layLeft_77 : decode cX6_layLeft 77 = .ok (.iload_n 2, 1) := by decide +kernel
theorem dX6_layLeft_78 : decode cX6_layLeft 78 = .ok (.iconst 3, 1) := by decide +kernel
theorem dX6_layLeft_79 : decode cX6_layLeft 79 = .ok (.iand, 1) := by decide +kernel
theorem dX6_layLeft_80 : decode cX6_layLeft 80 = .ok (.iconst 1, 1) := by decide +kernel
theorem dX6_layLeft_81 : decode cX6_layLeft 81 = .ok (.isub, 1) := by decide +kernel
theorem dX6_layLeft_82 : decode cX6_layLeft 82 = .ok (.iload_n 3, 1) := by decide +kernel
theorem dX6_layLeft_83 : decode cX6_layLeft 83 = .ok (.invokevirtual 230, 3) := by decide +kernel
theorem dX6_layLeft_86 : decode cX6_layLeft 86 = .ok (.ior, 1) := by decide +kernel
theorem dX6_layLeft_87 : decode cX6_layLeft 87 = .ok (.istore_n 1, 1) := by decide +kernel
theorem dX6_layLeft_88 : decode cX6_layLeft 88 = .ok (.iinc 3 1, 3) := by decide +kernel
theorem dX6_layLeft_91 : decode cX6_layLeft 91 = .ok (.goto (-39), 3) := by decide +kernel
theorem dX6_layLeft_94 : decode cX6_layLeft 94 = .ok (.iinc 2 1, 3) := by decide +kernel
theorem dX6_layLeft_97 : decode cX6_layLeft 97 = .ok (.goto (-54), 3) := by decide +kernel
theorem dX6_layLeft_100 : decode cX6_layLeft 100 = .ok (.goto (-65), 3) := by decide +kernel
theorem dX6_layLeft_103 : decode cX6_layLeft 103 = .ok (.return_, 1) := by decide +kernel
theorem dX6_isNext_0 : decode cX6_isNext 0 = .ok (.aload_n 0, 1) := by decide +kernel
theorem dX6_isNext_1 : decode cX6_isNext 1 = .ok (.iload_n 1, 1) := by decide +kernel
theorem dX6_isNext_2 : decode cX6_isNext 2 = .ok (.iload_n 2, 1) := by decide +kernel
theorem dX6_isNext_3 : decode cX6_isNext 3 = .ok (.iload_n 3, 1) := by decide +kernel
theorem dX6_isNext_4 : decode cX6_isNext 4 = .ok (.invokevirtual 227, 3) := by decide +kernel
theorem dX6_isNext_7 : decode cX6_isNext 7 = .ok (.ifCond .eq 29, 3) := by decide +kernel
theorem dX6_isNext_10 : decode cX6_isNext 10 = .ok (.aload_n 0, 1) := by decide +kernel
theorem dX6_isNext_11 : decode cX6_isNext 11 = .ok (.getfield 63, 3) := by decide +kernel
theorem dX6_isNext_14 : decode cX6_isNext 14 = .ok (.iload_n 1, 1) := by decide +kernel
theorem dX6_isNext_15 : decode cX6_isNext 15 = .ok (.iload_n 2, 1) := by decide +kernel
theorem dX6_isNext_16 : decode cX6_isNext 16 = .ok (.iload_n 3, 1) := by decide +kernel
theorem dX6_isNext_17 : decode cX6_isNext 17 = .ok (.invokestatic 196, 3) := by decide +kernel
theorem dX6_isNext_20 : decode cX6_isNext 20 = .ok (.iaload, 1) := by decide +kernel
theorem dX6_isNext_21 : decode cX6_isNext 21 = .ok (.aload_n 0, 1) := by decide +kernel
theorem dX6_isNext_22 : decode cX6_isNext 22 = .ok (.getfield 63, 3) := by decide +kernel
theorem dX6_isNext_25 : decode cX6_isNext 25 = .ok (.iload_n 1, 1) := by decide +kernel
theorem dX6_isNext_26 : decode cX6_isNext 26 = .ok (.iaload, 1) := by decide +kernel
theorem dX6_isNext_27 : decode cX6_isNext 27 = .ok (.iconst 1, 1) := by decide +kernel
theorem dX6_isNext_28 : decode cX6_isNext 28 = .ok (.isub, 1) := by decide +kernel
theorem dX6_isNext_29 : decode cX6_isNext 29 = .ok (.if_icmp .ne 7, 3) := by decide +kernel
theorem dX6_isNext_32 : decode cX6_isNext 32 = .ok (.iconst 1, 1) := by decide +kernel
theorem dX6_isNext_33 : decode cX6_isNext 33 = .ok (.goto 4, 3) := by decide +kernel
theorem dX6_isNext_36 : decode cX6_isNext 36 = .ok (.iconst 0, 1) := by decide +kernel
theorem dX6_isNext_37 : decode cX6_isNext 37 = .ok (.ireturn, 1) := by decide +kernel
theorem dX6_findNext_0 : decode cX6_findNext 0 = .ok (.iconst (-1), 1) := by decide +kernel
theorem dX6_findNext_1 : decode cX6_findNext 1 = .ok (.istore_n 2, 1) := by decide +kernel
theorem dX6_findNext_2 : decode cX6_findNext 2 = .ok (.iload_n 2, 1) := by decide +kernel
theorem dX6_findNext_3 : decode cX6_findNext 3 = .ok (.iconst 2, 1) := by decide +kernel
theorem dX6_findNext_4 : decode cX6_findNext 4 = .ok (.if_icmp .ge 54, 3) := by decide +kernel
theorem dX6_findNext_7 : decode cX6_findNext 7 = .ok (.iconst 0, 1) := by decide +kernel
theorem dX6_findNext_8 : decode cX6_findNext 8 = .ok (.istore_n 3, 1) := by decide +kernel
theorem dX6_findNext_9 : decode cX6_findNext 9 = .ok (.iload_n 3, 1) := by decide +kernel
theorem dX6_findNext_10 : decode cX6_findNext 10 = .ok (.aload_n 0, 1) := by decide +kernel
theorem dX6_findNext_11 : decode cX6_findNext 11 = .ok (.invokevirtual 149, 3) := by decide +kernel
theorem dX6_findNext_14 : decode cX6_findNext 14 = .ok (.if_icmp .gt 38, 3) := by decide +kernel
theorem dX6_findNext_17 : decode cX6_findNext 17 = .ok (.aload_n 0, 1) := by decide +kernel
theorem dX6_findNext_18 : decode cX6_findNext 18 = .ok (.iload_n 1, 1) := by decide +kernel
theorem dX6_findNext_19 : decode cX6_findNext 19 = .ok (.iload_n 1, 1) := by decide +kernel
theorem dX6_findNext_20 : decode cX6_findNext 20 = .ok (.iconst 3, 1) := by decide +kernel
theorem dX6_findNext_21 : decode cX6_findNext 21 = .ok (.iand, 1) := by decide +kernel
theorem dX6_findNext_22 : decode cX6_findNext 22 = .ok (.iload_n 2, 1) := by decide +kernel
theorem dX6_findNext_23 : decode cX6_findNext 23 = .ok (.iadd, 1) := by decide +kernel
theorem dX6_findNext_24 : decode cX6_findNext 24 = .ok (.iload_n 3, 1) := by decide +kernel
theorem dX6_findNext_25 : decode cX6_findNext 25 = .ok (.invokevirtual 233, 3) := by decide +kernel
theorem dX6_findNext_28 : decode cX6_findNext 28 = .ok (.ifCond .eq 18, 3) := by decide +kernel
theorem dX6_findNext_31 : decode cX6_findNext 31 = .ok (.aload_n 0, 1) := by decide +kernel
theorem dX6_findNext_32 : decode cX6_findNext 32 = .ok (.iload_n 1, 1) := by decide +kernel
theorem dX6_findNext_33 : decode cX6_findNext 33 = .ok (.iconst 3, 1) := by decide +kernel
theorem dX6_findNext_34 : decode cX6_findNext 34 = .ok (.iand, 1) := by decide +kernel
theorem dX6_findNext_35 : decode cX6_findNext 35 = .ok (.iload_n 2, 1) := by decide +kernel
theorem dX6_findNext_36 : decode cX6_findNext 36 = .ok (.iadd, 1) := by decide +kernel
theorem dX6_findNext_37 : decode cX6_findNext 37 = .ok (.putfield 236, 3) := by decide +kernel
theorem dX6_findNext_40 : decode cX6_findNext 40 = .ok (.aload_n 0, 1) := by decide +kernel
theorem dX6_findNext_41 : decode cX6_findNext 41 = .ok (.iload_n 3, 1) := by decide +kernel
theorem dX6_findNext_42 : decode cX6_findNext 42 = .ok (.putfield 239, 3) := by decide +kernel
theorem dX6_findNext_45 : decode cX6_findNext 45 = .ok (.return_, 1) := by decide +kernel
theorem dX6_findNext_46 : decode cX6_findNext 46 = .ok (.iinc 3 1, 3) := by decide +kernel
theorem dX6_findNext_49 : decode cX6_findNext 49 = .ok (.goto (-40), 3) := by decide +kernel
theorem dX6_findNext_52 : decode cX6_findNext 52 = .ok (.iinc 2 2, 3) := by decide +kernel
theorem dX6_findNext_55 : decode cX6_findNext 55 = .ok (.goto (-53), 3) := by decide +kernel
theorem dX6_findNext_58 : decode cX6_findNext 58 = .ok (.return_, 1) := by decide +kernel
theorem dX6_trip_0 : decode cX6_trip 0 = .ok (.iload_n 1, 1) := by decide +kernel
theorem dX6_trip_1 : decode cX6_trip 1 = .ok (.ifCond .ge 5, 3) := by decide +kernel
theorem dX6_trip_4 : decode cX6_trip 4 = .ok (.iconst (-1), 1) := by decide +kernel
theorem dX6_trip_5 : decode cX6_trip 5 = .ok (.ireturn, 1) := by decide +kernel
theorem dX6_trip_6 : decode cX6_trip 6 = .ok (.iload_n 2, 1) := by decide +kernel
theorem dX6_trip_7 : decode cX6_trip 7 = .ok (.iconst 0, 1) := by decide +kernel
theorem dX6_trip_8 : decode cX6_trip 8 = .ok (.iconst 1, 1) := by decide +kernel
theorem dX6_trip_9 : decode cX6_trip 9 = .ok (.invokestatic 80, 3) := by decide +kernel
theorem dX6_trip_12 : decode cX6_trip 12 = .ok (.ifCond .ne 6, 3) := by decide +kernel
theorem dX6_trip_15 : decode cX6_trip 15 = .ok (.bipush (-2), 2) := by decide +kernel
theorem dX6_trip_17 : decode cX6_trip 17 = .ok (.ireturn, 1) := by decide +kernel
theorem dX6_trip_18 : decode cX6_trip 18 = .ok (.aload_n 0, 1) := by decide +kernel
theorem dX6_trip_19 : decode cX6_trip 19 = .ok (.getfield 84, 3) := by decide +kernel
theorem dX6_trip_22 : decode cX6_trip 22 = .ok (.ifCond .ne 6, 3) := by decide +kernel
theorem dX6_trip_25 : decode cX6_trip 25 = .ok (.bipush (-3), 2) := by decide +kernel
theorem dX6_trip_27 : decode cX6_trip 27 = .ok (.ireturn, 1) := by decide +kernel
theorem dX6_trip_28 : decode cX6_trip 28 = .ok (.aload_n 0, 1) := by decide +kernel
theorem dX6_trip_29 : decode cX6_trip 29 = .ok (.invokevirtual 224, 3) := by decide +kernel
theorem dX6_trip_32 : decode cX6_trip 32 = .ok (.bipush (-9), 2) := by decide +kernel
theorem dX6_trip_34 : decode cX6_trip 34 = .ok (.if_icmp .ne 6, 3) := by decide +kernel
theorem dX6_trip_37 : decode cX6_trip 37 = .ok (.bipush (-9), 2) := by decide +kernel
theorem dX6_trip_39 : decode cX6_trip 39 = .ok (.ireturn, 1) := by decide +kernel
theorem dX6_trip_40 : decode cX6_trip 40 = .ok (.aload_n 0, 1) := by decide +kernel
theorem dX6_trip_41 : decode cX6_trip 41 = .ok (.invokevirtual 242, 3) := by decide +kernel
theorem dX6_trip_44 : decode cX6_trip 44 = .ok (.iload_n 1, 1) := by decide +kernel
theorem dX6_trip_45 : decode cX6_trip 45 = .ok (.aload_n 0, 1) := by decide +kernel
theorem dX6_trip_46 : decode cX6_trip 46 = .ok (.getfield 63, 3) := by decide +kernel
theorem dX6_trip_49 : decode cX6_trip 49 = .ok (.iconst 0, 1) := by decide +kernel
theorem dX6_trip_50 : decode cX6_trip 50 = .ok (.iaload, 1) := by decide +kernel
theorem dX6_trip_51 : decode cX6_trip 51 = .ok (.if_icmp .lt 6, 3) := by decide +kernel
theorem dX6_trip_54 : decode cX6_trip 54 = .ok (.bipush (-9), 2) := by decide +kernel
theorem dX6_trip_56 : decode cX6_trip 56 = .ok (.ireturn, 1) := by decide +kernel
theorem dX6_trip_57 : decode cX6_trip 57 = .ok (.iconst 0, 1) := by decide +kernel
theorem dX6_trip_58 : decode cX6_trip 58 = .ok (.istore_n 3, 1) := by decide +kernel
theorem dX6_trip_59 : decode cX6_trip 59 = .ok (.iconst 0, 1) := by decide +kernel
theorem dX6_trip_60 : decode cX6_trip 60 = .ok (.istore 4, 2) := by decide +kernel
theorem dX6_trip_62 : decode cX6_trip 62 = .ok (.iload 4, 2) := by decide +kernel
theorem dX6_trip_64 : decode cX6_trip 64 = .ok (.iload_n 1, 1) := by decide +kernel
theorem dX6_trip_65 : decode cX6_trip 65 = .ok (.if_icmp .gt 27, 3) := by decide +kernel
theorem dX6_trip_68 : decode cX6_trip 68 = .ok (.aload_n 0, 1) := by decide +kernel
theorem dX6_trip_69 : decode cX6_trip 69 = .ok (.iload_n 3, 1) := by decide +kernel
theorem dX6_trip_70 : decode cX6_trip 70 = .ok (.invokevirtual 245, 3) := by decide +kernel
theorem dX6_trip_73 : decode cX6_trip 73 = .ok (.iload_n 3, 1) := by decide +kernel
theorem dX6_trip_74 : decode cX6_trip 74 = .ok (.aload_n 0, 1) := by decide +kernel
theorem dX6_trip_75 : decode cX6_trip 75 = .ok (.getfield 236, 3) := by decide +kernel
theorem dX6_trip_78 : decode cX6_trip 78 = .ok (.aload_n 0, 1) := by decide +kernel
theorem dX6_trip_79 : decode cX6_trip 79 = .ok (.getfield 239, 3) := by decide +kernel
theorem dX6_trip_82 : decode cX6_trip 82 = .ok (.invokestatic 196, 3) := by decide +kernel
theorem dX6_trip_85 : decode cX6_trip 85 = .ok (.istore_n 3, 1) := by decide +kernel
theorem dX6_trip_86 : decode cX6_trip 86 = .ok (.iinc 4 1, 3) := by decide +kernel
theorem dX6_trip_89 : decode cX6_trip 89 = .ok (.goto (-27), 3) := by decide +kernel
theorem dX6_trip_92 : decode cX6_trip 92 = .ok (.iload_n 2, 1) := by decide +kernel
theorem dX6_trip_93 : decode cX6_trip 93 = .ok (.ifCond .ne 10, 3) := by decide +kernel
theorem dX6_trip_96 : decode cX6_trip 96 = .ok (.aload_n 0, 1) := by decide +kernel
theorem dX6_trip_97 : decode cX6_trip 97 = .ok (.getfield 236, 3) := by decide +kernel
theorem dX6_trip_100 : decode cX6_trip 100 = .ok (.goto 7, 3) := by decide +kernel
theorem dX6_trip_103 : decode cX6_trip 103 = .ok (.aload_n 0, 1) := by decide +kernel
theorem dX6_trip_104 : decode cX6_trip 104 = .ok (.getfield 239, 3) := by decide +kernel
theorem dX6_trip_107 : decode cX6_trip 107 = .ok (.ireturn, 1) := by decide +kernel
theorem dX6_spread_0 : decode cX6_spread 0 = .ok (.aload_n 0, 1) := by decide +kernel
theorem dX6_spread_1 : decode cX6_spread 1 = .ok (.iload_n 1, 1) := by decide +kernel
theorem dX6_spread_2 : decode cX6_spread 2 = .ok (.iload_n 2, 1) := by decide +kernel
theorem dX6_spread_3 : decode cX6_spread 3 = .ok (.iload_n 3, 1) := by decide +kernel
theorem dX6_spread_4 : decode cX6_spread 4 = .ok (.invokevirtual 188, 3) := by decide +kernel
theorem dX6_spread_7 : decode cX6_spread 7 = .ok (.ifCond .ne 5, 3) := by decide +kernel
theorem dX6_spread_10 : decode cX6_spread 10 = .ok (.iconst 0, 1) := by decide +kernel
theorem dX6_spread_11 : decode cX6_spread 11 = .ok (.ireturn, 1) := by decide +kernel
theorem dX6_spread_12 : decode cX6_spread 12 = .ok (.iload_n 1, 1) := by decide +kernel
theorem dX6_spread_13 : decode cX6_spread 13 = .ok (.iload_n 2, 1) := by decide +kernel
theorem dX6_spread_14 : decode cX6_spread 14 = .ok (.iload_n 3, 1) := by decide +kernel
theorem dX6_spread_15 : decode cX6_spread 15 = .ok (.invokestatic 196, 3) := by decide +kernel
theorem dX6_spread_18 : decode cX6_spread 18 = .ok (.istore 4, 2) := by decide +kernel
theorem dX6_spread_20 : decode cX6_spread 20 = .ok (.aload_n 0, 1) := by decide +kernel
theorem dX6_spread_21 : decode cX6_spread 21 = .ok (.getfield 63, 3) := by decide +kernel
theorem dX6_spread_24 : decode cX6_spread 24 = .ok (.iload 4, 2) := by decide +kernel
theorem dX6_spread_26 : decode cX6_spread 26 = .ok (.iaload, 1) := by decide +kernel
theorem dX6_spread_27 : decode cX6_spread 27 = .ok (.bipush (-9), 2) := by decide +kernel
theorem dX6_spread_29 : decode cX6_spread 29 = .ok (.if_icmp .eq 23, 3) := by decide +kernel
theorem dX6_spread_32 : decode cX6_spread 32 = .ok (.aload_n 0, 1) := by decide +kernel
theorem dX6_spread_33 : decode cX6_spread 33 = .ok (.getfield 63, 3) := by decide +kernel
theorem dX6_spread_36 : decode cX6_spread 36 = .ok (.iload 4, 2) := by decide +kernel
theorem dX6_spread_38 : decode cX6_spread 38 = .ok (.iaload, 1) := by decide +kernel
theorem dX6_spread_39 : decode cX6_spread 39 = .ok (.aload_n 0, 1) := by decide +kernel
theorem dX6_spread_40 : decode cX6_spread 40 = .ok (.getfield 63, 3) := by decide +kernel
theorem dX6_spread_43 : decode cX6_spread 43 = .ok (.iload_n 1, 1) := by decide +kernel
theorem dX6_spread_44 : decode cX6_spread 44 = .ok (.iaload, 1) := by decide +kernel
theorem dX6_spread_45 : decode cX6_spread 45 = .ok (.iconst 1, 1) := by decide +kernel
theorem dX6_spread_46 : decode cX6_spread 46 = .ok (.iadd, 1) := by decide +kernel
theorem dX6_spread_47 : decode cX6_spread 47 = .ok (.if_icmp .gt 5, 3) := by decide +kernel
theorem dX6_spread_50 : decode cX6_spread 50 = .ok (.iconst 0, 1) := by decide +kernel
theorem dX6_spread_51 : decode cX6_spread 51 = .ok (.ireturn, 1) := by decide +kernel
theorem dX6_spread_52 : decode cX6_spread 52 = .ok (.aload_n 0, 1) := by decide +kernel
theorem dX6_spread_53 : decode cX6_spread 53 = .ok (.getfield 63, 3) := by decide +kernel
theorem dX6_spread_56 : decode cX6_spread 56 = .ok (.iload 4, 2) := by decide +kernel
theorem dX6_spread_58 : decode cX6_spread 58 = .ok (.aload_n 0, 1) := by decide +kernel
theorem dX6_spread_59 : decode cX6_spread 59 = .ok (.getfield 63, 3) := by decide +kernel
theorem dX6_spread_62 : decode cX6_spread 62 = .ok (.iload_n 1, 1) := by decide +kernel
theorem dX6_spread_63 : decode cX6_spread 63 = .ok (.iaload, 1) := by decide +kernel
theorem dX6_spread_64 : decode cX6_spread 64 = .ok (.iconst 1, 1) := by decide +kernel
theorem dX6_spread_65 : decode cX6_spread 65 = .ok (.iadd, 1) := by decide +kernel
theorem dX6_spread_66 : decode cX6_spread 66 = .ok (.iastore, 1) := by decide +kernel
theorem dX6_spread_67 : decode cX6_spread 67 = .ok (.iconst 1, 1) := by decide +kernel
theorem dX6_spread_68 : decode cX6_spread 68 = .ok (.ireturn, 1) := by decide +kernel
theorem dX6_fewest_0 : decode cX6_fewest 0 = .ok (.aload_n 0, 1) := by decide +kernel
theorem dX6_fewest_1 : decode cX6_fewest 1 = .ok (.getfield 84, 3) := by decide +kernel
theorem dX6_fewest_4 : decode cX6_fewest 4 = .ok (.ifCond .ne 6, 3) := by decide +kernel
theorem dX6_fewest_7 : decode cX6_fewest 7 = .ok (.bipush (-3), 2) := by decide +kernel
theorem dX6_fewest_9 : decode cX6_fewest 9 = .ok (.ireturn, 1) := by decide +kernel
theorem dX6_fewest_10 : decode cX6_fewest 10 = .ok (.iconst 0, 1) := by decide +kernel
theorem dX6_fewest_11 : decode cX6_fewest 11 = .ok (.istore_n 1, 1) := by decide +kernel
theorem dX6_fewest_12 : decode cX6_fewest 12 = .ok (.iload_n 1, 1) := by decide +kernel
theorem dX6_fewest_13 : decode cX6_fewest 13 = .ok (.sipush 1024, 3) := by decide +kernel
theorem dX6_fewest_16 : decode cX6_fewest 16 = .ok (.if_icmp .ge 17, 3) := by decide +kernel
theorem dX6_fewest_19 : decode cX6_fewest 19 = .ok (.aload_n 0, 1) := by decide +kernel
theorem dX6_fewest_20 : decode cX6_fewest 20 = .ok (.getfield 63, 3) := by decide +kernel
theorem dX6_fewest_23 : decode cX6_fewest 23 = .ok (.iload_n 1, 1) := by decide +kernel
theorem dX6_fewest_24 : decode cX6_fewest 24 = .ok (.bipush (-9), 2) := by decide +kernel
theorem dX6_fewest_26 : decode cX6_fewest 26 = .ok (.iastore, 1) := by decide +kernel
theorem dX6_fewest_27 : decode cX6_fewest 27 = .ok (.iinc 1 1, 3) := by decide +kernel
theorem dX6_fewest_30 : decode cX6_fewest 30 = .ok (.goto (-18), 3) := by decide +kernel
theorem dX6_fewest_33 : decode cX6_fewest 33 = .ok (.aload_n 0, 1) := by decide +kernel
theorem dX6_fewest_34 : decode cX6_fewest 34 = .ok (.getfield 63, 3) := by decide +kernel
theorem dX6_fewest_37 : decode cX6_fewest 37 = .ok (.iconst 0, 1) := by decide +kernel
theorem dX6_fewest_38 : decode cX6_fewest 38 = .ok (.iconst 0, 1) := by decide +kernel
theorem dX6_fewest_39 : decode cX6_fewest 39 = .ok (.iastore, 1) := by decide +kernel
theorem dX6_fewest_40 : decode cX6_fewest 40 = .ok (.iconst 1, 1) := by decide +kernel
theorem dX6_fewest_41 : decode cX6_fewest 41 = .ok (.istore_n 1, 1) := by decide +kernel
theorem dX6_fewest_42 : decode cX6_fewest 42 = .ok (.iload_n 1, 1) := by decide +kernel
theorem dX6_fewest_43 : decode cX6_fewest 43 = .ok (.ifCond .eq 78, 3) := by decide +kernel
theorem dX6_fewest_46 : decode cX6_fewest 46 = .ok (.iconst 0, 1) := by decide +kernel
theorem dX6_fewest_47 : decode cX6_fewest 47 = .ok (.istore_n 1, 1) := by decide +kernel
theorem dX6_fewest_48 : decode cX6_fewest 48 = .ok (.iconst 0, 1) := by decide +kernel
theorem dX6_fewest_49 : decode cX6_fewest 49 = .ok (.istore_n 2, 1) := by decide +kernel
theorem dX6_fewest_50 : decode cX6_fewest 50 = .ok (.iload_n 2, 1) := by decide +kernel
theorem dX6_fewest_51 : decode cX6_fewest 51 = .ok (.sipush 1024, 3) := by decide +kernel
theorem dX6_fewest_54 : decode cX6_fewest 54 = .ok (.if_icmp .ge 64, 3) := by decide +kernel
theorem dX6_fewest_57 : decode cX6_fewest 57 = .ok (.iconst 0, 1) := by decide +kernel
theorem dX6_fewest_58 : decode cX6_fewest 58 = .ok (.istore_n 3, 1) := by decide +kernel
theorem dX6_fewest_59 : decode cX6_fewest 59 = .ok (.iload_n 3, 1) := by decide +kernel
theorem dX6_fewest_60 : decode cX6_fewest 60 = .ok (.aload_n 0, 1) := by decide +kernel
theorem dX6_fewest_61 : decode cX6_fewest 61 = .ok (.invokevirtual 149, 3) := by decide +kernel
theorem dX6_fewest_64 : decode cX6_fewest 64 = .ok (.if_icmp .gt 48, 3) := by decide +kernel
theorem dX6_fewest_67 : decode cX6_fewest 67 = .ok (.aload_n 0, 1) := by decide +kernel
theorem dX6_fewest_68 : decode cX6_fewest 68 = .ok (.getfield 63, 3) := by decide +kernel
theorem dX6_fewest_71 : decode cX6_fewest 71 = .ok (.iload_n 2, 1) := by decide +kernel
theorem dX6_fewest_72 : decode cX6_fewest 72 = .ok (.iaload, 1) := by decide +kernel
theorem dX6_fewest_73 : decode cX6_fewest 73 = .ok (.bipush (-9), 2) := by decide +kernel
theorem dX6_fewest_75 : decode cX6_fewest 75 = .ok (.if_icmp .eq 37, 3) := by decide +kernel
theorem dX6_fewest_78 : decode cX6_fewest 78 = .ok (.iload_n 1, 1) := by decide +kernel
theorem dX6_fewest_79 : decode cX6_fewest 79 = .ok (.aload_n 0, 1) := by decide +kernel
theorem dX6_fewest_80 : decode cX6_fewest 80 = .ok (.iload_n 2, 1) := by decide +kernel
theorem dX6_fewest_81 : decode cX6_fewest 81 = .ok (.iload_n 2, 1) := by decide +kernel
theorem dX6_fewest_82 : decode cX6_fewest 82 = .ok (.iconst 3, 1) := by decide +kernel
theorem dX6_fewest_83 : decode cX6_fewest 83 = .ok (.iand, 1) := by decide +kernel
theorem dX6_fewest_84 : decode cX6_fewest 84 = .ok (.iconst 1, 1) := by decide +kernel
theorem dX6_fewest_85 : decode cX6_fewest 85 = .ok (.iadd, 1) := by decide +kernel
theorem dX6_fewest_86 : decode cX6_fewest 86 = .ok (.iload_n 3, 1) := by decide +kernel
theorem dX6_fewest_87 : decode cX6_fewest 87 = .ok (.invokevirtual 249, 3) := by decide +kernel
theorem dX6_fewest_90 : decode cX6_fewest 90 = .ok (.ior, 1) := by decide +kernel
theorem dX6_fewest_91 : decode cX6_fewest 91 = .ok (.istore_n 1, 1) := by decide +kernel
theorem dX6_fewest_92 : decode cX6_fewest 92 = .ok (.iload_n 1, 1) := by decide +kernel
theorem dX6_fewest_93 : decode cX6_fewest 93 = .ok (.aload_n 0, 1) := by decide +kernel
theorem dX6_fewest_94 : decode cX6_fewest 94 = .ok (.iload_n 2, 1) := by decide +kernel
theorem dX6_fewest_95 : decode cX6_fewest 95 = .ok (.iload_n 2, 1) := by decide +kernel
theorem dX6_fewest_96 : decode cX6_fewest 96 = .ok (.iconst 3, 1) := by decide +kernel
theorem dX6_fewest_97 : decode cX6_fewest 97 = .ok (.iand, 1) := by decide +kernel
theorem dX6_fewest_98 : decode cX6_fewest 98 = .ok (.iconst 1, 1) := by decide +kernel
theorem dX6_fewest_99 : decode cX6_fewest 99 = .ok (.isub, 1) := by decide +kernel
theorem dX6_fewest_100 : decode cX6_fewest 100 = .ok (.iload_n 3, 1) := by decide +kernel
theorem dX6_fewest_101 : decode cX6_fewest 101 = .ok (.invokevirtual 249, 3) := by decide +kernel
theorem dX6_fewest_104 : decode cX6_fewest 104 = .ok (.ior, 1) := by decide +kernel
theorem dX6_fewest_105 : decode cX6_fewest 105 = .ok (.istore_n 1, 1) := by decide +kernel
theorem dX6_fewest_106 : decode cX6_fewest 106 = .ok (.iinc 3 1, 3) := by decide +kernel
theorem dX6_fewest_109 : decode cX6_fewest 109 = .ok (.goto (-50), 3) := by decide +kernel
theorem dX6_fewest_112 : decode cX6_fewest 112 = .ok (.iinc 2 1, 3) := by decide +kernel
theorem dX6_fewest_115 : decode cX6_fewest 115 = .ok (.goto (-65), 3) := by decide +kernel
theorem dX6_fewest_118 : decode cX6_fewest 118 = .ok (.goto (-76), 3) := by decide +kernel
theorem dX6_fewest_121 : decode cX6_fewest 121 = .ok (.aload_n 0, 1) := by decide +kernel
theorem dX6_fewest_122 : decode cX6_fewest 122 = .ok (.getfield 63, 3) := by decide +kernel
theorem dX6_fewest_125 : decode cX6_fewest 125 = .ok (.aload_n 0, 1) := by decide +kernel
theorem dX6_fewest_126 : decode cX6_fewest 126 = .ok (.invokevirtual 221, 3) := by decide +kernel
theorem dX6_fewest_129 : decode cX6_fewest 129 = .ok (.iaload, 1) := by decide +kernel
theorem dX6_fewest_130 : decode cX6_fewest 130 = .ok (.ireturn, 1) := by decide +kernel
theorem dX6_cost_0 : decode cX6_cost 0 = .ok (.aload_n 0, 1) := by decide +kernel
theorem dX6_cost_1 : decode cX6_cost 1 = .ok (.iload_n 1, 1) := by decide +kernel
theorem dX6_cost_2 : decode cX6_cost 2 = .ok (.invokevirtual 143, 3) := by decide +kernel
theorem dX6_cost_5 : decode cX6_cost 5 = .ok (.ifCond .ne 5, 3) := by decide +kernel
theorem dX6_cost_8 : decode cX6_cost 8 = .ok (.iconst (-1), 1) := by decide +kernel
theorem dX6_cost_9 : decode cX6_cost 9 = .ok (.ireturn, 1) := by decide +kernel
theorem dX6_cost_10 : decode cX6_cost 10 = .ok (.aload_n 0, 1) := by decide +kernel
theorem dX6_cost_11 : decode cX6_cost 11 = .ok (.invokevirtual 224, 3) := by decide +kernel
theorem dX6_cost_14 : decode cX6_cost 14 = .ok (.istore_n 2, 1) := by decide +kernel
theorem dX6_cost_15 : decode cX6_cost 15 = .ok (.iload_n 2, 1) := by decide +kernel
theorem dX6_cost_16 : decode cX6_cost 16 = .ok (.bipush (-9), 2) := by decide +kernel
theorem dX6_cost_18 : decode cX6_cost 18 = .ok (.if_icmp .eq 11, 3) := by decide +kernel
theorem dX6_cost_21 : decode cX6_cost 21 = .ok (.aload_n 0, 1) := by decide +kernel
theorem dX6_cost_22 : decode cX6_cost 22 = .ok (.getfield 87, 3) := by decide +kernel
theorem dX6_cost_25 : decode cX6_cost 25 = .ok (.iconst 1, 1) := by decide +kernel
theorem dX6_cost_26 : decode cX6_cost 26 = .ok (.if_icmp .ne 6, 3) := by decide +kernel
theorem dX6_cost_29 : decode cX6_cost 29 = .ok (.bipush (-9), 2) := by decide +kernel
theorem dX6_cost_31 : decode cX6_cost 31 = .ok (.ireturn, 1) := by decide +kernel
theorem dX6_cost_32 : decode cX6_cost 32 = .ok (.aload_n 0, 1) := by decide +kernel
theorem dX6_cost_33 : decode cX6_cost 33 = .ok (.iload_n 1, 1) := by decide +kernel
theorem dX6_cost_34 : decode cX6_cost 34 = .ok (.putfield 39, 3) := by decide +kernel
theorem dX6_cost_37 : decode cX6_cost 37 = .ok (.aload_n 0, 1) := by decide +kernel
theorem dX6_cost_38 : decode cX6_cost 38 = .ok (.invokevirtual 224, 3) := by decide +kernel
theorem dX6_cost_41 : decode cX6_cost 41 = .ok (.istore_n 3, 1) := by decide +kernel
theorem dX6_cost_42 : decode cX6_cost 42 = .ok (.aload_n 0, 1) := by decide +kernel
theorem dX6_cost_43 : decode cX6_cost 43 = .ok (.bipush (-9), 2) := by decide +kernel
theorem dX6_cost_45 : decode cX6_cost 45 = .ok (.putfield 39, 3) := by decide +kernel
theorem dX6_cost_48 : decode cX6_cost 48 = .ok (.iload_n 3, 1) := by decide +kernel
theorem dX6_cost_49 : decode cX6_cost 49 = .ok (.bipush (-9), 2) := by decide +kernel
theorem dX6_cost_51 : decode cX6_cost 51 = .ok (.if_icmp .ne 8, 3) := by decide +kernel
theorem dX6_cost_54 : decode cX6_cost 54 = .ok (.bipush (-9), 2) := by decide +kernel
theorem dX6_cost_56 : decode cX6_cost 56 = .ok (.goto 10, 3) := by decide +kernel
theorem dX6_cost_59 : decode cX6_cost 59 = .ok (.iload_n 2, 1) := by decide +kernel
theorem dX6_cost_60 : decode cX6_cost 60 = .ok (.iload_n 3, 1) := by decide +kernel
theorem dX6_cost_61 : decode cX6_cost 61 = .ok (.isub, 1) := by decide +kernel
theorem dX6_cost_62 : decode cX6_cost 62 = .ok (.sipush 1000, 3) := by decide +kernel
theorem dX6_cost_65 : decode cX6_cost 65 = .ok (.iadd, 1) := by decide +kernel
theorem dX6_cost_66 : decode cX6_cost 66 = .ok (.ireturn, 1) := by decide +kernel
theorem dX6_help_0 : decode cX6_help 0 = .ok (.iload_n 1, 1) := by decide +kernel
theorem dX6_help_1 : decode cX6_help 1 = .ok (.iconst 0, 1) := by decide +kernel
theorem dX6_help_2 : decode cX6_help 2 = .ok (.bipush 36, 2) := by decide +kernel
theorem dX6_help_4 : decode cX6_help 4 = .ok (.invokestatic 80, 3) := by decide +kernel
theorem dX6_help_7 : decode cX6_help 7 = .ok (.ifCond .ne 6, 3) := by decide +kernel
theorem dX6_help_10 : decode cX6_help 10 = .ok (.bipush (-2), 2) := by decide +kernel
theorem dX6_help_12 : decode cX6_help 12 = .ok (.ireturn, 1) := by decide +kernel
theorem dX6_help_13 : decode cX6_help 13 = .ok (.aload_n 0, 1) := by decide +kernel
theorem dX6_help_14 : decode cX6_help 14 = .ok (.getfield 84, 3) := by decide +kernel
theorem dX6_help_17 : decode cX6_help 17 = .ok (.ifCond .ne 6, 3) := by decide +kernel
theorem dX6_help_20 : decode cX6_help 20 = .ok (.bipush (-3), 2) := by decide +kernel
theorem dX6_help_22 : decode cX6_help 22 = .ok (.ireturn, 1) := by decide +kernel
theorem dX6_help_23 : decode cX6_help 23 = .ok (.aload_n 0, 1) := by decide +kernel
theorem dX6_help_24 : decode cX6_help 24 = .ok (.invokevirtual 224, 3) := by decide +kernel
theorem dX6_help_27 : decode cX6_help 27 = .ok (.istore_n 2, 1) := by decide +kernel
theorem dX6_help_28 : decode cX6_help 28 = .ok (.aload_n 0, 1) := by decide +kernel
theorem dX6_help_29 : decode cX6_help 29 = .ok (.dup, 1) := by decide +kernel
theorem dX6_help_30 : decode cX6_help 30 = .ok (.getfield 114, 3) := by decide +kernel
theorem dX6_help_33 : decode cX6_help 33 = .ok (.iload_n 1, 1) := by decide +kernel
theorem dX6_help_34 : decode cX6_help 34 = .ok (.iadd, 1) := by decide +kernel
theorem dX6_help_35 : decode cX6_help 35 = .ok (.putfield 114, 3) := by decide +kernel
theorem dX6_help_38 : decode cX6_help 38 = .ok (.aload_n 0, 1) := by decide +kernel
theorem dX6_help_39 : decode cX6_help 39 = .ok (.invokevirtual 224, 3) := by decide +kernel
theorem dX6_help_42 : decode cX6_help 42 = .ok (.istore_n 3, 1) := by decide +kernel
theorem dX6_help_43 : decode cX6_help 43 = .ok (.aload_n 0, 1) := by decide +kernel
theorem dX6_help_44 : decode cX6_help 44 = .ok (.dup, 1) := by decide +kernel
theorem dX6_help_45 : decode cX6_help 45 = .ok (.getfield 114, 3) := by decide +kernel
theorem dX6_help_48 : decode cX6_help 48 = .ok (.iload_n 1, 1) := by decide +kernel
theorem dX6_help_49 : decode cX6_help 49 = .ok (.isub, 1) := by decide +kernel
theorem dX6_help_50 : decode cX6_help 50 = .ok (.putfield 114, 3) := by decide +kernel
theorem dX6_help_53 : decode cX6_help 53 = .ok (.iload_n 2, 1) := by decide +kernel
theorem dX6_help_54 : decode cX6_help 54 = .ok (.bipush (-9), 2) := by decide +kernel
theorem dX6_help_56 : decode cX6_help 56 = .ok (.if_icmp .eq 9, 3) := by decide +kernel
theorem dX6_help_59 : decode cX6_help 59 = .ok (.iload_n 3, 1) := by decide +kernel
theorem dX6_help_60 : decode cX6_help 60 = .ok (.bipush (-9), 2) := by decide +kernel
theorem dX6_help_62 : decode cX6_help 62 = .ok (.if_icmp .ne 8, 3) := by decide +kernel
theorem dX6_help_65 : decode cX6_help 65 = .ok (.bipush (-9), 2) := by decide +kernel
theorem dX6_help_67 : decode cX6_help 67 = .ok (.goto 6, 3) := by decide +kernel
theorem dX6_help_70 : decode cX6_help 70 = .ok (.iload_n 2, 1) := by decide +kernel
theorem dX6_help_71 : decode cX6_help 71 = .ok (.iload_n 3, 1) := by decide +kernel
theorem dX6_help_72 : decode cX6_help 72 = .ok (.isub, 1) := by decide +kernel
theorem dX6_help_73 : decode cX6_help 73 = .ok (.ireturn, 1) := by decide +kernel
theorem dX6_reading_0 : decode cX6_reading 0 = .ok (.aload_n 0, 1) := by decide +kernel
theorem dX6_reading_1 : decode cX6_reading 1 = .ok (.iload_n 1, 1) := by decide +kernel
theorem dX6_reading_2 : decode cX6_reading 2 = .ok (.invokevirtual 143, 3) := by decide +kernel
theorem dX6_reading_5 : decode cX6_reading 5 = .ok (.ifCond .eq 11, 3) := by decide +kernel
theorem dX6_reading_8 : decode cX6_reading 8 = .ok (.aload_n 0, 1) := by decide +kernel
theorem dX6_reading_9 : decode cX6_reading 9 = .ok (.iload_n 2, 1) := by decide +kernel
theorem dX6_reading_10 : decode cX6_reading 10 = .ok (.invokevirtual 160, 3) := by decide +kernel
theorem dX6_reading_13 : decode cX6_reading 13 = .ok (.ifCond .ne 5, 3) := by decide +kernel
theorem dX6_reading_16 : decode cX6_reading 16 = .ok (.iconst (-1), 1) := by decide +kernel
theorem dX6_reading_17 : decode cX6_reading 17 = .ok (.ireturn, 1) := by decide +kernel
theorem dX6_reading_18 : decode cX6_reading 18 = .ok (.iload_n 3, 1) := by decide +kernel
theorem dX6_reading_19 : decode cX6_reading 19 = .ok (.iconst 0, 1) := by decide +kernel
theorem dX6_reading_20 : decode cX6_reading 20 = .ok (.bipush 99, 2) := by decide +kernel
theorem dX6_reading_22 : decode cX6_reading 22 = .ok (.invokestatic 80, 3) := by decide +kernel
theorem dX6_reading_25 : decode cX6_reading 25 = .ok (.ifCond .ne 6, 3) := by decide +kernel
theorem dX6_reading_28 : decode cX6_reading 28 = .ok (.bipush (-2), 2) := by decide +kernel
theorem dX6_reading_30 : decode cX6_reading 30 = .ok (.ireturn, 1) := by decide +kernel
theorem dX6_reading_31 : decode cX6_reading 31 = .ok (.aload_n 0, 1) := by decide +kernel
theorem dX6_reading_32 : decode cX6_reading 32 = .ok (.getfield 123, 3) := by decide +kernel
theorem dX6_reading_35 : decode cX6_reading 35 = .ok (.bipush 8, 2) := by decide +kernel
theorem dX6_reading_37 : decode cX6_reading 37 = .ok (.if_icmp .ne 6, 3) := by decide +kernel
theorem dX6_reading_40 : decode cX6_reading 40 = .ok (.bipush (-4), 2) := by decide +kernel
theorem dX6_reading_42 : decode cX6_reading 42 = .ok (.ireturn, 1) := by decide +kernel
theorem dX6_reading_43 : decode cX6_reading 43 = .ok (.aload_n 0, 1) := by decide +kernel
theorem dX6_reading_44 : decode cX6_reading 44 = .ok (.getfield 66, 3) := by decide +kernel
theorem dX6_reading_47 : decode cX6_reading 47 = .ok (.aload_n 0, 1) := by decide +kernel
theorem dX6_reading_48 : decode cX6_reading 48 = .ok (.getfield 123, 3) := by decide +kernel
theorem dX6_reading_51 : decode cX6_reading 51 = .ok (.iload_n 1, 1) := by decide +kernel
theorem dX6_reading_52 : decode cX6_reading 52 = .ok (.iastore, 1) := by decide +kernel
theorem dX6_reading_53 : decode cX6_reading 53 = .ok (.aload_n 0, 1) := by decide +kernel
theorem dX6_reading_54 : decode cX6_reading 54 = .ok (.getfield 69, 3) := by decide +kernel
theorem dX6_reading_57 : decode cX6_reading 57 = .ok (.aload_n 0, 1) := by decide +kernel
theorem dX6_reading_58 : decode cX6_reading 58 = .ok (.getfield 123, 3) := by decide +kernel
theorem dX6_reading_61 : decode cX6_reading 61 = .ok (.iload_n 2, 1) := by decide +kernel
theorem dX6_reading_62 : decode cX6_reading 62 = .ok (.iastore, 1) := by decide +kernel
theorem dX6_reading_63 : decode cX6_reading 63 = .ok (.aload_n 0, 1) := by decide +kernel
theorem dX6_reading_64 : decode cX6_reading 64 = .ok (.getfield 72, 3) := by decide +kernel
theorem dX6_reading_67 : decode cX6_reading 67 = .ok (.aload_n 0, 1) := by decide +kernel
theorem dX6_reading_68 : decode cX6_reading 68 = .ok (.getfield 123, 3) := by decide +kernel
theorem dX6_reading_71 : decode cX6_reading 71 = .ok (.iload_n 3, 1) := by decide +kernel
theorem dX6_reading_72 : decode cX6_reading 72 = .ok (.iastore, 1) := by decide +kernel
theorem dX6_reading_73 : decode cX6_reading 73 = .ok (.aload_n 0, 1) := by decide +kernel
theorem dX6_reading_74 : decode cX6_reading 74 = .ok (.dup, 1) := by decide +kernel
theorem dX6_reading_75 : decode cX6_reading 75 = .ok (.getfield 123, 3) := by decide +kernel
theorem dX6_reading_78 : decode cX6_reading 78 = .ok (.iconst 1, 1) := by decide +kernel
theorem dX6_reading_79 : decode cX6_reading 79 = .ok (.iadd, 1) := by decide +kernel
theorem dX6_reading_80 : decode cX6_reading 80 = .ok (.putfield 123, 3) := by decide +kernel
theorem dX6_reading_83 : decode cX6_reading 83 = .ok (.aload_n 0, 1) := by decide +kernel
theorem dX6_reading_84 : decode cX6_reading 84 = .ok (.getfield 123, 3) := by decide +kernel
theorem dX6_reading_87 : decode cX6_reading 87 = .ok (.iconst 1, 1) := by decide +kernel
theorem dX6_reading_88 : decode cX6_reading 88 = .ok (.isub, 1) := by decide +kernel
theorem dX6_reading_89 : decode cX6_reading 89 = .ok (.ireturn, 1) := by decide +kernel
theorem dX6_back_0 : decode cX6_back 0 = .ok (.iload_n 1, 1) := by decide +kernel
theorem dX6_back_1 : decode cX6_back 1 = .ok (.iconst 0, 1) := by decide +kernel
theorem dX6_back_2 : decode cX6_back 2 = .ok (.aload_n 0, 1) := by decide +kernel
theorem dX6_back_3 : decode cX6_back 3 = .ok (.getfield 123, 3) := by decide +kernel
theorem dX6_back_6 : decode cX6_back 6 = .ok (.invokestatic 80, 3) := by decide +kernel
theorem dX6_back_9 : decode cX6_back 9 = .ok (.ifCond .ne 6, 3) := by decide +kernel
theorem dX6_back_12 : decode cX6_back 12 = .ok (.bipush (-2), 2) := by decide +kernel
theorem dX6_back_14 : decode cX6_back 14 = .ok (.ireturn, 1) := by decide +kernel
theorem dX6_back_15 : decode cX6_back 15 = .ok (.aload_n 0, 1) := by decide +kernel
theorem dX6_back_16 : decode cX6_back 16 = .ok (.dup, 1) := by decide +kernel
theorem dX6_back_17 : decode cX6_back 17 = .ok (.getfield 123, 3) := by decide +kernel
theorem dX6_back_20 : decode cX6_back 20 = .ok (.iload_n 1, 1) := by decide +kernel
theorem dX6_back_21 : decode cX6_back 21 = .ok (.isub, 1) := by decide +kernel
theorem dX6_back_22 : decode cX6_back 22 = .ok (.putfield 123, 3) := by decide +kernel
theorem dX6_back_25 : decode cX6_back 25 = .ok (.aload_n 0, 1) := by decide +kernel
theorem dX6_back_26 : decode cX6_back 26 = .ok (.getfield 123, 3) := by decide +kernel
theorem dX6_back_29 : decode cX6_back 29 = .ok (.ireturn, 1) := by decide +kernel
theorem dX6_areSo_0 : decode cX6_areSo 0 = .ok (.aload_n 0, 1) := by decide +kernel
theorem dX6_areSo_1 : decode cX6_areSo 1 = .ok (.invokevirtual 205, 3) := by decide +kernel
theorem dX6_areSo_4 : decode cX6_areSo 4 = .ok (.bipush (-9), 2) := by decide +kernel
theorem dX6_areSo_6 : decode cX6_areSo 6 = .ok (.if_icmp .eq 5, 3) := by decide +kernel
theorem dX6_areSo_9 : decode cX6_areSo 9 = .ok (.iconst 0, 1) := by decide +kernel
theorem dX6_areSo_10 : decode cX6_areSo 10 = .ok (.ireturn, 1) := by decide +kernel
theorem dX6_areSo_11 : decode cX6_areSo 11 = .ok (.iconst 0, 1) := by decide +kernel
theorem dX6_areSo_12 : decode cX6_areSo 12 = .ok (.istore_n 1, 1) := by decide +kernel
theorem dX6_areSo_13 : decode cX6_areSo 13 = .ok (.iload_n 1, 1) := by decide +kernel
theorem dX6_areSo_14 : decode cX6_areSo 14 = .ok (.aload_n 0, 1) := by decide +kernel
theorem dX6_areSo_15 : decode cX6_areSo 15 = .ok (.getfield 123, 3) := by decide +kernel
theorem dX6_areSo_18 : decode cX6_areSo 18 = .ok (.if_icmp .ge 36, 3) := by decide +kernel
theorem dX6_areSo_21 : decode cX6_areSo 21 = .ok (.aload_n 0, 1) := by decide +kernel
theorem dX6_areSo_22 : decode cX6_areSo 22 = .ok (.aload_n 0, 1) := by decide +kernel
theorem dX6_areSo_23 : decode cX6_areSo 23 = .ok (.getfield 66, 3) := by decide +kernel
theorem dX6_areSo_26 : decode cX6_areSo 26 = .ok (.iload_n 1, 1) := by decide +kernel
theorem dX6_areSo_27 : decode cX6_areSo 27 = .ok (.iaload, 1) := by decide +kernel
theorem dX6_areSo_28 : decode cX6_areSo 28 = .ok (.aload_n 0, 1) := by decide +kernel
theorem dX6_areSo_29 : decode cX6_areSo 29 = .ok (.getfield 72, 3) := by decide +kernel
theorem dX6_areSo_32 : decode cX6_areSo 32 = .ok (.iload_n 1, 1) := by decide +kernel
theorem dX6_areSo_33 : decode cX6_areSo 33 = .ok (.iaload, 1) := by decide +kernel
theorem dX6_areSo_34 : decode cX6_areSo 34 = .ok (.invokevirtual 208, 3) := by decide +kernel
theorem dX6_areSo_37 : decode cX6_areSo 37 = .ok (.aload_n 0, 1) := by decide +kernel
theorem dX6_areSo_38 : decode cX6_areSo 38 = .ok (.getfield 69, 3) := by decide +kernel
theorem dX6_areSo_41 : decode cX6_areSo 41 = .ok (.iload_n 1, 1) := by decide +kernel
theorem dX6_areSo_42 : decode cX6_areSo 42 = .ok (.iaload, 1) := by decide +kernel
theorem dX6_areSo_43 : decode cX6_areSo 43 = .ok (.if_icmp .eq 5, 3) := by decide +kernel
theorem dX6_areSo_46 : decode cX6_areSo 46 = .ok (.iconst 0, 1) := by decide +kernel
theorem dX6_areSo_47 : decode cX6_areSo 47 = .ok (.ireturn, 1) := by decide +kernel
theorem dX6_areSo_48 : decode cX6_areSo 48 = .ok (.iinc 1 1, 3) := by decide +kernel
theorem dX6_areSo_51 : decode cX6_areSo 51 = .ok (.goto (-38), 3) := by decide +kernel
theorem dX6_areSo_54 : decode cX6_areSo 54 = .ok (.iconst 1, 1) := by decide +kernel
theorem dX6_areSo_55 : decode cX6_areSo 55 = .ok (.ireturn, 1) := by decide +kernel
theorem dX6_since_0 : decode cX6_since 0 = .ok (.aload_n 0, 1) := by decide +kernel
theorem dX6_since_1 : decode cX6_since 1 = .ok (.iconst 0, 1) := by decide +kernel
theorem dX6_since_2 : decode cX6_since 2 = .ok (.putfield 75, 3) := by decide +kernel
theorem dX6_since_5 : decode cX6_since 5 = .ok (.iload_n 1, 1) := by decide +kernel
theorem dX6_since_6 : decode cX6_since 6 = .ok (.invokestatic 93, 3) := by decide +kernel
theorem dX6_since_9 : decode cX6_since 9 = .ok (.ifCond .ne 5, 3) := by decide +kernel
theorem dX6_since_12 : decode cX6_since 12 = .ok (.iconst (-1), 1) := by decide +kernel
theorem dX6_since_13 : decode cX6_since 13 = .ok (.ireturn, 1) := by decide +kernel
theorem dX6_since_14 : decode cX6_since 14 = .ok (.iload_n 2, 1) := by decide +kernel
theorem dX6_since_15 : decode cX6_since 15 = .ok (.iload 4, 2) := by decide +kernel
theorem dX6_since_17 : decode cX6_since 17 = .ok (.invokestatic 199, 3) := by decide +kernel
theorem dX6_since_20 : decode cX6_since 20 = .ok (.ifCond .ne 6, 3) := by decide +kernel
theorem dX6_since_23 : decode cX6_since 23 = .ok (.bipush (-2), 2) := by decide +kernel
theorem dX6_since_25 : decode cX6_since 25 = .ok (.ireturn, 1) := by decide +kernel
theorem dX6_since_26 : decode cX6_since 26 = .ok (.aload_n 0, 1) := by decide +kernel
theorem dX6_since_27 : decode cX6_since 27 = .ok (.iload_n 1, 1) := by decide +kernel
theorem dX6_since_28 : decode cX6_since 28 = .ok (.iload_n 2, 1) := by decide +kernel
theorem dX6_since_29 : decode cX6_since 29 = .ok (.iload_n 3, 1) := by decide +kernel
theorem dX6_since_30 : decode cX6_since 30 = .ok (.iload 4, 2) := by decide +kernel
theorem dX6_since_32 : decode cX6_since 32 = .ok (.invokevirtual 202, 3) := by decide +kernel
theorem dX6_since_35 : decode cX6_since 35 = .ok (.istore 5, 2) := by decide +kernel
theorem dX6_since_37 : decode cX6_since 37 = .ok (.iload 5, 2) := by decide +kernel
theorem dX6_since_39 : decode cX6_since 39 = .ok (.ifCond .eq 6, 3) := by decide +kernel
theorem dX6_since_42 : decode cX6_since 42 = .ok (.iload 5, 2) := by decide +kernel
theorem dX6_since_44 : decode cX6_since 44 = .ok (.ireturn, 1) := by decide +kernel
theorem dX6_since_45 : decode cX6_since 45 = .ok (.aload_n 0, 1) := by decide +kernel
theorem dX6_since_46 : decode cX6_since 46 = .ok (.getfield 19, 3) := by decide +kernel
theorem dX6_since_49 : decode cX6_since 49 = .ok (.istore 6, 2) := by decide +kernel
theorem dX6_since_51 : decode cX6_since 51 = .ok (.iconst 0, 1) := by decide +kernel
theorem dX6_since_52 : decode cX6_since 52 = .ok (.istore 7, 2) := by decide +kernel
theorem dX6_since_54 : decode cX6_since 54 = .ok (.iconst 0, 1) := by decide +kernel
theorem dX6_since_55 : decode cX6_since 55 = .ok (.istore 8, 2) := by decide +kernel
theorem dX6_since_57 : decode cX6_since 57 = .ok (.iload 8, 2) := by decide +kernel
theorem dX6_since_59 : decode cX6_since 59 = .ok (.bipush 30, 2) := by decide +kernel
theorem dX6_since_61 : decode cX6_since 61 = .ok (.if_icmp .gt 35, 3) := by decide +kernel
theorem dX6_since_64 : decode cX6_since 64 = .ok (.aload_n 0, 1) := by decide +kernel
theorem dX6_since_65 : decode cX6_since 65 = .ok (.iload 8, 2) := by decide +kernel
theorem dX6_since_67 : decode cX6_since 67 = .ok (.putfield 19, 3) := by decide +kernel
theorem dX6_since_70 : decode cX6_since 70 = .ok (.iload 7, 2) := by decide +kernel
theorem dX6_since_72 : decode cX6_since 72 = .ok (.aload_n 0, 1) := by decide +kernel
theorem dX6_since_73 : decode cX6_since 73 = .ok (.invokevirtual 252, 3) := by decide +kernel
theorem dX6_since_76 : decode cX6_since 76 = .ok (.ifCond .eq 10, 3) := by decide +kernel
theorem dX6_since_79 : decode cX6_since 79 = .ok (.iconst 1, 1) := by decide +kernel
theorem dX6_since_80 : decode cX6_since 80 = .ok (.iload 8, 2) := by decide +kernel
theorem dX6_since_82 : decode cX6_since 82 = .ok (.ishl, 1) := by decide +kernel
theorem dX6_since_83 : decode cX6_since 83 = .ok (.goto 4, 3) := by decide +kernel
theorem dX6_since_86 : decode cX6_since 86 = .ok (.iconst 0, 1) := by decide +kernel
theorem dX6_since_87 : decode cX6_since 87 = .ok (.ior, 1) := by decide +kernel
theorem dX6_since_88 : decode cX6_since 88 = .ok (.istore 7, 2) := by decide +kernel
theorem dX6_since_90 : decode cX6_since 90 = .ok (.iinc 8 1, 3) := by decide +kernel
theorem dX6_since_93 : decode cX6_since 93 = .ok (.goto (-36), 3) := by decide +kernel
theorem dX6_since_96 : decode cX6_since 96 = .ok (.aload_n 0, 1) := by decide +kernel
theorem dX6_since_97 : decode cX6_since 97 = .ok (.iload 6, 2) := by decide +kernel
theorem dX6_since_99 : decode cX6_since 99 = .ok (.putfield 19, 3) := by decide +kernel
theorem dX6_since_102 : decode cX6_since 102 = .ok (.iload 7, 2) := by decide +kernel
theorem dX6_since_104 : decode cX6_since 104 = .ok (.ireturn, 1) := by decide +kernel
theorem dX6_kinds_0 : decode cX6_kinds 0 = .ok (.aload_n 0, 1) := by decide +kernel
theorem dX6_kinds_1 : decode cX6_kinds 1 = .ok (.iconst 0, 1) := by decide +kernel
theorem dX6_kinds_2 : decode cX6_kinds 2 = .ok (.putfield 75, 3) := by decide +kernel
theorem dX6_kinds_5 : decode cX6_kinds 5 = .ok (.aload_n 0, 1) := by decide +kernel
theorem dX6_kinds_6 : decode cX6_kinds 6 = .ok (.iload_n 1, 1) := by decide +kernel
theorem dX6_kinds_7 : decode cX6_kinds 7 = .ok (.invokevirtual 143, 3) := by decide +kernel
theorem dX6_kinds_10 : decode cX6_kinds 10 = .ok (.ifCond .eq 10, 3) := by decide +kernel
theorem dX6_kinds_13 : decode cX6_kinds 13 = .ok (.iload_n 2, 1) := by decide +kernel
theorem dX6_kinds_14 : decode cX6_kinds 14 = .ok (.invokestatic 93, 3) := by decide +kernel
theorem dX6_kinds_17 : decode cX6_kinds 17 = .ok (.ifCond .ne 5, 3) := by decide +kernel
theorem dX6_kinds_20 : decode cX6_kinds 20 = .ok (.iconst (-1), 1) := by decide +kernel
theorem dX6_kinds_21 : decode cX6_kinds 21 = .ok (.ireturn, 1) := by decide +kernel
theorem dX6_kinds_22 : decode cX6_kinds 22 = .ok (.iload_n 3, 1) := by decide +kernel
theorem dX6_kinds_23 : decode cX6_kinds 23 = .ok (.iload 5, 2) := by decide +kernel
theorem dX6_kinds_25 : decode cX6_kinds 25 = .ok (.invokestatic 199, 3) := by decide +kernel
theorem dX6_kinds_28 : decode cX6_kinds 28 = .ok (.ifCond .ne 6, 3) := by decide +kernel
theorem dX6_kinds_31 : decode cX6_kinds 31 = .ok (.bipush (-2), 2) := by decide +kernel
theorem dX6_kinds_33 : decode cX6_kinds 33 = .ok (.ireturn, 1) := by decide +kernel
theorem dX6_kinds_34 : decode cX6_kinds 34 = .ok (.aload_n 0, 1) := by decide +kernel
theorem dX6_kinds_35 : decode cX6_kinds 35 = .ok (.iload_n 2, 1) := by decide +kernel
theorem dX6_kinds_36 : decode cX6_kinds 36 = .ok (.iload_n 3, 1) := by decide +kernel
theorem dX6_kinds_37 : decode cX6_kinds 37 = .ok (.iload 4, 2) := by decide +kernel
theorem dX6_kinds_39 : decode cX6_kinds 39 = .ok (.iload 5, 2) := by decide +kernel
theorem dX6_kinds_41 : decode cX6_kinds 41 = .ok (.invokevirtual 202, 3) := by decide +kernel
theorem dX6_kinds_44 : decode cX6_kinds 44 = .ok (.istore 6, 2) := by decide +kernel
theorem dX6_kinds_46 : decode cX6_kinds 46 = .ok (.iload 6, 2) := by decide +kernel
theorem dX6_kinds_48 : decode cX6_kinds 48 = .ok (.ifCond .eq 6, 3) := by decide +kernel
theorem dX6_kinds_51 : decode cX6_kinds 51 = .ok (.iload 6, 2) := by decide +kernel
theorem dX6_kinds_53 : decode cX6_kinds 53 = .ok (.ireturn, 1) := by decide +kernel
theorem dX6_kinds_54 : decode cX6_kinds 54 = .ok (.aload_n 0, 1) := by decide +kernel
theorem dX6_kinds_55 : decode cX6_kinds 55 = .ok (.getfield 33, 3) := by decide +kernel
theorem dX6_kinds_58 : decode cX6_kinds 58 = .ok (.iload_n 1, 1) := by decide +kernel
theorem dX6_kinds_59 : decode cX6_kinds 59 = .ok (.iaload, 1) := by decide +kernel
theorem dX6_kinds_60 : decode cX6_kinds 60 = .ok (.istore 7, 2) := by decide +kernel
theorem dX6_kinds_62 : decode cX6_kinds 62 = .ok (.iconst 0, 1) := by decide +kernel
theorem dX6_kinds_63 : decode cX6_kinds 63 = .ok (.istore 8, 2) := by decide +kernel
theorem dX6_kinds_65 : decode cX6_kinds 65 = .ok (.iconst 0, 1) := by decide +kernel
theorem dX6_kinds_66 : decode cX6_kinds 66 = .ok (.istore 9, 2) := by decide +kernel
theorem dX6_kinds_68 : decode cX6_kinds 68 = .ok (.iload 9, 2) := by decide +kernel
theorem dX6_kinds_70 : decode cX6_kinds 70 = .ok (.iconst 3, 1) := by decide +kernel
theorem dX6_kinds_71 : decode cX6_kinds 71 = .ok (.if_icmp .ge 37, 3) := by decide +kernel
theorem dX6_kinds_74 : decode cX6_kinds 74 = .ok (.aload_n 0, 1) := by decide +kernel
theorem dX6_kinds_75 : decode cX6_kinds 75 = .ok (.getfield 33, 3) := by decide +kernel
theorem dX6_kinds_78 : decode cX6_kinds 78 = .ok (.iload_n 1, 1) := by decide +kernel
theorem dX6_kinds_79 : decode cX6_kinds 79 = .ok (.iload 9, 2) := by decide +kernel
theorem dX6_kinds_81 : decode cX6_kinds 81 = .ok (.iastore, 1) := by decide +kernel
theorem dX6_kinds_82 : decode cX6_kinds 82 = .ok (.iload 8, 2) := by decide +kernel
theorem dX6_kinds_84 : decode cX6_kinds 84 = .ok (.aload_n 0, 1) := by decide +kernel
theorem dX6_kinds_85 : decode cX6_kinds 85 = .ok (.invokevirtual 252, 3) := by decide +kernel
theorem dX6_kinds_88 : decode cX6_kinds 88 = .ok (.ifCond .eq 10, 3) := by decide +kernel
theorem dX6_kinds_91 : decode cX6_kinds 91 = .ok (.iconst 1, 1) := by decide +kernel
theorem dX6_kinds_92 : decode cX6_kinds 92 = .ok (.iload 9, 2) := by decide +kernel
theorem dX6_kinds_94 : decode cX6_kinds 94 = .ok (.ishl, 1) := by decide +kernel
theorem dX6_kinds_95 : decode cX6_kinds 95 = .ok (.goto 4, 3) := by decide +kernel
theorem dX6_kinds_98 : decode cX6_kinds 98 = .ok (.iconst 0, 1) := by decide +kernel
theorem dX6_kinds_99 : decode cX6_kinds 99 = .ok (.ior, 1) := by decide +kernel
theorem dX6_kinds_100 : decode cX6_kinds 100 = .ok (.istore 8, 2) := by decide +kernel
theorem dX6_kinds_102 : decode cX6_kinds 102 = .ok (.iinc 9 1, 3) := by decide +kernel
theorem dX6_kinds_105 : decode cX6_kinds 105 = .ok (.goto (-37), 3) := by decide +kernel
theorem dX6_kinds_108 : decode cX6_kinds 108 = .ok (.aload_n 0, 1) := by decide +kernel
theorem dX6_kinds_109 : decode cX6_kinds 109 = .ok (.getfield 33, 3) := by decide +kernel
theorem dX6_kinds_112 : decode cX6_kinds 112 = .ok (.iload_n 1, 1) := by decide +kernel
theorem dX6_kinds_113 : decode cX6_kinds 113 = .ok (.iload 7, 2) := by decide +kernel
theorem dX6_kinds_115 : decode cX6_kinds 115 = .ok (.iastore, 1) := by decide +kernel
theorem dX6_kinds_116 : decode cX6_kinds 116 = .ok (.iload 8, 2) := by decide +kernel
theorem dX6_kinds_118 : decode cX6_kinds 118 = .ok (.ireturn, 1) := by decide +kernel
theorem dX6_sheet_0 : decode cX6_sheet 0 = .ok (.aload_n 0, 1) := by decide +kernel
theorem dX6_sheet_1 : decode cX6_sheet 1 = .ok (.iconst 0, 1) := by decide +kernel
theorem dX6_sheet_2 : decode cX6_sheet 2 = .ok (.putfield 75, 3) := by decide +kernel
theorem dX6_sheet_5 : decode cX6_sheet 5 = .ok (.iload_n 1, 1) := by decide +kernel
theorem dX6_sheet_6 : decode cX6_sheet 6 = .ok (.invokestatic 93, 3) := by decide +kernel
theorem dX6_sheet_9 : decode cX6_sheet 9 = .ok (.ifCond .ne 5, 3) := by decide +kernel
theorem dX6_sheet_12 : decode cX6_sheet 12 = .ok (.iconst (-1), 1) := by decide +kernel
theorem dX6_sheet_13 : decode cX6_sheet 13 = .ok (.ireturn, 1) := by decide +kernel
theorem dX6_sheet_14 : decode cX6_sheet 14 = .ok (.iload_n 2, 1) := by decide +kernel
theorem dX6_sheet_15 : decode cX6_sheet 15 = .ok (.invokestatic 97, 3) := by decide +kernel
theorem dX6_sheet_18 : decode cX6_sheet 18 = .ok (.ifCond .eq 9, 3) := by decide +kernel
theorem dX6_sheet_21 : decode cX6_sheet 21 = .ok (.iload_n 3, 1) := by decide +kernel
theorem dX6_sheet_22 : decode cX6_sheet 22 = .ok (.bipush 60, 2) := by decide +kernel
theorem dX6_sheet_24 : decode cX6_sheet 24 = .ok (.if_icmp .le 6, 3) := by decide +kernel
theorem dX6_sheet_27 : decode cX6_sheet 27 = .ok (.bipush (-2), 2) := by decide +kernel
theorem dX6_sheet_29 : decode cX6_sheet 29 = .ok (.ireturn, 1) := by decide +kernel
theorem dX6_sheet_30 : decode cX6_sheet 30 = .ok (.iload_n 3, 1) := by decide +kernel
theorem dX6_sheet_31 : decode cX6_sheet 31 = .ok (.ifCond .ge 9, 3) := by decide +kernel
theorem dX6_sheet_34 : decode cX6_sheet 34 = .ok (.aload_n 0, 1) := by decide +kernel
theorem dX6_sheet_35 : decode cX6_sheet 35 = .ok (.iconst 4, 1) := by decide +kernel
theorem dX6_sheet_36 : decode cX6_sheet 36 = .ok (.invokevirtual 104, 3) := by decide +kernel
theorem dX6_sheet_39 : decode cX6_sheet 39 = .ok (.ireturn, 1) := by decide +kernel
theorem dX6_sheet_40 : decode cX6_sheet 40 = .ok (.aload_n 0, 1) := by decide +kernel
theorem dX6_sheet_41 : decode cX6_sheet 41 = .ok (.getfield 9, 3) := by decide +kernel
theorem dX6_sheet_44 : decode cX6_sheet 44 = .ok (.iload_n 1, 1) := by decide +kernel
theorem dX6_sheet_45 : decode cX6_sheet 45 = .ok (.iload_n 2, 1) := by decide +kernel
theorem dX6_sheet_46 : decode cX6_sheet 46 = .ok (.iastore, 1) := by decide +kernel
theorem dX6_sheet_47 : decode cX6_sheet 47 = .ok (.aload_n 0, 1) := by decide +kernel
theorem dX6_sheet_48 : decode cX6_sheet 48 = .ok (.getfield 13, 3) := by decide +kernel
theorem dX6_sheet_51 : decode cX6_sheet 51 = .ok (.iload_n 1, 1) := by decide +kernel
theorem dX6_sheet_52 : decode cX6_sheet 52 = .ok (.iload_n 3, 1) := by decide +kernel
theorem dX6_sheet_53 : decode cX6_sheet 53 = .ok (.iastore, 1) := by decide +kernel
theorem dX6_sheet_54 : decode cX6_sheet 54 = .ok (.iconst 0, 1) := by decide +kernel
theorem dX6_sheet_55 : decode cX6_sheet 55 = .ok (.istore 4, 2) := by decide +kernel
theorem dX6_sheet_57 : decode cX6_sheet 57 = .ok (.iload 4, 2) := by decide +kernel
theorem dX6_sheet_59 : decode cX6_sheet 59 = .ok (.bipush 60, 2) := by decide +kernel
theorem dX6_sheet_61 : decode cX6_sheet 61 = .ok (.if_icmp .ge 22, 3) := by decide +kernel
theorem dX6_sheet_64 : decode cX6_sheet 64 = .ok (.aload_n 0, 1) := by decide +kernel
theorem dX6_sheet_65 : decode cX6_sheet 65 = .ok (.getfield 16, 3) := by decide +kernel
theorem dX6_sheet_68 : decode cX6_sheet 68 = .ok (.bipush 60, 2) := by decide +kernel
theorem dX6_sheet_70 : decode cX6_sheet 70 = .ok (.iload_n 1, 1) := by decide +kernel
theorem dX6_sheet_71 : decode cX6_sheet 71 = .ok (.imul, 1) := by decide +kernel
theorem dX6_sheet_72 : decode cX6_sheet 72 = .ok (.iload 4, 2) := by decide +kernel
theorem dX6_sheet_74 : decode cX6_sheet 74 = .ok (.iadd, 1) := by decide +kernel
theorem dX6_sheet_75 : decode cX6_sheet 75 = .ok (.iconst 0, 1) := by decide +kernel
theorem dX6_sheet_76 : decode cX6_sheet 76 = .ok (.iastore, 1) := by decide +kernel
theorem dX6_sheet_77 : decode cX6_sheet 77 = .ok (.iinc 4 1, 3) := by decide +kernel
theorem dX6_sheet_80 : decode cX6_sheet 80 = .ok (.goto (-23), 3) := by decide +kernel
theorem dX6_sheet_83 : decode cX6_sheet 83 = .ok (.iconst 1, 1) := by decide +kernel
theorem dX6_sheet_84 : decode cX6_sheet 84 = .ok (.ireturn, 1) := by decide +kernel
theorem dX6_lose_0 : decode cX6_lose 0 = .ok (.iload_n 1, 1) := by decide +kernel
theorem dX6_lose_1 : decode cX6_lose 1 = .ok (.invokestatic 93, 3) := by decide +kernel
theorem dX6_lose_4 : decode cX6_lose 4 = .ok (.ifCond .ne 5, 3) := by decide +kernel
theorem dX6_lose_7 : decode cX6_lose 7 = .ok (.iconst (-1), 1) := by decide +kernel
theorem dX6_lose_8 : decode cX6_lose 8 = .ok (.ireturn, 1) := by decide +kernel
theorem dX6_lose_9 : decode cX6_lose 9 = .ok (.aload_n 0, 1) := by decide +kernel
theorem dX6_lose_10 : decode cX6_lose 10 = .ok (.getfield 9, 3) := by decide +kernel
theorem dX6_lose_13 : decode cX6_lose 13 = .ok (.iload_n 1, 1) := by decide +kernel
theorem dX6_lose_14 : decode cX6_lose 14 = .ok (.iaload, 1) := by decide +kernel
theorem dX6_lose_15 : decode cX6_lose 15 = .ok (.bipush (-9), 2) := by decide +kernel
theorem dX6_lose_17 : decode cX6_lose 17 = .ok (.if_icmp .ne 7, 3) := by decide +kernel
theorem dX6_lose_20 : decode cX6_lose 20 = .ok (.iconst 0, 1) := by decide +kernel
theorem dX6_lose_21 : decode cX6_lose 21 = .ok (.goto 4, 3) := by decide +kernel
theorem dX6_lose_24 : decode cX6_lose 24 = .ok (.iconst 1, 1) := by decide +kernel
theorem dX6_lose_25 : decode cX6_lose 25 = .ok (.istore_n 2, 1) := by decide +kernel
theorem dX6_lose_26 : decode cX6_lose 26 = .ok (.aload_n 0, 1) := by decide +kernel
theorem dX6_lose_27 : decode cX6_lose 27 = .ok (.getfield 9, 3) := by decide +kernel
theorem dX6_lose_30 : decode cX6_lose 30 = .ok (.iload_n 1, 1) := by decide +kernel
theorem dX6_lose_31 : decode cX6_lose 31 = .ok (.bipush (-9), 2) := by decide +kernel
theorem dX6_lose_33 : decode cX6_lose 33 = .ok (.iastore, 1) := by decide +kernel
theorem dX6_lose_34 : decode cX6_lose 34 = .ok (.iload_n 2, 1) := by decide +kernel
theorem dX6_lose_35 : decode cX6_lose 35 = .ok (.ireturn, 1) := by decide +kernel
theorem dX6_put_0 : decode cX6_put 0 = .ok (.aload_n 0, 1) := by decide +kernel
theorem dX6_put_1 : decode cX6_put 1 = .ok (.iconst 0, 1) := by decide +kernel
theorem dX6_put_2 : decode cX6_put 2 = .ok (.putfield 75, 3) := by decide +kernel
theorem dX6_put_5 : decode cX6_put 5 = .ok (.iload_n 1, 1) := by decide +kernel
theorem dX6_put_6 : decode cX6_put 6 = .ok (.invokestatic 93, 3) := by decide +kernel
theorem dX6_put_9 : decode cX6_put 9 = .ok (.ifCond .ne 5, 3) := by decide +kernel
theorem dX6_put_12 : decode cX6_put 12 = .ok (.iconst (-1), 1) := by decide +kernel
theorem dX6_put_13 : decode cX6_put 13 = .ok (.ireturn, 1) := by decide +kernel
theorem dX6_put_14 : decode cX6_put 14 = .ok (.aload_n 0, 1) := by decide +kernel
theorem dX6_put_15 : decode cX6_put 15 = .ok (.getfield 9, 3) := by decide +kernel
theorem dX6_put_18 : decode cX6_put 18 = .ok (.iload_n 1, 1) := by decide +kernel
theorem dX6_put_19 : decode cX6_put 19 = .ok (.iaload, 1) := by decide +kernel
theorem dX6_put_20 : decode cX6_put 20 = .ok (.bipush (-9), 2) := by decide +kernel
theorem dX6_put_22 : decode cX6_put 22 = .ok (.if_icmp .ne 9, 3) := by decide +kernel
theorem dX6_put_25 : decode cX6_put 25 = .ok (.aload_n 0, 1) := by decide +kernel
theorem dX6_put_26 : decode cX6_put 26 = .ok (.iconst 1, 1) := by decide +kernel
theorem dX6_put_27 : decode cX6_put 27 = .ok (.invokevirtual 104, 3) := by decide +kernel
theorem dX6_put_30 : decode cX6_put 30 = .ok (.ireturn, 1) := by decide +kernel
theorem dX6_put_31 : decode cX6_put 31 = .ok (.iload_n 2, 1) := by decide +kernel
theorem dX6_put_32 : decode cX6_put 32 = .ok (.iconst 0, 1) := by decide +kernel
theorem dX6_put_33 : decode cX6_put 33 = .ok (.aload_n 0, 1) := by decide +kernel
theorem dX6_put_34 : decode cX6_put 34 = .ok (.getfield 13, 3) := by decide +kernel
theorem dX6_put_37 : decode cX6_put 37 = .ok (.iload_n 1, 1) := by decide +kernel
theorem dX6_put_38 : decode cX6_put 38 = .ok (.iaload, 1) := by decide +kernel
theorem dX6_put_39 : decode cX6_put 39 = .ok (.iconst 1, 1) := by decide +kernel
theorem dX6_put_40 : decode cX6_put 40 = .ok (.isub, 1) := by decide +kernel
theorem dX6_put_41 : decode cX6_put 41 = .ok (.invokestatic 80, 3) := by decide +kernel
theorem dX6_put_44 : decode cX6_put 44 = .ok (.ifCond .ne 9, 3) := by decide +kernel
theorem dX6_put_47 : decode cX6_put 47 = .ok (.aload_n 0, 1) := by decide +kernel
theorem dX6_put_48 : decode cX6_put 48 = .ok (.iconst 3, 1) := by decide +kernel
theorem dX6_put_49 : decode cX6_put 49 = .ok (.invokevirtual 104, 3) := by decide +kernel
theorem dX6_put_52 : decode cX6_put 52 = .ok (.ireturn, 1) := by decide +kernel
theorem dX6_put_53 : decode cX6_put 53 = .ok (.aload_n 0, 1) := by decide +kernel
theorem dX6_put_54 : decode cX6_put 54 = .ok (.getfield 16, 3) := by decide +kernel
theorem dX6_put_57 : decode cX6_put 57 = .ok (.bipush 60, 2) := by decide +kernel
theorem dX6_put_59 : decode cX6_put 59 = .ok (.iload_n 1, 1) := by decide +kernel
theorem dX6_put_60 : decode cX6_put 60 = .ok (.imul, 1) := by decide +kernel
theorem dX6_put_61 : decode cX6_put 61 = .ok (.iload_n 2, 1) := by decide +kernel
theorem dX6_put_62 : decode cX6_put 62 = .ok (.iadd, 1) := by decide +kernel
theorem dX6_put_63 : decode cX6_put 63 = .ok (.aload_n 0, 1) := by decide +kernel
theorem dX6_put_64 : decode cX6_put 64 = .ok (.getfield 9, 3) := by decide +kernel
theorem dX6_put_67 : decode cX6_put 67 = .ok (.iload_n 1, 1) := by decide +kernel
theorem dX6_put_68 : decode cX6_put 68 = .ok (.iaload, 1) := by decide +kernel
theorem dX6_put_69 : decode cX6_put 69 = .ok (.ifCond .ne 8, 3) := by decide +kernel
theorem dX6_put_72 : decode cX6_put 72 = .ok (.iload_n 3, 1) := by decide +kernel
theorem dX6_put_73 : decode cX6_put 73 = .ok (.i2b, 1) := by decide +kernel
theorem dX6_put_74 : decode cX6_put 74 = .ok (.goto 19, 3) := by decide +kernel
theorem dX6_put_77 : decode cX6_put 77 = .ok (.aload_n 0, 1) := by decide +kernel
theorem dX6_put_78 : decode cX6_put 78 = .ok (.getfield 9, 3) := by decide +kernel
theorem dX6_put_81 : decode cX6_put 81 = .ok (.iload_n 1, 1) := by decide +kernel
theorem dX6_put_82 : decode cX6_put 82 = .ok (.iaload, 1) := by decide +kernel
theorem dX6_put_83 : decode cX6_put 83 = .ok (.iconst 1, 1) := by decide +kernel
theorem dX6_put_84 : decode cX6_put 84 = .ok (.if_icmp .ne 8, 3) := by decide +kernel
theorem dX6_put_87 : decode cX6_put 87 = .ok (.iload_n 3, 1) := by decide +kernel
theorem dX6_put_88 : decode cX6_put 88 = .ok (.i2s, 1) := by decide +kernel
theorem dX6_put_89 : decode cX6_put 89 = .ok (.goto 4, 3) := by decide +kernel
theorem dX6_put_92 : decode cX6_put 92 = .ok (.iload_n 3, 1) := by decide +kernel
theorem dX6_put_93 : decode cX6_put 93 = .ok (.iastore, 1) := by decide +kernel
theorem dX6_put_94 : decode cX6_put 94 = .ok (.iconst 1, 1) := by decide +kernel
theorem dX6_put_95 : decode cX6_put 95 = .ok (.ireturn, 1) := by decide +kernel
theorem dX6_cell_0 : decode cX6_cell 0 = .ok (.aload_n 0, 1) := by decide +kernel
theorem dX6_cell_1 : decode cX6_cell 1 = .ok (.iconst 0, 1) := by decide +kernel
theorem dX6_cell_2 : decode cX6_cell 2 = .ok (.putfield 75, 3) := by decide +kernel
theorem dX6_cell_5 : decode cX6_cell 5 = .ok (.iload_n 1, 1) := by decide +kernel
theorem dX6_cell_6 : decode cX6_cell 6 = .ok (.invokestatic 93, 3) := by decide +kernel
theorem dX6_cell_9 : decode cX6_cell 9 = .ok (.ifCond .eq 10, 3) := by decide +kernel
theorem dX6_cell_12 : decode cX6_cell 12 = .ok (.iload_n 3, 1) := by decide +kernel
theorem dX6_cell_13 : decode cX6_cell 13 = .ok (.invokestatic 97, 3) := by decide +kernel
theorem dX6_cell_16 : decode cX6_cell 16 = .ok (.ifCond .ne 7, 3) := by decide +kernel
theorem dX6_cell_19 : decode cX6_cell 19 = .ok (.ldc2_w 78, 3) := by decide +kernel
theorem dX6_cell_22 : decode cX6_cell 22 = .ok (.lreturn, 1) := by decide +kernel
theorem dX6_cell_23 : decode cX6_cell 23 = .ok (.aload_n 0, 1) := by decide +kernel
theorem dX6_cell_24 : decode cX6_cell 24 = .ok (.getfield 9, 3) := by decide +kernel
theorem dX6_cell_27 : decode cX6_cell 27 = .ok (.iload_n 1, 1) := by decide +kernel
theorem dX6_cell_28 : decode cX6_cell 28 = .ok (.iaload, 1) := by decide +kernel
theorem dX6_cell_29 : decode cX6_cell 29 = .ok (.bipush (-9), 2) := by decide +kernel
theorem dX6_cell_31 : decode cX6_cell 31 = .ok (.if_icmp .eq 19, 3) := by decide +kernel
theorem dX6_cell_34 : decode cX6_cell 34 = .ok (.aload_n 0, 1) := by decide +kernel
theorem dX6_cell_35 : decode cX6_cell 35 = .ok (.getfield 9, 3) := by decide +kernel
theorem dX6_cell_38 : decode cX6_cell 38 = .ok (.iload_n 1, 1) := by decide +kernel
theorem dX6_cell_39 : decode cX6_cell 39 = .ok (.iaload, 1) := by decide +kernel
theorem dX6_cell_40 : decode cX6_cell 40 = .ok (.iload_n 3, 1) := by decide +kernel
theorem dX6_cell_41 : decode cX6_cell 41 = .ok (.if_icmp .eq 9, 3) := by decide +kernel
theorem dX6_cell_44 : decode cX6_cell 44 = .ok (.aload_n 0, 1) := by decide +kernel
theorem dX6_cell_45 : decode cX6_cell 45 = .ok (.iconst 2, 1) := by decide +kernel
theorem dX6_cell_46 : decode cX6_cell 46 = .ok (.invokevirtual 256, 3) := by decide +kernel
theorem dX6_cell_49 : decode cX6_cell 49 = .ok (.lreturn, 1) := by decide +kernel
theorem dX6_cell_50 : decode cX6_cell 50 = .ok (.aload_n 0, 1) := by decide +kernel
theorem dX6_cell_51 : decode cX6_cell 51 = .ok (.getfield 9, 3) := by decide +kernel
theorem dX6_cell_54 : decode cX6_cell 54 = .ok (.iload_n 1, 1) := by decide +kernel
theorem dX6_cell_55 : decode cX6_cell 55 = .ok (.iaload, 1) := by decide +kernel
theorem dX6_cell_56 : decode cX6_cell 56 = .ok (.bipush (-9), 2) := by decide +kernel
theorem dX6_cell_58 : decode cX6_cell 58 = .ok (.if_icmp .ne 9, 3) := by decide +kernel
theorem dX6_cell_61 : decode cX6_cell 61 = .ok (.aload_n 0, 1) := by decide +kernel
theorem dX6_cell_62 : decode cX6_cell 62 = .ok (.iconst 1, 1) := by decide +kernel
theorem dX6_cell_63 : decode cX6_cell 63 = .ok (.invokevirtual 256, 3) := by decide +kernel
theorem dX6_cell_66 : decode cX6_cell 66 = .ok (.lreturn, 1) := by decide +kernel
theorem dX6_cell_67 : decode cX6_cell 67 = .ok (.iload_n 2, 1) := by decide +kernel
theorem dX6_cell_68 : decode cX6_cell 68 = .ok (.iconst 0, 1) := by decide +kernel
theorem dX6_cell_69 : decode cX6_cell 69 = .ok (.aload_n 0, 1) := by decide +kernel
theorem dX6_cell_70 : decode cX6_cell 70 = .ok (.getfield 13, 3) := by decide +kernel
theorem dX6_cell_73 : decode cX6_cell 73 = .ok (.iload_n 1, 1) := by decide +kernel
theorem dX6_cell_74 : decode cX6_cell 74 = .ok (.iaload, 1) := by decide +kernel
theorem dX6_cell_75 : decode cX6_cell 75 = .ok (.iconst 1, 1) := by decide +kernel
theorem dX6_cell_76 : decode cX6_cell 76 = .ok (.isub, 1) := by decide +kernel
theorem dX6_cell_77 : decode cX6_cell 77 = .ok (.invokestatic 80, 3) := by decide +kernel
theorem dX6_cell_80 : decode cX6_cell 80 = .ok (.ifCond .ne 9, 3) := by decide +kernel
theorem dX6_cell_83 : decode cX6_cell 83 = .ok (.aload_n 0, 1) := by decide +kernel
theorem dX6_cell_84 : decode cX6_cell 84 = .ok (.iconst 3, 1) := by decide +kernel
theorem dX6_cell_85 : decode cX6_cell 85 = .ok (.invokevirtual 256, 3) := by decide +kernel
theorem dX6_cell_88 : decode cX6_cell 88 = .ok (.lreturn, 1) := by decide +kernel
theorem dX6_cell_89 : decode cX6_cell 89 = .ok (.aload_n 0, 1) := by decide +kernel
theorem dX6_cell_90 : decode cX6_cell 90 = .ok (.getfield 16, 3) := by decide +kernel
theorem dX6_cell_93 : decode cX6_cell 93 = .ok (.bipush 60, 2) := by decide +kernel
theorem dX6_cell_95 : decode cX6_cell 95 = .ok (.iload_n 1, 1) := by decide +kernel
theorem dX6_cell_96 : decode cX6_cell 96 = .ok (.imul, 1) := by decide +kernel
theorem dX6_cell_97 : decode cX6_cell 97 = .ok (.iload_n 2, 1) := by decide +kernel
theorem dX6_cell_98 : decode cX6_cell 98 = .ok (.iadd, 1) := by decide +kernel
theorem dX6_cell_99 : decode cX6_cell 99 = .ok (.iaload, 1) := by decide +kernel
theorem dX6_cell_100 : decode cX6_cell 100 = .ok (.i2l, 1) := by decide +kernel
theorem dX6_cell_101 : decode cX6_cell 101 = .ok (.lreturn, 1) := by decide +kernel
theorem dX6_copy_0 : decode cX6_copy 0 = .ok (.aload_n 0, 1) := by decide +kernel
theorem dX6_copy_1 : decode cX6_copy 1 = .ok (.iconst 0, 1) := by decide +kernel
theorem dX6_copy_2 : decode cX6_copy 2 = .ok (.putfield 75, 3) := by decide +kernel
theorem dX6_copy_5 : decode cX6_copy 5 = .ok (.iload_n 1, 1) := by decide +kernel
theorem dX6_copy_6 : decode cX6_copy 6 = .ok (.invokestatic 93, 3) := by decide +kernel
theorem dX6_copy_9 : decode cX6_copy 9 = .ok (.ifCond .eq 10, 3) := by decide +kernel
theorem dX6_copy_12 : decode cX6_copy 12 = .ok (.iload_n 3, 1) := by decide +kernel
theorem dX6_copy_13 : decode cX6_copy 13 = .ok (.invokestatic 93, 3) := by decide +kernel
theorem dX6_copy_16 : decode cX6_copy 16 = .ok (.ifCond .ne 5, 3) := by decide +kernel
theorem dX6_copy_19 : decode cX6_copy 19 = .ok (.iconst (-1), 1) := by decide +kernel
theorem dX6_copy_20 : decode cX6_copy 20 = .ok (.ireturn, 1) := by decide +kernel
theorem dX6_copy_21 : decode cX6_copy 21 = .ok (.aload_n 0, 1) := by decide +kernel
theorem dX6_copy_22 : decode cX6_copy 22 = .ok (.getfield 9, 3) := by decide +kernel
theorem dX6_copy_25 : decode cX6_copy 25 = .ok (.iload_n 1, 1) := by decide +kernel
theorem dX6_copy_26 : decode cX6_copy 26 = .ok (.iaload, 1) := by decide +kernel
theorem dX6_copy_27 : decode cX6_copy 27 = .ok (.bipush (-9), 2) := by decide +kernel
theorem dX6_copy_29 : decode cX6_copy 29 = .ok (.if_icmp .eq 14, 3) := by decide +kernel
theorem dX6_copy_32 : decode cX6_copy 32 = .ok (.aload_n 0, 1) := by decide +kernel
theorem dX6_copy_33 : decode cX6_copy 33 = .ok (.getfield 9, 3) := by decide +kernel
theorem dX6_copy_36 : decode cX6_copy 36 = .ok (.iload_n 3, 1) := by decide +kernel
theorem dX6_copy_37 : decode cX6_copy 37 = .ok (.iaload, 1) := by decide +kernel
theorem dX6_copy_38 : decode cX6_copy 38 = .ok (.bipush (-9), 2) := by decide +kernel
theorem dX6_copy_40 : decode cX6_copy 40 = .ok (.if_icmp .ne 9, 3) := by decide +kernel
theorem dX6_copy_43 : decode cX6_copy 43 = .ok (.aload_n 0, 1) := by decide +kernel
theorem dX6_copy_44 : decode cX6_copy 44 = .ok (.iconst 1, 1) := by decide +kernel
theorem dX6_copy_45 : decode cX6_copy 45 = .ok (.invokevirtual 104, 3) := by decide +kernel
theorem dX6_copy_48 : decode cX6_copy 48 = .ok (.ireturn, 1) := by decide +kernel
theorem dX6_copy_49 : decode cX6_copy 49 = .ok (.aload_n 0, 1) := by decide +kernel
theorem dX6_copy_50 : decode cX6_copy 50 = .ok (.getfield 9, 3) := by decide +kernel
theorem dX6_copy_53 : decode cX6_copy 53 = .ok (.iload_n 1, 1) := by decide +kernel
theorem dX6_copy_54 : decode cX6_copy 54 = .ok (.iaload, 1) := by decide +kernel
theorem dX6_copy_55 : decode cX6_copy 55 = .ok (.aload_n 0, 1) := by decide +kernel
theorem dX6_copy_56 : decode cX6_copy 56 = .ok (.getfield 9, 3) := by decide +kernel
theorem dX6_copy_59 : decode cX6_copy 59 = .ok (.iload_n 3, 1) := by decide +kernel
theorem dX6_copy_60 : decode cX6_copy 60 = .ok (.iaload, 1) := by decide +kernel
theorem dX6_copy_61 : decode cX6_copy 61 = .ok (.if_icmp .eq 9, 3) := by decide +kernel
theorem dX6_copy_64 : decode cX6_copy 64 = .ok (.aload_n 0, 1) := by decide +kernel
theorem dX6_copy_65 : decode cX6_copy 65 = .ok (.iconst 2, 1) := by decide +kernel
theorem dX6_copy_66 : decode cX6_copy 66 = .ok (.invokevirtual 104, 3) := by decide +kernel
theorem dX6_copy_69 : decode cX6_copy 69 = .ok (.ireturn, 1) := by decide +kernel
theorem dX6_copy_70 : decode cX6_copy 70 = .ok (.iload_n 2, 1) := by decide +kernel
theorem dX6_copy_71 : decode cX6_copy 71 = .ok (.ifCond .lt 38, 3) := by decide +kernel
theorem dX6_copy_74 : decode cX6_copy 74 = .ok (.iload 4, 2) := by decide +kernel
theorem dX6_copy_76 : decode cX6_copy 76 = .ok (.ifCond .lt 33, 3) := by decide +kernel
theorem dX6_copy_79 : decode cX6_copy 79 = .ok (.iload 5, 2) := by decide +kernel
theorem dX6_copy_81 : decode cX6_copy 81 = .ok (.ifCond .lt 28, 3) := by decide +kernel
theorem dX6_copy_84 : decode cX6_copy 84 = .ok (.iload_n 2, 1) := by decide +kernel
theorem dX6_copy_85 : decode cX6_copy 85 = .ok (.aload_n 0, 1) := by decide +kernel
theorem dX6_copy_86 : decode cX6_copy 86 = .ok (.getfield 13, 3) := by decide +kernel
theorem dX6_copy_89 : decode cX6_copy 89 = .ok (.iload_n 1, 1) := by decide +kernel
theorem dX6_copy_90 : decode cX6_copy 90 = .ok (.iaload, 1) := by decide +kernel
theorem dX6_copy_91 : decode cX6_copy 91 = .ok (.if_icmp .gt 18, 3) := by decide +kernel
theorem dX6_copy_94 : decode cX6_copy 94 = .ok (.iload 4, 2) := by decide +kernel
theorem dX6_copy_96 : decode cX6_copy 96 = .ok (.aload_n 0, 1) := by decide +kernel
theorem dX6_copy_97 : decode cX6_copy 97 = .ok (.getfield 13, 3) := by decide +kernel
theorem dX6_copy_100 : decode cX6_copy 100 = .ok (.iload_n 3, 1) := by decide +kernel
theorem dX6_copy_101 : decode cX6_copy 101 = .ok (.iaload, 1) := by decide +kernel
theorem dX6_copy_102 : decode cX6_copy 102 = .ok (.if_icmp .gt 7, 3) := by decide +kernel
theorem dX6_copy_105 : decode cX6_copy 105 = .ok (.iconst 1, 1) := by decide +kernel
theorem dX6_copy_106 : decode cX6_copy 106 = .ok (.goto 4, 3) := by decide +kernel
theorem dX6_copy_109 : decode cX6_copy 109 = .ok (.iconst 0, 1) := by decide +kernel
theorem dX6_copy_110 : decode cX6_copy 110 = .ok (.istore 6, 2) := by decide +kernel
theorem dX6_copy_112 : decode cX6_copy 112 = .ok (.iload 6, 2) := by decide +kernel
theorem dX6_copy_114 : decode cX6_copy 114 = .ok (.ifCond .eq 30, 3) := by decide +kernel
theorem dX6_copy_117 : decode cX6_copy 117 = .ok (.iload 5, 2) := by decide +kernel
theorem dX6_copy_119 : decode cX6_copy 119 = .ok (.aload_n 0, 1) := by decide +kernel
theorem dX6_copy_120 : decode cX6_copy 120 = .ok (.getfield 13, 3) := by decide +kernel
theorem dX6_copy_123 : decode cX6_copy 123 = .ok (.iload_n 1, 1) := by decide +kernel
theorem dX6_copy_124 : decode cX6_copy 124 = .ok (.iaload, 1) := by decide +kernel
theorem dX6_copy_125 : decode cX6_copy 125 = .ok (.iload_n 2, 1) := by decide +kernel
theorem dX6_copy_126 : decode cX6_copy 126 = .ok (.isub, 1) := by decide +kernel
theorem dX6_copy_127 : decode cX6_copy 127 = .ok (.if_icmp .gt 17, 3) := by decide +kernel
theorem dX6_copy_130 : decode cX6_copy 130 = .ok (.iload 5, 2) := by decide +kernel
theorem dX6_copy_132 : decode cX6_copy 132 = .ok (.aload_n 0, 1) := by decide +kernel
theorem dX6_copy_133 : decode cX6_copy 133 = .ok (.getfield 13, 3) := by decide +kernel
theorem dX6_copy_136 : decode cX6_copy 136 = .ok (.iload_n 3, 1) := by decide +kernel
theorem dX6_copy_137 : decode cX6_copy 137 = .ok (.iaload, 1) := by decide +kernel
theorem dX6_copy_138 : decode cX6_copy 138 = .ok (.iload 4, 2) := by decide +kernel
theorem dX6_copy_140 : decode cX6_copy 140 = .ok (.isub, 1) := by decide +kernel
theorem dX6_copy_141 : decode cX6_copy 141 = .ok (.if_icmp .le 9, 3) := by decide +kernel
theorem dX6_copy_144 : decode cX6_copy 144 = .ok (.aload_n 0, 1) := by decide +kernel
theorem dX6_copy_145 : decode cX6_copy 145 = .ok (.iconst 3, 1) := by decide +kernel
theorem dX6_copy_146 : decode cX6_copy 146 = .ok (.invokevirtual 104, 3) := by decide +kernel
theorem dX6_copy_149 : decode cX6_copy 149 = .ok (.ireturn, 1) := by decide +kernel
theorem dX6_copy_150 : decode cX6_copy 150 = .ok (.iload_n 2, 1) := by decide +kernel
theorem dX6_copy_151 : decode cX6_copy 151 = .ok (.iload 4, 2) := by decide +kernel
theorem dX6_copy_153 : decode cX6_copy 153 = .ok (.if_icmp .ge 7, 3) := by decide +kernel
theorem dX6_copy_156 : decode cX6_copy 156 = .ok (.iconst 1, 1) := by decide +kernel
theorem dX6_copy_157 : decode cX6_copy 157 = .ok (.goto 4, 3) := by decide +kernel
theorem dX6_copy_160 : decode cX6_copy 160 = .ok (.iconst 0, 1) := by decide +kernel
theorem dX6_copy_161 : decode cX6_copy 161 = .ok (.istore 7, 2) := by decide +kernel
theorem dX6_copy_163 : decode cX6_copy 163 = .ok (.iconst 0, 1) := by decide +kernel
theorem dX6_copy_164 : decode cX6_copy 164 = .ok (.istore 8, 2) := by decide +kernel
theorem dX6_copy_166 : decode cX6_copy 166 = .ok (.iload 8, 2) := by decide +kernel
theorem dX6_copy_168 : decode cX6_copy 168 = .ok (.iload 5, 2) := by decide +kernel
theorem dX6_copy_170 : decode cX6_copy 170 = .ok (.if_icmp .ge 57, 3) := by decide +kernel
theorem dX6_copy_173 : decode cX6_copy 173 = .ok (.iload 7, 2) := by decide +kernel
theorem dX6_copy_175 : decode cX6_copy 175 = .ok (.ifCond .eq 13, 3) := by decide +kernel
theorem dX6_copy_178 : decode cX6_copy 178 = .ok (.iload 5, 2) := by decide +kernel
theorem dX6_copy_180 : decode cX6_copy 180 = .ok (.iconst 1, 1) := by decide +kernel
theorem dX6_copy_181 : decode cX6_copy 181 = .ok (.isub, 1) := by decide +kernel
theorem dX6_copy_182 : decode cX6_copy 182 = .ok (.iload 8, 2) := by decide +kernel
theorem dX6_copy_184 : decode cX6_copy 184 = .ok (.isub, 1) := by decide +kernel
theorem dX6_copy_185 : decode cX6_copy 185 = .ok (.goto 5, 3) := by decide +kernel
theorem dX6_copy_188 : decode cX6_copy 188 = .ok (.iload 8, 2) := by decide +kernel
theorem dX6_copy_190 : decode cX6_copy 190 = .ok (.istore 9, 2) := by decide +kernel
theorem dX6_copy_192 : decode cX6_copy 192 = .ok (.aload_n 0, 1) := by decide +kernel
theorem dX6_copy_193 : decode cX6_copy 193 = .ok (.getfield 16, 3) := by decide +kernel
theorem dX6_copy_196 : decode cX6_copy 196 = .ok (.bipush 60, 2) := by decide +kernel
theorem dX6_copy_198 : decode cX6_copy 198 = .ok (.iload_n 3, 1) := by decide +kernel
theorem dX6_copy_199 : decode cX6_copy 199 = .ok (.imul, 1) := by decide +kernel
theorem dX6_copy_200 : decode cX6_copy 200 = .ok (.iload 4, 2) := by decide +kernel
theorem dX6_copy_202 : decode cX6_copy 202 = .ok (.iadd, 1) := by decide +kernel
theorem dX6_copy_203 : decode cX6_copy 203 = .ok (.iload 9, 2) := by decide +kernel
theorem dX6_copy_205 : decode cX6_copy 205 = .ok (.iadd, 1) := by decide +kernel
theorem dX6_copy_206 : decode cX6_copy 206 = .ok (.aload_n 0, 1) := by decide +kernel
theorem dX6_copy_207 : decode cX6_copy 207 = .ok (.getfield 16, 3) := by decide +kernel
theorem dX6_copy_210 : decode cX6_copy 210 = .ok (.bipush 60, 2) := by decide +kernel
theorem dX6_copy_212 : decode cX6_copy 212 = .ok (.iload_n 1, 1) := by decide +kernel
theorem dX6_copy_213 : decode cX6_copy 213 = .ok (.imul, 1) := by decide +kernel
theorem dX6_copy_214 : decode cX6_copy 214 = .ok (.iload_n 2, 1) := by decide +kernel
theorem dX6_copy_215 : decode cX6_copy 215 = .ok (.iadd, 1) := by decide +kernel
theorem dX6_copy_216 : decode cX6_copy 216 = .ok (.iload 9, 2) := by decide +kernel
theorem dX6_copy_218 : decode cX6_copy 218 = .ok (.iadd, 1) := by decide +kernel
theorem dX6_copy_219 : decode cX6_copy 219 = .ok (.iaload, 1) := by decide +kernel
theorem dX6_copy_220 : decode cX6_copy 220 = .ok (.iastore, 1) := by decide +kernel
theorem dX6_copy_221 : decode cX6_copy 221 = .ok (.iinc 8 1, 3) := by decide +kernel
theorem dX6_copy_224 : decode cX6_copy 224 = .ok (.goto (-58), 3) := by decide +kernel
theorem dX6_copy_227 : decode cX6_copy 227 = .ok (.iload 5, 2) := by decide +kernel
theorem dX6_copy_229 : decode cX6_copy 229 = .ok (.ireturn, 1) := by decide +kernel
theorem dX6_begins_0 : decode cX6_begins 0 = .ok (.aload_n 0, 1) := by decide +kernel
theorem dX6_begins_1 : decode cX6_begins 1 = .ok (.bipush 31, 2) := by decide +kernel
theorem dX6_begins_3 : decode cX6_begins 3 = .ok (.aload_n 0, 1) := by decide +kernel
theorem dX6_begins_4 : decode cX6_begins 4 = .ok (.getfield 260, 3) := by decide +kernel
theorem dX6_begins_7 : decode cX6_begins 7 = .ok (.imul, 1) := by decide +kernel
theorem dX6_begins_8 : decode cX6_begins 8 = .ok (.iload_n 1, 1) := by decide +kernel
theorem dX6_begins_9 : decode cX6_begins 9 = .ok (.iadd, 1) := by decide +kernel
theorem dX6_begins_10 : decode cX6_begins 10 = .ok (.putfield 260, 3) := by decide +kernel
theorem dX6_begins_13 : decode cX6_begins 13 = .ok (.return_, 1) := by decide +kernel
theorem dX6_tell_0 : decode cX6_tell 0 = .ok (.aload_n 0, 1) := by decide +kernel
theorem dX6_tell_1 : decode cX6_tell 1 = .ok (.iload_n 1, 1) := by decide +kernel
theorem dX6_tell_2 : decode cX6_tell 2 = .ok (.invokevirtual 143, 3) := by decide +kernel
theorem dX6_tell_5 : decode cX6_tell 5 = .ok (.ifCond .ne 5, 3) := by decide +kernel
theorem dX6_tell_8 : decode cX6_tell 8 = .ok (.iconst (-1), 1) := by decide +kernel
theorem dX6_tell_9 : decode cX6_tell 9 = .ok (.ireturn, 1) := by decide +kernel
theorem dX6_tell_10 : decode cX6_tell 10 = .ok (.aload_n 0, 1) := by decide +kernel
theorem dX6_tell_11 : decode cX6_tell 11 = .ok (.getfield 36, 3) := by decide +kernel
theorem dX6_tell_14 : decode cX6_tell 14 = .ok (.iload_n 1, 1) := by decide +kernel
theorem dX6_tell_15 : decode cX6_tell 15 = .ok (.iaload, 1) := by decide +kernel
theorem dX6_tell_16 : decode cX6_tell 16 = .ok (.istore_n 2, 1) := by decide +kernel
theorem dX6_tell_17 : decode cX6_tell 17 = .ok (.aload_n 0, 1) := by decide +kernel
theorem dX6_tell_18 : decode cX6_tell 18 = .ok (.getfield 33, 3) := by decide +kernel
theorem dX6_tell_21 : decode cX6_tell 21 = .ok (.iload_n 1, 1) := by decide +kernel
theorem dX6_tell_22 : decode cX6_tell 22 = .ok (.iaload, 1) := by decide +kernel
theorem dX6_tell_23 : decode cX6_tell 23 = .ok (.lookupswitch 67 #[(1, 25), (2, 40)], 25) := by decide +kernel
theorem dX6_tell_48 : decode cX6_tell 48 = .ok (.aload_n 0, 1) := by decide +kernel
theorem dX6_tell_49 : decode cX6_tell 49 = .ok (.iconst 2, 1) := by decide +kernel
theorem dX6_tell_50 : decode cX6_tell 50 = .ok (.invokevirtual 263, 3) := by decide +kernel
theorem dX6_tell_53 : decode cX6_tell 53 = .ok (.aload_n 0, 1) := by decide +kernel
theorem dX6_tell_54 : decode cX6_tell 54 = .ok (.iconst 1, 1) := by decide +kernel
theorem dX6_tell_55 : decode cX6_tell 55 = .ok (.invokevirtual 263, 3) := by decide +kernel
theorem dX6_tell_58 : decode cX6_tell 58 = .ok (.iload_n 2, 1) := by decide +kernel
theorem dX6_tell_59 : decode cX6_tell 59 = .ok (.bipush 100, 2) := by decide +kernel
theorem dX6_tell_61 : decode cX6_tell 61 = .ok (.iadd, 1) := by decide +kernel
theorem dX6_tell_62 : decode cX6_tell 62 = .ok (.ireturn, 1) := by decide +kernel
theorem dX6_tell_63 : decode cX6_tell 63 = .ok (.aload_n 0, 1) := by decide +kernel
theorem dX6_tell_64 : decode cX6_tell 64 = .ok (.iconst 3, 1) := by decide +kernel
theorem dX6_tell_65 : decode cX6_tell 65 = .ok (.invokevirtual 263, 3) := by decide +kernel
theorem dX6_tell_68 : decode cX6_tell 68 = .ok (.aload_n 0, 1) := by decide +kernel
theorem dX6_tell_69 : decode cX6_tell 69 = .ok (.iconst 2, 1) := by decide +kernel
theorem dX6_tell_70 : decode cX6_tell 70 = .ok (.invokevirtual 263, 3) := by decide +kernel
theorem dX6_tell_73 : decode cX6_tell 73 = .ok (.aload_n 0, 1) := by decide +kernel
theorem dX6_tell_74 : decode cX6_tell 74 = .ok (.iconst 1, 1) := by decide +kernel
theorem dX6_tell_75 : decode cX6_tell 75 = .ok (.invokevirtual 263, 3) := by decide +kernel
theorem dX6_tell_78 : decode cX6_tell 78 = .ok (.aload_n 0, 1) := by decide +kernel
theorem dX6_tell_79 : decode cX6_tell 79 = .ok (.iconst 1, 1) := by decide +kernel
theorem dX6_tell_80 : decode cX6_tell 80 = .ok (.invokevirtual 263, 3) := by decide +kernel
theorem dX6_tell_83 : decode cX6_tell 83 = .ok (.iconst 2, 1) := by decide +kernel
theorem dX6_tell_84 : decode cX6_tell 84 = .ok (.iload_n 2, 1) := by decide +kernel
theorem dX6_tell_85 : decode cX6_tell 85 = .ok (.imul, 1) := by decide +kernel
theorem dX6_tell_86 : decode cX6_tell 86 = .ok (.bipush 100, 2) := by decide +kernel
theorem dX6_tell_88 : decode cX6_tell 88 = .ok (.iadd, 1) := by decide +kernel
theorem dX6_tell_89 : decode cX6_tell 89 = .ok (.ireturn, 1) := by decide +kernel
theorem dX6_tell_90 : decode cX6_tell 90 = .ok (.aload_n 0, 1) := by decide +kernel
theorem dX6_tell_91 : decode cX6_tell 91 = .ok (.iconst 1, 1) := by decide +kernel
theorem dX6_tell_92 : decode cX6_tell 92 = .ok (.invokevirtual 263, 3) := by decide +kernel
theorem dX6_tell_95 : decode cX6_tell 95 = .ok (.iload_n 2, 1) := by decide +kernel
theorem dX6_tell_96 : decode cX6_tell 96 = .ok (.ireturn, 1) := by decide +kernel
theorem dX6_hail_0 : decode cX6_hail 0 = .ok (.aload_n 0, 1) := by decide +kernel
theorem dX6_hail_1 : decode cX6_hail 1 = .ok (.iload_n 1, 1) := by decide +kernel
theorem dX6_hail_2 : decode cX6_hail 2 = .ok (.invokevirtual 143, 3) := by decide +kernel
theorem dX6_hail_5 : decode cX6_hail 5 = .ok (.ifCond .ne 5, 3) := by decide +kernel
theorem dX6_hail_8 : decode cX6_hail 8 = .ok (.iconst (-1), 1) := by decide +kernel
theorem dX6_hail_9 : decode cX6_hail 9 = .ok (.ireturn, 1) := by decide +kernel
theorem dX6_hail_10 : decode cX6_hail 10 = .ok (.aload_n 0, 1) := by decide +kernel
theorem dX6_hail_11 : decode cX6_hail 11 = .ok (.aload_n 0, 1) := by decide +kernel
theorem dX6_hail_12 : decode cX6_hail 12 = .ok (.getfield 33, 3) := by decide +kernel
theorem dX6_hail_15 : decode cX6_hail 15 = .ok (.iload_n 1, 1) := by decide +kernel
theorem dX6_hail_16 : decode cX6_hail 16 = .ok (.iaload, 1) := by decide +kernel
theorem dX6_hail_17 : decode cX6_hail 17 = .ok (.iconst 2, 1) := by decide +kernel
theorem dX6_hail_18 : decode cX6_hail 18 = .ok (.if_icmp .ne 7, 3) := by decide +kernel
theorem dX6_hail_21 : decode cX6_hail 21 = .ok (.iconst 5, 1) := by decide +kernel
theorem dX6_hail_22 : decode cX6_hail 22 = .ok (.goto 4, 3) := by decide +kernel
theorem dX6_hail_25 : decode cX6_hail 25 = .ok (.iconst 4, 1) := by decide +kernel
theorem dX6_hail_26 : decode cX6_hail 26 = .ok (.invokevirtual 263, 3) := by decide +kernel
theorem dX6_hail_29 : decode cX6_hail 29 = .ok (.aload_n 0, 1) := by decide +kernel
theorem dX6_hail_30 : decode cX6_hail 30 = .ok (.getfield 33, 3) := by decide +kernel
theorem dX6_hail_33 : decode cX6_hail 33 = .ok (.iload_n 1, 1) := by decide +kernel
theorem dX6_hail_34 : decode cX6_hail 34 = .ok (.iaload, 1) := by decide +kernel
theorem dX6_hail_35 : decode cX6_hail 35 = .ok (.iconst 2, 1) := by decide +kernel
theorem dX6_hail_36 : decode cX6_hail 36 = .ok (.if_icmp .ne 8, 3) := by decide +kernel
theorem dX6_hail_39 : decode cX6_hail 39 = .ok (.bipush 60, 2) := by decide +kernel
theorem dX6_hail_41 : decode cX6_hail 41 = .ok (.goto 4, 3) := by decide +kernel
theorem dX6_hail_44 : decode cX6_hail 44 = .ok (.iload_n 1, 1) := by decide +kernel
theorem dX6_hail_45 : decode cX6_hail 45 = .ok (.ireturn, 1) := by decide +kernel
theorem dX6_as_0 : decode cX6_as 0 = .ok (.aload_n 0, 1) := by decide +kernel
theorem dX6_as_1 : decode cX6_as 1 = .ok (.iconst 0, 1) := by decide +kernel
theorem dX6_as_2 : decode cX6_as 2 = .ok (.putfield 75, 3) := by decide +kernel
theorem dX6_as_5 : decode cX6_as 5 = .ok (.aload_n 0, 1) := by decide +kernel
theorem dX6_as_6 : decode cX6_as 6 = .ok (.iload_n 1, 1) := by decide +kernel
theorem dX6_as_7 : decode cX6_as 7 = .ok (.invokevirtual 143, 3) := by decide +kernel
theorem dX6_as_10 : decode cX6_as 10 = .ok (.ifCond .ne 5, 3) := by decide +kernel
theorem dX6_as_13 : decode cX6_as 13 = .ok (.iconst (-1), 1) := by decide +kernel
theorem dX6_as_14 : decode cX6_as 14 = .ok (.ireturn, 1) := by decide +kernel
theorem dX6_as_15 : decode cX6_as 15 = .ok (.iload_n 2, 1) := by decide +kernel
theorem dX6_as_16 : decode cX6_as 16 = .ok (.iconst 0, 1) := by decide +kernel
theorem dX6_as_17 : decode cX6_as 17 = .ok (.iconst 2, 1) := by decide +kernel
theorem dX6_as_18 : decode cX6_as 18 = .ok (.invokestatic 80, 3) := by decide +kernel
theorem dX6_as_21 : decode cX6_as 21 = .ok (.ifCond .ne 6, 3) := by decide +kernel
theorem dX6_as_24 : decode cX6_as 24 = .ok (.bipush (-2), 2) := by decide +kernel
theorem dX6_as_26 : decode cX6_as 26 = .ok (.ireturn, 1) := by decide +kernel
theorem dX6_as_27 : decode cX6_as 27 = .ok (.aload_n 0, 1) := by decide +kernel
theorem dX6_as_28 : decode cX6_as 28 = .ok (.getfield 33, 3) := by decide +kernel
theorem dX6_as_31 : decode cX6_as 31 = .ok (.iload_n 1, 1) := by decide +kernel
theorem dX6_as_32 : decode cX6_as 32 = .ok (.iaload, 1) := by decide +kernel
theorem dX6_as_33 : decode cX6_as 33 = .ok (.iload_n 2, 1) := by decide +kernel
theorem dX6_as_34 : decode cX6_as 34 = .ok (.if_icmp .lt 7, 3) := by decide +kernel
theorem dX6_as_37 : decode cX6_as 37 = .ok (.iconst 1, 1) := by decide +kernel
theorem dX6_as_38 : decode cX6_as 38 = .ok (.goto 8, 3) := by decide +kernel
theorem dX6_as_41 : decode cX6_as 41 = .ok (.aload_n 0, 1) := by decide +kernel
theorem dX6_as_42 : decode cX6_as 42 = .ok (.iconst 2, 1) := by decide +kernel
theorem dX6_as_43 : decode cX6_as 43 = .ok (.invokevirtual 104, 3) := by decide +kernel
theorem dX6_as_46 : decode cX6_as 46 = .ok (.ireturn, 1) := by decide +kernel
theorem dX6_trace_0 : decode cX6_trace 0 = .ok (.aload_n 0, 1) := by decide +kernel
theorem dX6_trace_1 : decode cX6_trace 1 = .ok (.getfield 260, 3) := by decide +kernel
theorem dX6_trace_4 : decode cX6_trace 4 = .ok (.ireturn, 1) := by decide +kernel
theorem dX6_fault_0 : decode cX6_fault 0 = .ok (.aload_n 0, 1) := by decide +kernel
theorem dX6_fault_1 : decode cX6_fault 1 = .ok (.getfield 75, 3) := by decide +kernel
theorem dX6_fault_4 : decode cX6_fault 4 = .ok (.ireturn, 1) := by decide +kernel
theorem dX6_many_0 : decode cX6_many 0 = .ok (.iload_n 1, 1) := by decide +kernel
theorem dX6_many_1 : decode cX6_many 1 = .ok (.ifCond .ne 10, 3) := by decide +kernel
theorem dX6_many_4 : decode cX6_many 4 = .ok (.aload_n 0, 1) := by decide +kernel
theorem dX6_many_5 : decode cX6_many 5 = .ok (.getfield 84, 3) := by decide +kernel
theorem dX6_many_8 : decode cX6_many 8 = .ok (.goto 41, 3) := by decide +kernel
theorem dX6_many_11 : decode cX6_many 11 = .ok (.iload_n 1, 1) := by decide +kernel
theorem dX6_many_12 : decode cX6_many 12 = .ok (.iconst 1, 1) := by decide +kernel
theorem dX6_many_13 : decode cX6_many 13 = .ok (.if_icmp .ne 10, 3) := by decide +kernel
theorem dX6_many_16 : decode cX6_many 16 = .ok (.aload_n 0, 1) := by decide +kernel
theorem dX6_many_17 : decode cX6_many 17 = .ok (.getfield 87, 3) := by decide +kernel
theorem dX6_many_20 : decode cX6_many 20 = .ok (.goto 29, 3) := by decide +kernel
theorem dX6_many_23 : decode cX6_many 23 = .ok (.iload_n 1, 1) := by decide +kernel
theorem dX6_many_24 : decode cX6_many 24 = .ok (.iconst 2, 1) := by decide +kernel
theorem dX6_many_25 : decode cX6_many 25 = .ok (.if_icmp .ne 10, 3) := by decide +kernel
theorem dX6_many_28 : decode cX6_many 28 = .ok (.aload_n 0, 1) := by decide +kernel
theorem dX6_many_29 : decode cX6_many 29 = .ok (.getfield 114, 3) := by decide +kernel
theorem dX6_many_32 : decode cX6_many 32 = .ok (.goto 17, 3) := by decide +kernel
theorem dX6_many_35 : decode cX6_many 35 = .ok (.iload_n 1, 1) := by decide +kernel
theorem dX6_many_36 : decode cX6_many 36 = .ok (.iconst 3, 1) := by decide +kernel
theorem dX6_many_37 : decode cX6_many 37 = .ok (.if_icmp .ne 10, 3) := by decide +kernel
theorem dX6_many_40 : decode cX6_many 40 = .ok (.aload_n 0, 1) := by decide +kernel
theorem dX6_many_41 : decode cX6_many 41 = .ok (.getfield 123, 3) := by decide +kernel
theorem dX6_many_44 : decode cX6_many 44 = .ok (.goto 5, 3) := by decide +kernel
theorem dX6_many_47 : decode cX6_many 47 = .ok (.bipush (-2), 2) := by decide +kernel
theorem dX6_many_49 : decode cX6_many 49 = .ok (.ireturn, 1) := by decide +kernel
