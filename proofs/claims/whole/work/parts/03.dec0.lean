theorem dX0_init_0 : decode cX0_init 0 = .ok (.aload_n 0, 1) := by decide +kernel
theorem dX0_init_1 : decode cX0_init 1 = .ok (.invokespecial 3, 3) := by decide +kernel
theorem dX0_init_4 : decode cX0_init 4 = .ok (.aload_n 0, 1) := by decide +kernel
theorem dX0_init_5 : decode cX0_init 5 = .ok (.bipush (-9), 2) := by decide +kernel
theorem dX0_init_7 : decode cX0_init 7 = .ok (.putfield 9, 3) := by decide +kernel
theorem dX0_init_10 : decode cX0_init 10 = .ok (.aload_n 0, 1) := by decide +kernel
theorem dX0_init_11 : decode cX0_init 11 = .ok (.iconst 3, 1) := by decide +kernel
theorem dX0_init_12 : decode cX0_init 12 = .ok (.newarray .int, 2) := by decide +kernel
theorem dX0_init_14 : decode cX0_init 14 = .ok (.putfield 15, 3) := by decide +kernel
theorem dX0_init_17 : decode cX0_init 17 = .ok (.aload_n 0, 1) := by decide +kernel
theorem dX0_init_18 : decode cX0_init 18 = .ok (.iconst 3, 1) := by decide +kernel
theorem dX0_init_19 : decode cX0_init 19 = .ok (.newarray .int, 2) := by decide +kernel
theorem dX0_init_21 : decode cX0_init 21 = .ok (.putfield 19, 3) := by decide +kernel
theorem dX0_init_24 : decode cX0_init 24 = .ok (.aload_n 0, 1) := by decide +kernel
theorem dX0_init_25 : decode cX0_init 25 = .ok (.iconst 3, 1) := by decide +kernel
theorem dX0_init_26 : decode cX0_init 26 = .ok (.newarray .boolean, 2) := by decide +kernel
theorem dX0_init_28 : decode cX0_init 28 = .ok (.putfield 22, 3) := by decide +kernel
theorem dX0_init_31 : decode cX0_init 31 = .ok (.aload_n 0, 1) := by decide +kernel
theorem dX0_init_32 : decode cX0_init 32 = .ok (.iconst 4, 1) := by decide +kernel
theorem dX0_init_33 : decode cX0_init 33 = .ok (.newarray .int, 2) := by decide +kernel
theorem dX0_init_35 : decode cX0_init 35 = .ok (.putfield 26, 3) := by decide +kernel
theorem dX0_init_38 : decode cX0_init 38 = .ok (.aload_n 0, 1) := by decide +kernel
theorem dX0_init_39 : decode cX0_init 39 = .ok (.iconst 4, 1) := by decide +kernel
theorem dX0_init_40 : decode cX0_init 40 = .ok (.newarray .int, 2) := by decide +kernel
theorem dX0_init_42 : decode cX0_init 42 = .ok (.putfield 29, 3) := by decide +kernel
theorem dX0_init_45 : decode cX0_init 45 = .ok (.return_, 1) := by decide +kernel
theorem dX0_isThere_0 : decode cX0_isThere 0 = .ok (.aload_n 0, 1) := by decide +kernel
theorem dX0_isThere_1 : decode cX0_isThere 1 = .ok (.getfield 32, 3) := by decide +kernel
theorem dX0_isThere_4 : decode cX0_isThere 4 = .ok (.ifCond .le 7, 3) := by decide +kernel
theorem dX0_isThere_7 : decode cX0_isThere 7 = .ok (.iconst 1, 1) := by decide +kernel
theorem dX0_isThere_8 : decode cX0_isThere 8 = .ok (.goto 4, 3) := by decide +kernel
theorem dX0_isThere_11 : decode cX0_isThere 11 = .ok (.iconst 0, 1) := by decide +kernel
theorem dX0_isThere_12 : decode cX0_isThere 12 = .ok (.ireturn, 1) := by decide +kernel
theorem dX0_hasStage_0 : decode cX0_hasStage 0 = .ok (.iload_n 1, 1) := by decide +kernel
theorem dX0_hasStage_1 : decode cX0_hasStage 1 = .ok (.ifCond .lt 15, 3) := by decide +kernel
theorem dX0_hasStage_4 : decode cX0_hasStage 4 = .ok (.iload_n 1, 1) := by decide +kernel
theorem dX0_hasStage_5 : decode cX0_hasStage 5 = .ok (.aload_n 0, 1) := by decide +kernel
theorem dX0_hasStage_6 : decode cX0_hasStage 6 = .ok (.getfield 32, 3) := by decide +kernel
theorem dX0_hasStage_9 : decode cX0_hasStage 9 = .ok (.if_icmp .ge 7, 3) := by decide +kernel
theorem dX0_hasStage_12 : decode cX0_hasStage 12 = .ok (.iconst 1, 1) := by decide +kernel
theorem dX0_hasStage_13 : decode cX0_hasStage 13 = .ok (.goto 4, 3) := by decide +kernel
theorem dX0_hasStage_16 : decode cX0_hasStage 16 = .ok (.iconst 0, 1) := by decide +kernel
theorem dX0_hasStage_17 : decode cX0_hasStage 17 = .ok (.ireturn, 1) := by decide +kernel
theorem dX0_hasSpot_0 : decode cX0_hasSpot 0 = .ok (.aload_n 0, 1) := by decide +kernel
theorem dX0_hasSpot_1 : decode cX0_hasSpot 1 = .ok (.invokevirtual 35, 3) := by decide +kernel
theorem dX0_hasSpot_4 : decode cX0_hasSpot 4 = .ok (.ifCond .eq 19, 3) := by decide +kernel
theorem dX0_hasSpot_7 : decode cX0_hasSpot 7 = .ok (.iload_n 1, 1) := by decide +kernel
theorem dX0_hasSpot_8 : decode cX0_hasSpot 8 = .ok (.ifCond .lt 15, 3) := by decide +kernel
theorem dX0_hasSpot_11 : decode cX0_hasSpot 11 = .ok (.iload_n 1, 1) := by decide +kernel
theorem dX0_hasSpot_12 : decode cX0_hasSpot 12 = .ok (.aload_n 0, 1) := by decide +kernel
theorem dX0_hasSpot_13 : decode cX0_hasSpot 13 = .ok (.getfield 32, 3) := by decide +kernel
theorem dX0_hasSpot_16 : decode cX0_hasSpot 16 = .ok (.if_icmp .gt 7, 3) := by decide +kernel
theorem dX0_hasSpot_19 : decode cX0_hasSpot 19 = .ok (.iconst 1, 1) := by decide +kernel
theorem dX0_hasSpot_20 : decode cX0_hasSpot 20 = .ok (.goto 4, 3) := by decide +kernel
theorem dX0_hasSpot_23 : decode cX0_hasSpot 23 = .ok (.iconst 0, 1) := by decide +kernel
theorem dX0_hasSpot_24 : decode cX0_hasSpot 24 = .ok (.ireturn, 1) := by decide +kernel
theorem dX0_hasThing_0 : decode cX0_hasThing 0 = .ok (.iload_n 1, 1) := by decide +kernel
theorem dX0_hasThing_1 : decode cX0_hasThing 1 = .ok (.ifCond .lt 15, 3) := by decide +kernel
theorem dX0_hasThing_4 : decode cX0_hasThing 4 = .ok (.iload_n 1, 1) := by decide +kernel
theorem dX0_hasThing_5 : decode cX0_hasThing 5 = .ok (.aload_n 0, 1) := by decide +kernel
theorem dX0_hasThing_6 : decode cX0_hasThing 6 = .ok (.getfield 39, 3) := by decide +kernel
theorem dX0_hasThing_9 : decode cX0_hasThing 9 = .ok (.if_icmp .ge 7, 3) := by decide +kernel
theorem dX0_hasThing_12 : decode cX0_hasThing 12 = .ok (.iconst 1, 1) := by decide +kernel
theorem dX0_hasThing_13 : decode cX0_hasThing 13 = .ok (.goto 4, 3) := by decide +kernel
theorem dX0_hasThing_16 : decode cX0_hasThing 16 = .ok (.iconst 0, 1) := by decide +kernel
theorem dX0_hasThing_17 : decode cX0_hasThing 17 = .ok (.ireturn, 1) := by decide +kernel
theorem dX0_hasAllOf_0 : decode cX0_hasAllOf 0 = .ok (.iload_n 1, 1) := by decide +kernel
theorem dX0_hasAllOf_1 : decode cX0_hasAllOf 1 = .ok (.aload_n 0, 1) := by decide +kernel
theorem dX0_hasAllOf_2 : decode cX0_hasAllOf 2 = .ok (.getfield 39, 3) := by decide +kernel
theorem dX0_hasAllOf_5 : decode cX0_hasAllOf 5 = .ok (.iushr, 1) := by decide +kernel
theorem dX0_hasAllOf_6 : decode cX0_hasAllOf 6 = .ok (.ifCond .ne 7, 3) := by decide +kernel
theorem dX0_hasAllOf_9 : decode cX0_hasAllOf 9 = .ok (.iconst 1, 1) := by decide +kernel
theorem dX0_hasAllOf_10 : decode cX0_hasAllOf 10 = .ok (.goto 4, 3) := by decide +kernel
theorem dX0_hasAllOf_13 : decode cX0_hasAllOf 13 = .ok (.iconst 0, 1) := by decide +kernel
theorem dX0_hasAllOf_14 : decode cX0_hasAllOf 14 = .ok (.ireturn, 1) := by decide +kernel
theorem dX0_become_0 : decode cX0_become 0 = .ok (.aload_n 0, 1) := by decide +kernel
theorem dX0_become_1 : decode cX0_become 1 = .ok (.aload_n 1, 1) := by decide +kernel
theorem dX0_become_2 : decode cX0_become 2 = .ok (.getfield 42, 3) := by decide +kernel
theorem dX0_become_5 : decode cX0_become 5 = .ok (.putfield 42, 3) := by decide +kernel
theorem dX0_become_8 : decode cX0_become 8 = .ok (.aload_n 0, 1) := by decide +kernel
theorem dX0_become_9 : decode cX0_become 9 = .ok (.aload_n 1, 1) := by decide +kernel
theorem dX0_become_10 : decode cX0_become 10 = .ok (.getfield 9, 3) := by decide +kernel
theorem dX0_become_13 : decode cX0_become 13 = .ok (.putfield 9, 3) := by decide +kernel
theorem dX0_become_16 : decode cX0_become 16 = .ok (.aload_n 0, 1) := by decide +kernel
theorem dX0_become_17 : decode cX0_become 17 = .ok (.aload_n 1, 1) := by decide +kernel
theorem dX0_become_18 : decode cX0_become 18 = .ok (.getfield 32, 3) := by decide +kernel
theorem dX0_become_21 : decode cX0_become 21 = .ok (.putfield 32, 3) := by decide +kernel
theorem dX0_become_24 : decode cX0_become 24 = .ok (.aload_n 0, 1) := by decide +kernel
theorem dX0_become_25 : decode cX0_become 25 = .ok (.aload_n 1, 1) := by decide +kernel
theorem dX0_become_26 : decode cX0_become 26 = .ok (.getfield 39, 3) := by decide +kernel
theorem dX0_become_29 : decode cX0_become 29 = .ok (.putfield 39, 3) := by decide +kernel
theorem dX0_become_32 : decode cX0_become 32 = .ok (.iconst 0, 1) := by decide +kernel
theorem dX0_become_33 : decode cX0_become 33 = .ok (.istore_n 2, 1) := by decide +kernel
theorem dX0_become_34 : decode cX0_become 34 = .ok (.iload_n 2, 1) := by decide +kernel
theorem dX0_become_35 : decode cX0_become 35 = .ok (.iconst 3, 1) := by decide +kernel
theorem dX0_become_36 : decode cX0_become 36 = .ok (.if_icmp .ge 45, 3) := by decide +kernel
theorem dX0_become_39 : decode cX0_become 39 = .ok (.aload_n 0, 1) := by decide +kernel
theorem dX0_become_40 : decode cX0_become 40 = .ok (.getfield 15, 3) := by decide +kernel
theorem dX0_become_43 : decode cX0_become 43 = .ok (.iload_n 2, 1) := by decide +kernel
theorem dX0_become_44 : decode cX0_become 44 = .ok (.aload_n 1, 1) := by decide +kernel
theorem dX0_become_45 : decode cX0_become 45 = .ok (.getfield 15, 3) := by decide +kernel
theorem dX0_become_48 : decode cX0_become 48 = .ok (.iload_n 2, 1) := by decide +kernel
theorem dX0_become_49 : decode cX0_become 49 = .ok (.iaload, 1) := by decide +kernel
theorem dX0_become_50 : decode cX0_become 50 = .ok (.iastore, 1) := by decide +kernel
theorem dX0_become_51 : decode cX0_become 51 = .ok (.aload_n 0, 1) := by decide +kernel
theorem dX0_become_52 : decode cX0_become 52 = .ok (.getfield 19, 3) := by decide +kernel
theorem dX0_become_55 : decode cX0_become 55 = .ok (.iload_n 2, 1) := by decide +kernel
theorem dX0_become_56 : decode cX0_become 56 = .ok (.aload_n 1, 1) := by decide +kernel
theorem dX0_become_57 : decode cX0_become 57 = .ok (.getfield 19, 3) := by decide +kernel
theorem dX0_become_60 : decode cX0_become 60 = .ok (.iload_n 2, 1) := by decide +kernel
theorem dX0_become_61 : decode cX0_become 61 = .ok (.iaload, 1) := by decide +kernel
theorem dX0_become_62 : decode cX0_become 62 = .ok (.iastore, 1) := by decide +kernel
theorem dX0_become_63 : decode cX0_become 63 = .ok (.aload_n 0, 1) := by decide +kernel
theorem dX0_become_64 : decode cX0_become 64 = .ok (.getfield 22, 3) := by decide +kernel
theorem dX0_become_67 : decode cX0_become 67 = .ok (.iload_n 2, 1) := by decide +kernel
theorem dX0_become_68 : decode cX0_become 68 = .ok (.aload_n 1, 1) := by decide +kernel
theorem dX0_become_69 : decode cX0_become 69 = .ok (.getfield 22, 3) := by decide +kernel
theorem dX0_become_72 : decode cX0_become 72 = .ok (.iload_n 2, 1) := by decide +kernel
theorem dX0_become_73 : decode cX0_become 73 = .ok (.baload, 1) := by decide +kernel
theorem dX0_become_74 : decode cX0_become 74 = .ok (.bastore, 1) := by decide +kernel
theorem dX0_become_75 : decode cX0_become 75 = .ok (.iinc 2 1, 3) := by decide +kernel
theorem dX0_become_78 : decode cX0_become 78 = .ok (.goto (-44), 3) := by decide +kernel
theorem dX0_become_81 : decode cX0_become 81 = .ok (.iconst 0, 1) := by decide +kernel
theorem dX0_become_82 : decode cX0_become 82 = .ok (.istore_n 2, 1) := by decide +kernel
theorem dX0_become_83 : decode cX0_become 83 = .ok (.iload_n 2, 1) := by decide +kernel
theorem dX0_become_84 : decode cX0_become 84 = .ok (.iconst 4, 1) := by decide +kernel
theorem dX0_become_85 : decode cX0_become 85 = .ok (.if_icmp .ge 33, 3) := by decide +kernel
theorem dX0_become_88 : decode cX0_become 88 = .ok (.aload_n 0, 1) := by decide +kernel
theorem dX0_become_89 : decode cX0_become 89 = .ok (.getfield 26, 3) := by decide +kernel
theorem dX0_become_92 : decode cX0_become 92 = .ok (.iload_n 2, 1) := by decide +kernel
theorem dX0_become_93 : decode cX0_become 93 = .ok (.aload_n 1, 1) := by decide +kernel
theorem dX0_become_94 : decode cX0_become 94 = .ok (.getfield 26, 3) := by decide +kernel
theorem dX0_become_97 : decode cX0_become 97 = .ok (.iload_n 2, 1) := by decide +kernel
theorem dX0_become_98 : decode cX0_become 98 = .ok (.iaload, 1) := by decide +kernel
theorem dX0_become_99 : decode cX0_become 99 = .ok (.iastore, 1) := by decide +kernel
theorem dX0_become_100 : decode cX0_become 100 = .ok (.aload_n 0, 1) := by decide +kernel
theorem dX0_become_101 : decode cX0_become 101 = .ok (.getfield 29, 3) := by decide +kernel
theorem dX0_become_104 : decode cX0_become 104 = .ok (.iload_n 2, 1) := by decide +kernel
theorem dX0_become_105 : decode cX0_become 105 = .ok (.aload_n 1, 1) := by decide +kernel
theorem dX0_become_106 : decode cX0_become 106 = .ok (.getfield 29, 3) := by decide +kernel
theorem dX0_become_109 : decode cX0_become 109 = .ok (.iload_n 2, 1) := by decide +kernel
theorem dX0_become_110 : decode cX0_become 110 = .ok (.iaload, 1) := by decide +kernel
theorem dX0_become_111 : decode cX0_become 111 = .ok (.iastore, 1) := by decide +kernel
theorem dX0_become_112 : decode cX0_become 112 = .ok (.iinc 2 1, 3) := by decide +kernel
theorem dX0_become_115 : decode cX0_become 115 = .ok (.goto (-32), 3) := by decide +kernel
theorem dX0_become_118 : decode cX0_become 118 = .ok (.return_, 1) := by decide +kernel
theorem dX0_dropThing_0 : decode cX0_dropThing 0 = .ok (.iload_n 1, 1) := by decide +kernel
theorem dX0_dropThing_1 : decode cX0_dropThing 1 = .ok (.istore_n 2, 1) := by decide +kernel
theorem dX0_dropThing_2 : decode cX0_dropThing 2 = .ok (.iload_n 2, 1) := by decide +kernel
theorem dX0_dropThing_3 : decode cX0_dropThing 3 = .ok (.iconst 1, 1) := by decide +kernel
theorem dX0_dropThing_4 : decode cX0_dropThing 4 = .ok (.iadd, 1) := by decide +kernel
theorem dX0_dropThing_5 : decode cX0_dropThing 5 = .ok (.aload_n 0, 1) := by decide +kernel
theorem dX0_dropThing_6 : decode cX0_dropThing 6 = .ok (.getfield 39, 3) := by decide +kernel
theorem dX0_dropThing_9 : decode cX0_dropThing 9 = .ok (.if_icmp .ge 37, 3) := by decide +kernel
theorem dX0_dropThing_12 : decode cX0_dropThing 12 = .ok (.aload_n 0, 1) := by decide +kernel
theorem dX0_dropThing_13 : decode cX0_dropThing 13 = .ok (.getfield 26, 3) := by decide +kernel
theorem dX0_dropThing_16 : decode cX0_dropThing 16 = .ok (.iload_n 2, 1) := by decide +kernel
theorem dX0_dropThing_17 : decode cX0_dropThing 17 = .ok (.aload_n 0, 1) := by decide +kernel
theorem dX0_dropThing_18 : decode cX0_dropThing 18 = .ok (.getfield 26, 3) := by decide +kernel
theorem dX0_dropThing_21 : decode cX0_dropThing 21 = .ok (.iload_n 2, 1) := by decide +kernel
theorem dX0_dropThing_22 : decode cX0_dropThing 22 = .ok (.iconst 1, 1) := by decide +kernel
theorem dX0_dropThing_23 : decode cX0_dropThing 23 = .ok (.iadd, 1) := by decide +kernel
theorem dX0_dropThing_24 : decode cX0_dropThing 24 = .ok (.iaload, 1) := by decide +kernel
theorem dX0_dropThing_25 : decode cX0_dropThing 25 = .ok (.iastore, 1) := by decide +kernel
theorem dX0_dropThing_26 : decode cX0_dropThing 26 = .ok (.aload_n 0, 1) := by decide +kernel
theorem dX0_dropThing_27 : decode cX0_dropThing 27 = .ok (.getfield 29, 3) := by decide +kernel
theorem dX0_dropThing_30 : decode cX0_dropThing 30 = .ok (.iload_n 2, 1) := by decide +kernel
theorem dX0_dropThing_31 : decode cX0_dropThing 31 = .ok (.aload_n 0, 1) := by decide +kernel
theorem dX0_dropThing_32 : decode cX0_dropThing 32 = .ok (.getfield 29, 3) := by decide +kernel
theorem dX0_dropThing_35 : decode cX0_dropThing 35 = .ok (.iload_n 2, 1) := by decide +kernel
theorem dX0_dropThing_36 : decode cX0_dropThing 36 = .ok (.iconst 1, 1) := by decide +kernel
theorem dX0_dropThing_37 : decode cX0_dropThing 37 = .ok (.iadd, 1) := by decide +kernel
theorem dX0_dropThing_38 : decode cX0_dropThing 38 = .ok (.iaload, 1) := by decide +kernel
theorem dX0_dropThing_39 : decode cX0_dropThing 39 = .ok (.iastore, 1) := by decide +kernel
theorem dX0_dropThing_40 : decode cX0_dropThing 40 = .ok (.iinc 2 1, 3) := by decide +kernel
theorem dX0_dropThing_43 : decode cX0_dropThing 43 = .ok (.goto (-41), 3) := by decide +kernel
theorem dX0_dropThing_46 : decode cX0_dropThing 46 = .ok (.aload_n 0, 1) := by decide +kernel
theorem dX0_dropThing_47 : decode cX0_dropThing 47 = .ok (.dup, 1) := by decide +kernel
theorem dX0_dropThing_48 : decode cX0_dropThing 48 = .ok (.getfield 39, 3) := by decide +kernel
theorem dX0_dropThing_51 : decode cX0_dropThing 51 = .ok (.iconst 1, 1) := by decide +kernel
theorem dX0_dropThing_52 : decode cX0_dropThing 52 = .ok (.isub, 1) := by decide +kernel
theorem dX0_dropThing_53 : decode cX0_dropThing 53 = .ok (.putfield 39, 3) := by decide +kernel
theorem dX0_dropThing_56 : decode cX0_dropThing 56 = .ok (.return_, 1) := by decide +kernel
theorem dX0_readText_0 : decode cX0_readText 0 = .ok (.aload_n 0, 1) := by decide +kernel
theorem dX0_readText_1 : decode cX0_readText 1 = .ok (.invokevirtual 45, 3) := by decide +kernel
theorem dX0_readText_4 : decode cX0_readText 4 = .ok (.iconst 1, 1) := by decide +kernel
theorem dX0_readText_5 : decode cX0_readText 5 = .ok (.istore 4, 2) := by decide +kernel
theorem dX0_readText_7 : decode cX0_readText 7 = .ok (.iconst 0, 1) := by decide +kernel
theorem dX0_readText_8 : decode cX0_readText 8 = .ok (.istore 5, 2) := by decide +kernel
theorem dX0_readText_10 : decode cX0_readText 10 = .ok (.iload 5, 2) := by decide +kernel
theorem dX0_readText_12 : decode cX0_readText 12 = .ok (.iload_n 3, 1) := by decide +kernel
theorem dX0_readText_13 : decode cX0_readText 13 = .ok (.if_icmp .ge 34, 3) := by decide +kernel
theorem dX0_readText_16 : decode cX0_readText 16 = .ok (.aload_n 0, 1) := by decide +kernel
theorem dX0_readText_17 : decode cX0_readText 17 = .ok (.iload 4, 2) := by decide +kernel
theorem dX0_readText_19 : decode cX0_readText 19 = .ok (.aload_n 1, 1) := by decide +kernel
theorem dX0_readText_20 : decode cX0_readText 20 = .ok (.getfield 48, 3) := by decide +kernel
theorem dX0_readText_23 : decode cX0_readText 23 = .ok (.iload_n 2, 1) := by decide +kernel
theorem dX0_readText_24 : decode cX0_readText 24 = .ok (.iload 5, 2) := by decide +kernel
theorem dX0_readText_26 : decode cX0_readText 26 = .ok (.iadd, 1) := by decide +kernel
theorem dX0_readText_27 : decode cX0_readText 27 = .ok (.iaload, 1) := by decide +kernel
theorem dX0_readText_28 : decode cX0_readText 28 = .ok (.invokevirtual 53, 3) := by decide +kernel
theorem dX0_readText_31 : decode cX0_readText 31 = .ok (.istore 4, 2) := by decide +kernel
theorem dX0_readText_33 : decode cX0_readText 33 = .ok (.iload 4, 2) := by decide +kernel
theorem dX0_readText_35 : decode cX0_readText 35 = .ok (.ifCond .ne 6, 3) := by decide +kernel
theorem dX0_readText_38 : decode cX0_readText 38 = .ok (.iload 5, 2) := by decide +kernel
theorem dX0_readText_40 : decode cX0_readText 40 = .ok (.ireturn, 1) := by decide +kernel
theorem dX0_readText_41 : decode cX0_readText 41 = .ok (.iinc 5 1, 3) := by decide +kernel
theorem dX0_readText_44 : decode cX0_readText 44 = .ok (.goto (-34), 3) := by decide +kernel
theorem dX0_readText_47 : decode cX0_readText 47 = .ok (.iload 4, 2) := by decide +kernel
theorem dX0_readText_49 : decode cX0_readText 49 = .ok (.iconst 3, 1) := by decide +kernel
theorem dX0_readText_50 : decode cX0_readText 50 = .ok (.if_icmp .ne 15, 3) := by decide +kernel
theorem dX0_readText_53 : decode cX0_readText 53 = .ok (.aload_n 0, 1) := by decide +kernel
theorem dX0_readText_54 : decode cX0_readText 54 = .ok (.getfield 39, 3) := by decide +kernel
theorem dX0_readText_57 : decode cX0_readText 57 = .ok (.ifCond .le 8, 3) := by decide +kernel
theorem dX0_readText_60 : decode cX0_readText 60 = .ok (.bipush (-9), 2) := by decide +kernel
theorem dX0_readText_62 : decode cX0_readText 62 = .ok (.goto 4, 3) := by decide +kernel
theorem dX0_readText_65 : decode cX0_readText 65 = .ok (.iload_n 3, 1) := by decide +kernel
theorem dX0_readText_66 : decode cX0_readText 66 = .ok (.ireturn, 1) := by decide +kernel
theorem dX0_clear_0 : decode cX0_clear 0 = .ok (.aload_n 0, 1) := by decide +kernel
theorem dX0_clear_1 : decode cX0_clear 1 = .ok (.iconst 0, 1) := by decide +kernel
theorem dX0_clear_2 : decode cX0_clear 2 = .ok (.putfield 42, 3) := by decide +kernel
theorem dX0_clear_5 : decode cX0_clear 5 = .ok (.aload_n 0, 1) := by decide +kernel
theorem dX0_clear_6 : decode cX0_clear 6 = .ok (.bipush (-9), 2) := by decide +kernel
theorem dX0_clear_8 : decode cX0_clear 8 = .ok (.putfield 9, 3) := by decide +kernel
theorem dX0_clear_11 : decode cX0_clear 11 = .ok (.aload_n 0, 1) := by decide +kernel
theorem dX0_clear_12 : decode cX0_clear 12 = .ok (.iconst 0, 1) := by decide +kernel
theorem dX0_clear_13 : decode cX0_clear 13 = .ok (.putfield 32, 3) := by decide +kernel
theorem dX0_clear_16 : decode cX0_clear 16 = .ok (.aload_n 0, 1) := by decide +kernel
theorem dX0_clear_17 : decode cX0_clear 17 = .ok (.iconst 0, 1) := by decide +kernel
theorem dX0_clear_18 : decode cX0_clear 18 = .ok (.putfield 39, 3) := by decide +kernel
theorem dX0_clear_21 : decode cX0_clear 21 = .ok (.iconst 0, 1) := by decide +kernel
theorem dX0_clear_22 : decode cX0_clear 22 = .ok (.istore_n 1, 1) := by decide +kernel
theorem dX0_clear_23 : decode cX0_clear 23 = .ok (.iload_n 1, 1) := by decide +kernel
theorem dX0_clear_24 : decode cX0_clear 24 = .ok (.iconst 3, 1) := by decide +kernel
theorem dX0_clear_25 : decode cX0_clear 25 = .ok (.if_icmp .ge 16, 3) := by decide +kernel
theorem dX0_clear_28 : decode cX0_clear 28 = .ok (.aload_n 0, 1) := by decide +kernel
theorem dX0_clear_29 : decode cX0_clear 29 = .ok (.getfield 22, 3) := by decide +kernel
theorem dX0_clear_32 : decode cX0_clear 32 = .ok (.iload_n 1, 1) := by decide +kernel
theorem dX0_clear_33 : decode cX0_clear 33 = .ok (.iconst 0, 1) := by decide +kernel
theorem dX0_clear_34 : decode cX0_clear 34 = .ok (.bastore, 1) := by decide +kernel
theorem dX0_clear_35 : decode cX0_clear 35 = .ok (.iinc 1 1, 3) := by decide +kernel
theorem dX0_clear_38 : decode cX0_clear 38 = .ok (.goto (-15), 3) := by decide +kernel
theorem dX0_clear_41 : decode cX0_clear 41 = .ok (.return_, 1) := by decide +kernel
theorem dX0_readCode_0 : decode cX0_readCode 0 = .ok (.iload_n 1, 1) := by decide +kernel
theorem dX0_readCode_1 : decode cX0_readCode 1 = .ok (.lookupswitch 59 #[(1, 35), (3, 47), (6, 53)], 35) := by decide +kernel
theorem dX0_readCode_36 : decode cX0_readCode 36 = .ok (.iload_n 2, 1) := by decide +kernel
theorem dX0_readCode_37 : decode cX0_readCode 37 = .ok (.bipush 103, 2) := by decide +kernel
theorem dX0_readCode_39 : decode cX0_readCode 39 = .ok (.if_icmp .ne 7, 3) := by decide +kernel
theorem dX0_readCode_42 : decode cX0_readCode 42 = .ok (.iconst 2, 1) := by decide +kernel
theorem dX0_readCode_43 : decode cX0_readCode 43 = .ok (.goto 4, 3) := by decide +kernel
theorem dX0_readCode_46 : decode cX0_readCode 46 = .ok (.iconst 0, 1) := by decide +kernel
theorem dX0_readCode_47 : decode cX0_readCode 47 = .ok (.ireturn, 1) := by decide +kernel
theorem dX0_readCode_48 : decode cX0_readCode 48 = .ok (.aload_n 0, 1) := by decide +kernel
theorem dX0_readCode_49 : decode cX0_readCode 49 = .ok (.iload_n 2, 1) := by decide +kernel
theorem dX0_readCode_50 : decode cX0_readCode 50 = .ok (.invokevirtual 57, 3) := by decide +kernel
theorem dX0_readCode_53 : decode cX0_readCode 53 = .ok (.ireturn, 1) := by decide +kernel
theorem dX0_readCode_54 : decode cX0_readCode 54 = .ok (.aload_n 0, 1) := by decide +kernel
theorem dX0_readCode_55 : decode cX0_readCode 55 = .ok (.iload_n 2, 1) := by decide +kernel
theorem dX0_readCode_56 : decode cX0_readCode 56 = .ok (.invokevirtual 61, 3) := by decide +kernel
theorem dX0_readCode_59 : decode cX0_readCode 59 = .ok (.ireturn, 1) := by decide +kernel
theorem dX0_readCode_60 : decode cX0_readCode 60 = .ok (.aload_n 0, 1) := by decide +kernel
theorem dX0_readCode_61 : decode cX0_readCode 61 = .ok (.iload_n 1, 1) := by decide +kernel
theorem dX0_readCode_62 : decode cX0_readCode 62 = .ok (.iload_n 2, 1) := by decide +kernel
theorem dX0_readCode_63 : decode cX0_readCode 63 = .ok (.bipush 48, 2) := by decide +kernel
theorem dX0_readCode_65 : decode cX0_readCode 65 = .ok (.isub, 1) := by decide +kernel
theorem dX0_readCode_66 : decode cX0_readCode 66 = .ok (.invokevirtual 64, 3) := by decide +kernel
theorem dX0_readCode_69 : decode cX0_readCode 69 = .ok (.ireturn, 1) := by decide +kernel
theorem dX0_startPart_0 : decode cX0_startPart 0 = .ok (.iload_n 1, 1) := by decide +kernel
theorem dX0_startPart_1 : decode cX0_startPart 1 = .ok (.bipush 59, 2) := by decide +kernel
theorem dX0_startPart_3 : decode cX0_startPart 3 = .ok (.if_icmp .ne 20, 3) := by decide +kernel
theorem dX0_startPart_6 : decode cX0_startPart 6 = .ok (.aload_n 0, 1) := by decide +kernel
theorem dX0_startPart_7 : decode cX0_startPart 7 = .ok (.getfield 39, 3) := by decide +kernel
theorem dX0_startPart_10 : decode cX0_startPart 10 = .ok (.ifCond .ne 13, 3) := by decide +kernel
theorem dX0_startPart_13 : decode cX0_startPart 13 = .ok (.aload_n 0, 1) := by decide +kernel
theorem dX0_startPart_14 : decode cX0_startPart 14 = .ok (.getfield 32, 3) := by decide +kernel
theorem dX0_startPart_17 : decode cX0_startPart 17 = .ok (.iconst 3, 1) := by decide +kernel
theorem dX0_startPart_18 : decode cX0_startPart 18 = .ok (.if_icmp .ge 5, 3) := by decide +kernel
theorem dX0_startPart_21 : decode cX0_startPart 21 = .ok (.iconst 4, 1) := by decide +kernel
theorem dX0_startPart_22 : decode cX0_startPart 22 = .ok (.ireturn, 1) := by decide +kernel
theorem dX0_startPart_23 : decode cX0_startPart 23 = .ok (.iload_n 1, 1) := by decide +kernel
theorem dX0_startPart_24 : decode cX0_startPart 24 = .ok (.bipush 44, 2) := by decide +kernel
theorem dX0_startPart_26 : decode cX0_startPart 26 = .ok (.if_icmp .ne 21, 3) := by decide +kernel
theorem dX0_startPart_29 : decode cX0_startPart 29 = .ok (.aload_n 0, 1) := by decide +kernel
theorem dX0_startPart_30 : decode cX0_startPart 30 = .ok (.getfield 32, 3) := by decide +kernel
theorem dX0_startPart_33 : decode cX0_startPart 33 = .ok (.ifCond .le 14, 3) := by decide +kernel
theorem dX0_startPart_36 : decode cX0_startPart 36 = .ok (.aload_n 0, 1) := by decide +kernel
theorem dX0_startPart_37 : decode cX0_startPart 37 = .ok (.getfield 39, 3) := by decide +kernel
theorem dX0_startPart_40 : decode cX0_startPart 40 = .ok (.iconst 4, 1) := by decide +kernel
theorem dX0_startPart_41 : decode cX0_startPart 41 = .ok (.if_icmp .ge 6, 3) := by decide +kernel
theorem dX0_startPart_44 : decode cX0_startPart 44 = .ok (.bipush 6, 2) := by decide +kernel
theorem dX0_startPart_46 : decode cX0_startPart 46 = .ok (.ireturn, 1) := by decide +kernel
theorem dX0_startPart_47 : decode cX0_startPart 47 = .ok (.iconst 0, 1) := by decide +kernel
theorem dX0_startPart_48 : decode cX0_startPart 48 = .ok (.ireturn, 1) := by decide +kernel
theorem dX0_readKind_0 : decode cX0_readKind 0 = .ok (.iload_n 1, 1) := by decide +kernel
theorem dX0_readKind_1 : decode cX0_readKind 1 = .ok (.invokestatic 67, 3) := by decide +kernel
theorem dX0_readKind_4 : decode cX0_readKind 4 = .ok (.istore_n 2, 1) := by decide +kernel
theorem dX0_readKind_5 : decode cX0_readKind 5 = .ok (.iload_n 2, 1) := by decide +kernel
theorem dX0_readKind_6 : decode cX0_readKind 6 = .ok (.bipush (-9), 2) := by decide +kernel
theorem dX0_readKind_8 : decode cX0_readKind 8 = .ok (.if_icmp .ne 5, 3) := by decide +kernel
theorem dX0_readKind_11 : decode cX0_readKind 11 = .ok (.iconst 0, 1) := by decide +kernel
theorem dX0_readKind_12 : decode cX0_readKind 12 = .ok (.ireturn, 1) := by decide +kernel
theorem dX0_readKind_13 : decode cX0_readKind 13 = .ok (.aload_n 0, 1) := by decide +kernel
theorem dX0_readKind_14 : decode cX0_readKind 14 = .ok (.getfield 26, 3) := by decide +kernel
theorem dX0_readKind_17 : decode cX0_readKind 17 = .ok (.aload_n 0, 1) := by decide +kernel
theorem dX0_readKind_18 : decode cX0_readKind 18 = .ok (.getfield 39, 3) := by decide +kernel
theorem dX0_readKind_21 : decode cX0_readKind 21 = .ok (.iload_n 2, 1) := by decide +kernel
theorem dX0_readKind_22 : decode cX0_readKind 22 = .ok (.iastore, 1) := by decide +kernel
theorem dX0_readKind_23 : decode cX0_readKind 23 = .ok (.bipush 7, 2) := by decide +kernel
theorem dX0_readKind_25 : decode cX0_readKind 25 = .ok (.ireturn, 1) := by decide +kernel
theorem dX0_readDigit_0 : decode cX0_readDigit 0 = .ok (.iload_n 1, 1) := by decide +kernel
theorem dX0_readDigit_1 : decode cX0_readDigit 1 = .ok (.iconst 5, 1) := by decide +kernel
theorem dX0_readDigit_2 : decode cX0_readDigit 2 = .ok (.if_icmp .ne 7, 3) := by decide +kernel
theorem dX0_readDigit_5 : decode cX0_readDigit 5 = .ok (.iconst 1, 1) := by decide +kernel
theorem dX0_readDigit_6 : decode cX0_readDigit 6 = .ok (.goto 4, 3) := by decide +kernel
theorem dX0_readDigit_9 : decode cX0_readDigit 9 = .ok (.iconst 0, 1) := by decide +kernel
theorem dX0_readDigit_10 : decode cX0_readDigit 10 = .ok (.istore_n 3, 1) := by decide +kernel
theorem dX0_readDigit_11 : decode cX0_readDigit 11 = .ok (.iload_n 2, 1) := by decide +kernel
theorem dX0_readDigit_12 : decode cX0_readDigit 12 = .ok (.iload_n 3, 1) := by decide +kernel
theorem dX0_readDigit_13 : decode cX0_readDigit 13 = .ok (.ifCond .eq 7, 3) := by decide +kernel
theorem dX0_readDigit_16 : decode cX0_readDigit 16 = .ok (.iconst 0, 1) := by decide +kernel
theorem dX0_readDigit_17 : decode cX0_readDigit 17 = .ok (.goto 4, 3) := by decide +kernel
theorem dX0_readDigit_20 : decode cX0_readDigit 20 = .ok (.iconst 1, 1) := by decide +kernel
theorem dX0_readDigit_21 : decode cX0_readDigit 21 = .ok (.if_icmp .lt 17, 3) := by decide +kernel
theorem dX0_readDigit_24 : decode cX0_readDigit 24 = .ok (.iload_n 2, 1) := by decide +kernel
theorem dX0_readDigit_25 : decode cX0_readDigit 25 = .ok (.iload_n 3, 1) := by decide +kernel
theorem dX0_readDigit_26 : decode cX0_readDigit 26 = .ok (.ifCond .eq 7, 3) := by decide +kernel
theorem dX0_readDigit_29 : decode cX0_readDigit 29 = .ok (.iconst 4, 1) := by decide +kernel
theorem dX0_readDigit_30 : decode cX0_readDigit 30 = .ok (.goto 5, 3) := by decide +kernel
theorem dX0_readDigit_33 : decode cX0_readDigit 33 = .ok (.bipush 9, 2) := by decide +kernel
theorem dX0_readDigit_35 : decode cX0_readDigit 35 = .ok (.if_icmp .le 5, 3) := by decide +kernel
theorem dX0_readDigit_38 : decode cX0_readDigit 38 = .ok (.iconst 0, 1) := by decide +kernel
theorem dX0_readDigit_39 : decode cX0_readDigit 39 = .ok (.ireturn, 1) := by decide +kernel
theorem dX0_readDigit_40 : decode cX0_readDigit 40 = .ok (.iload_n 1, 1) := by decide +kernel
theorem dX0_readDigit_41 : decode cX0_readDigit 41 = .ok (.tableswitch 102 2 7 #[39, 102, 46, 58, 102, 80], 39) := by decide +kernel
theorem dX0_readDigit_80 : decode cX0_readDigit 80 = .ok (.aload_n 0, 1) := by decide +kernel
theorem dX0_readDigit_81 : decode cX0_readDigit 81 = .ok (.iload_n 2, 1) := by decide +kernel
theorem dX0_readDigit_82 : decode cX0_readDigit 82 = .ok (.putfield 42, 3) := by decide +kernel
theorem dX0_readDigit_85 : decode cX0_readDigit 85 = .ok (.iconst 3, 1) := by decide +kernel
theorem dX0_readDigit_86 : decode cX0_readDigit 86 = .ok (.ireturn, 1) := by decide +kernel
theorem dX0_readDigit_87 : decode cX0_readDigit 87 = .ok (.aload_n 0, 1) := by decide +kernel
theorem dX0_readDigit_88 : decode cX0_readDigit 88 = .ok (.getfield 15, 3) := by decide +kernel
theorem dX0_readDigit_91 : decode cX0_readDigit 91 = .ok (.aload_n 0, 1) := by decide +kernel
theorem dX0_readDigit_92 : decode cX0_readDigit 92 = .ok (.getfield 32, 3) := by decide +kernel
theorem dX0_readDigit_95 : decode cX0_readDigit 95 = .ok (.iload_n 2, 1) := by decide +kernel
theorem dX0_readDigit_96 : decode cX0_readDigit 96 = .ok (.iastore, 1) := by decide +kernel
theorem dX0_readDigit_97 : decode cX0_readDigit 97 = .ok (.iconst 5, 1) := by decide +kernel
theorem dX0_readDigit_98 : decode cX0_readDigit 98 = .ok (.ireturn, 1) := by decide +kernel
theorem dX0_readDigit_99 : decode cX0_readDigit 99 = .ok (.aload_n 0, 1) := by decide +kernel
theorem dX0_readDigit_100 : decode cX0_readDigit 100 = .ok (.getfield 19, 3) := by decide +kernel
theorem dX0_readDigit_103 : decode cX0_readDigit 103 = .ok (.aload_n 0, 1) := by decide +kernel
theorem dX0_readDigit_104 : decode cX0_readDigit 104 = .ok (.getfield 32, 3) := by decide +kernel
theorem dX0_readDigit_107 : decode cX0_readDigit 107 = .ok (.iload_n 2, 1) := by decide +kernel
theorem dX0_readDigit_108 : decode cX0_readDigit 108 = .ok (.iastore, 1) := by decide +kernel
theorem dX0_readDigit_109 : decode cX0_readDigit 109 = .ok (.aload_n 0, 1) := by decide +kernel
theorem dX0_readDigit_110 : decode cX0_readDigit 110 = .ok (.dup, 1) := by decide +kernel
theorem dX0_readDigit_111 : decode cX0_readDigit 111 = .ok (.getfield 32, 3) := by decide +kernel
theorem dX0_readDigit_114 : decode cX0_readDigit 114 = .ok (.iconst 1, 1) := by decide +kernel
theorem dX0_readDigit_115 : decode cX0_readDigit 115 = .ok (.iadd, 1) := by decide +kernel
theorem dX0_readDigit_116 : decode cX0_readDigit 116 = .ok (.putfield 32, 3) := by decide +kernel
theorem dX0_readDigit_119 : decode cX0_readDigit 119 = .ok (.iconst 3, 1) := by decide +kernel
theorem dX0_readDigit_120 : decode cX0_readDigit 120 = .ok (.ireturn, 1) := by decide +kernel
theorem dX0_readDigit_121 : decode cX0_readDigit 121 = .ok (.aload_n 0, 1) := by decide +kernel
theorem dX0_readDigit_122 : decode cX0_readDigit 122 = .ok (.getfield 29, 3) := by decide +kernel
theorem dX0_readDigit_125 : decode cX0_readDigit 125 = .ok (.aload_n 0, 1) := by decide +kernel
theorem dX0_readDigit_126 : decode cX0_readDigit 126 = .ok (.getfield 39, 3) := by decide +kernel
theorem dX0_readDigit_129 : decode cX0_readDigit 129 = .ok (.iload_n 2, 1) := by decide +kernel
theorem dX0_readDigit_130 : decode cX0_readDigit 130 = .ok (.iastore, 1) := by decide +kernel
theorem dX0_readDigit_131 : decode cX0_readDigit 131 = .ok (.aload_n 0, 1) := by decide +kernel
theorem dX0_readDigit_132 : decode cX0_readDigit 132 = .ok (.dup, 1) := by decide +kernel
theorem dX0_readDigit_133 : decode cX0_readDigit 133 = .ok (.getfield 39, 3) := by decide +kernel
theorem dX0_readDigit_136 : decode cX0_readDigit 136 = .ok (.iconst 1, 1) := by decide +kernel
theorem dX0_readDigit_137 : decode cX0_readDigit 137 = .ok (.iadd, 1) := by decide +kernel
theorem dX0_readDigit_138 : decode cX0_readDigit 138 = .ok (.putfield 39, 3) := by decide +kernel
theorem dX0_readDigit_141 : decode cX0_readDigit 141 = .ok (.iconst 3, 1) := by decide +kernel
theorem dX0_readDigit_142 : decode cX0_readDigit 142 = .ok (.ireturn, 1) := by decide +kernel
theorem dX0_readDigit_143 : decode cX0_readDigit 143 = .ok (.iconst 0, 1) := by decide +kernel
theorem dX0_readDigit_144 : decode cX0_readDigit 144 = .ok (.ireturn, 1) := by decide +kernel
theorem dX0_kindOfLetter_0 : decode cX0_kindOfLetter 0 = .ok (.iload_n 0, 1) := by decide +kernel
theorem dX0_kindOfLetter_1 : decode cX0_kindOfLetter 1 = .ok (.lookupswitch 41 #[(99, 39), (102, 37), (116, 35)], 35) := by decide +kernel
theorem dX0_kindOfLetter_36 : decode cX0_kindOfLetter 36 = .ok (.iconst 0, 1) := by decide +kernel
theorem dX0_kindOfLetter_37 : decode cX0_kindOfLetter 37 = .ok (.ireturn, 1) := by decide +kernel
theorem dX0_kindOfLetter_38 : decode cX0_kindOfLetter 38 = .ok (.iconst 1, 1) := by decide +kernel
theorem dX0_kindOfLetter_39 : decode cX0_kindOfLetter 39 = .ok (.ireturn, 1) := by decide +kernel
theorem dX0_kindOfLetter_40 : decode cX0_kindOfLetter 40 = .ok (.iconst 2, 1) := by decide +kernel
theorem dX0_kindOfLetter_41 : decode cX0_kindOfLetter 41 = .ok (.ireturn, 1) := by decide +kernel
theorem dX0_kindOfLetter_42 : decode cX0_kindOfLetter 42 = .ok (.bipush (-9), 2) := by decide +kernel
theorem dX0_kindOfLetter_44 : decode cX0_kindOfLetter 44 = .ok (.ireturn, 1) := by decide +kernel
theorem dX0_wellOnes_0 : decode cX0_wellOnes 0 = .ok (.iload_n 1, 1) := by decide +kernel
theorem dX0_wellOnes_1 : decode cX0_wellOnes 1 = .ok (.aload_n 0, 1) := by decide +kernel
theorem dX0_wellOnes_2 : decode cX0_wellOnes 2 = .ok (.invokevirtual 70, 3) := by decide +kernel
theorem dX0_wellOnes_5 : decode cX0_wellOnes 5 = .ok (.iand, 1) := by decide +kernel
theorem dX0_wellOnes_6 : decode cX0_wellOnes 6 = .ok (.istore_n 2, 1) := by decide +kernel
theorem dX0_wellOnes_7 : decode cX0_wellOnes 7 = .ok (.iconst 0, 1) := by decide +kernel
theorem dX0_wellOnes_8 : decode cX0_wellOnes 8 = .ok (.istore_n 3, 1) := by decide +kernel
theorem dX0_wellOnes_9 : decode cX0_wellOnes 9 = .ok (.iconst 0, 1) := by decide +kernel
theorem dX0_wellOnes_10 : decode cX0_wellOnes 10 = .ok (.istore 4, 2) := by decide +kernel
theorem dX0_wellOnes_12 : decode cX0_wellOnes 12 = .ok (.iload 4, 2) := by decide +kernel
theorem dX0_wellOnes_14 : decode cX0_wellOnes 14 = .ok (.aload_n 0, 1) := by decide +kernel
theorem dX0_wellOnes_15 : decode cX0_wellOnes 15 = .ok (.getfield 39, 3) := by decide +kernel
theorem dX0_wellOnes_18 : decode cX0_wellOnes 18 = .ok (.if_icmp .ge 51, 3) := by decide +kernel
theorem dX0_wellOnes_21 : decode cX0_wellOnes 21 = .ok (.iload_n 1, 1) := by decide +kernel
theorem dX0_wellOnes_22 : decode cX0_wellOnes 22 = .ok (.iconst 1, 1) := by decide +kernel
theorem dX0_wellOnes_23 : decode cX0_wellOnes 23 = .ok (.iload 4, 2) := by decide +kernel
theorem dX0_wellOnes_25 : decode cX0_wellOnes 25 = .ok (.ishl, 1) := by decide +kernel
theorem dX0_wellOnes_26 : decode cX0_wellOnes 26 = .ok (.iconst (-1), 1) := by decide +kernel
theorem dX0_wellOnes_27 : decode cX0_wellOnes 27 = .ok (.ixor, 1) := by decide +kernel
theorem dX0_wellOnes_28 : decode cX0_wellOnes 28 = .ok (.iand, 1) := by decide +kernel
theorem dX0_wellOnes_29 : decode cX0_wellOnes 29 = .ok (.istore 5, 2) := by decide +kernel
theorem dX0_wellOnes_31 : decode cX0_wellOnes 31 = .ok (.iload_n 1, 1) := by decide +kernel
theorem dX0_wellOnes_32 : decode cX0_wellOnes 32 = .ok (.iload 4, 2) := by decide +kernel
theorem dX0_wellOnes_34 : decode cX0_wellOnes 34 = .ok (.invokestatic 74, 3) := by decide +kernel
theorem dX0_wellOnes_37 : decode cX0_wellOnes 37 = .ok (.ifCond .eq 26, 3) := by decide +kernel
theorem dX0_wellOnes_40 : decode cX0_wellOnes 40 = .ok (.aload_n 0, 1) := by decide +kernel
theorem dX0_wellOnes_41 : decode cX0_wellOnes 41 = .ok (.getfield 26, 3) := by decide +kernel
theorem dX0_wellOnes_44 : decode cX0_wellOnes 44 = .ok (.iload 4, 2) := by decide +kernel
theorem dX0_wellOnes_46 : decode cX0_wellOnes 46 = .ok (.iaload, 1) := by decide +kernel
theorem dX0_wellOnes_47 : decode cX0_wellOnes 47 = .ok (.iload 5, 2) := by decide +kernel
theorem dX0_wellOnes_49 : decode cX0_wellOnes 49 = .ok (.iload_n 2, 1) := by decide +kernel
theorem dX0_wellOnes_50 : decode cX0_wellOnes 50 = .ok (.invokestatic 78, 3) := by decide +kernel
theorem dX0_wellOnes_53 : decode cX0_wellOnes 53 = .ok (.ifCond .eq 10, 3) := by decide +kernel
theorem dX0_wellOnes_56 : decode cX0_wellOnes 56 = .ok (.iload_n 3, 1) := by decide +kernel
theorem dX0_wellOnes_57 : decode cX0_wellOnes 57 = .ok (.iconst 1, 1) := by decide +kernel
theorem dX0_wellOnes_58 : decode cX0_wellOnes 58 = .ok (.iload 4, 2) := by decide +kernel
theorem dX0_wellOnes_60 : decode cX0_wellOnes 60 = .ok (.ishl, 1) := by decide +kernel
theorem dX0_wellOnes_61 : decode cX0_wellOnes 61 = .ok (.ior, 1) := by decide +kernel
theorem dX0_wellOnes_62 : decode cX0_wellOnes 62 = .ok (.istore_n 3, 1) := by decide +kernel
theorem dX0_wellOnes_63 : decode cX0_wellOnes 63 = .ok (.iinc 4 1, 3) := by decide +kernel
theorem dX0_wellOnes_66 : decode cX0_wellOnes 66 = .ok (.goto (-54), 3) := by decide +kernel
theorem dX0_wellOnes_69 : decode cX0_wellOnes 69 = .ok (.iload_n 3, 1) := by decide +kernel
theorem dX0_wellOnes_70 : decode cX0_wellOnes 70 = .ok (.ireturn, 1) := by decide +kernel
theorem dX0_isWell_0 : decode cX0_isWell 0 = .ok (.iload_n 0, 1) := by decide +kernel
theorem dX0_isWell_1 : decode cX0_isWell 1 = .ok (.lookupswitch 51 #[(1, 27), (2, 37)], 27) := by decide +kernel
theorem dX0_isWell_28 : decode cX0_isWell 28 = .ok (.iload_n 1, 1) := by decide +kernel
theorem dX0_isWell_29 : decode cX0_isWell 29 = .ok (.ifCond .eq 7, 3) := by decide +kernel
theorem dX0_isWell_32 : decode cX0_isWell 32 = .ok (.iconst 1, 1) := by decide +kernel
theorem dX0_isWell_33 : decode cX0_isWell 33 = .ok (.goto 4, 3) := by decide +kernel
theorem dX0_isWell_36 : decode cX0_isWell 36 = .ok (.iconst 0, 1) := by decide +kernel
theorem dX0_isWell_37 : decode cX0_isWell 37 = .ok (.ireturn, 1) := by decide +kernel
theorem dX0_isWell_38 : decode cX0_isWell 38 = .ok (.iload_n 1, 1) := by decide +kernel
theorem dX0_isWell_39 : decode cX0_isWell 39 = .ok (.ifCond .eq 11, 3) := by decide +kernel
theorem dX0_isWell_42 : decode cX0_isWell 42 = .ok (.iload_n 2, 1) := by decide +kernel
theorem dX0_isWell_43 : decode cX0_isWell 43 = .ok (.ifCond .ne 7, 3) := by decide +kernel
theorem dX0_isWell_46 : decode cX0_isWell 46 = .ok (.iconst 1, 1) := by decide +kernel
theorem dX0_isWell_47 : decode cX0_isWell 47 = .ok (.goto 4, 3) := by decide +kernel
theorem dX0_isWell_50 : decode cX0_isWell 50 = .ok (.iconst 0, 1) := by decide +kernel
theorem dX0_isWell_51 : decode cX0_isWell 51 = .ok (.ireturn, 1) := by decide +kernel
theorem dX0_isWell_52 : decode cX0_isWell 52 = .ok (.iconst 1, 1) := by decide +kernel
theorem dX0_isWell_53 : decode cX0_isWell 53 = .ok (.ireturn, 1) := by decide +kernel
theorem dX0_foodOnes_0 : decode cX0_foodOnes 0 = .ok (.iconst 0, 1) := by decide +kernel
theorem dX0_foodOnes_1 : decode cX0_foodOnes 1 = .ok (.istore_n 1, 1) := by decide +kernel
theorem dX0_foodOnes_2 : decode cX0_foodOnes 2 = .ok (.iconst 0, 1) := by decide +kernel
theorem dX0_foodOnes_3 : decode cX0_foodOnes 3 = .ok (.istore_n 2, 1) := by decide +kernel
theorem dX0_foodOnes_4 : decode cX0_foodOnes 4 = .ok (.iload_n 2, 1) := by decide +kernel
theorem dX0_foodOnes_5 : decode cX0_foodOnes 5 = .ok (.aload_n 0, 1) := by decide +kernel
theorem dX0_foodOnes_6 : decode cX0_foodOnes 6 = .ok (.getfield 39, 3) := by decide +kernel
theorem dX0_foodOnes_9 : decode cX0_foodOnes 9 = .ok (.if_icmp .ge 25, 3) := by decide +kernel
theorem dX0_foodOnes_12 : decode cX0_foodOnes 12 = .ok (.aload_n 0, 1) := by decide +kernel
theorem dX0_foodOnes_13 : decode cX0_foodOnes 13 = .ok (.getfield 26, 3) := by decide +kernel
theorem dX0_foodOnes_16 : decode cX0_foodOnes 16 = .ok (.iload_n 2, 1) := by decide +kernel
theorem dX0_foodOnes_17 : decode cX0_foodOnes 17 = .ok (.iaload, 1) := by decide +kernel
theorem dX0_foodOnes_18 : decode cX0_foodOnes 18 = .ok (.iconst 1, 1) := by decide +kernel
theorem dX0_foodOnes_19 : decode cX0_foodOnes 19 = .ok (.if_icmp .ne 9, 3) := by decide +kernel
theorem dX0_foodOnes_22 : decode cX0_foodOnes 22 = .ok (.iload_n 1, 1) := by decide +kernel
theorem dX0_foodOnes_23 : decode cX0_foodOnes 23 = .ok (.iconst 1, 1) := by decide +kernel
theorem dX0_foodOnes_24 : decode cX0_foodOnes 24 = .ok (.iload_n 2, 1) := by decide +kernel
theorem dX0_foodOnes_25 : decode cX0_foodOnes 25 = .ok (.ishl, 1) := by decide +kernel
theorem dX0_foodOnes_26 : decode cX0_foodOnes 26 = .ok (.ior, 1) := by decide +kernel
theorem dX0_foodOnes_27 : decode cX0_foodOnes 27 = .ok (.istore_n 1, 1) := by decide +kernel
theorem dX0_foodOnes_28 : decode cX0_foodOnes 28 = .ok (.iinc 2 1, 3) := by decide +kernel
theorem dX0_foodOnes_31 : decode cX0_foodOnes 31 = .ok (.goto (-27), 3) := by decide +kernel
theorem dX0_foodOnes_34 : decode cX0_foodOnes 34 = .ok (.iload_n 1, 1) := by decide +kernel
theorem dX0_foodOnes_35 : decode cX0_foodOnes 35 = .ok (.ireturn, 1) := by decide +kernel
theorem dX0_load_0 : decode cX0_load 0 = .ok (.iconst 0, 1) := by decide +kernel
theorem dX0_load_1 : decode cX0_load 1 = .ok (.istore_n 2, 1) := by decide +kernel
theorem dX0_load_2 : decode cX0_load 2 = .ok (.iconst 0, 1) := by decide +kernel
theorem dX0_load_3 : decode cX0_load 3 = .ok (.istore_n 3, 1) := by decide +kernel
theorem dX0_load_4 : decode cX0_load 4 = .ok (.iload_n 3, 1) := by decide +kernel
theorem dX0_load_5 : decode cX0_load 5 = .ok (.aload_n 0, 1) := by decide +kernel
theorem dX0_load_6 : decode cX0_load 6 = .ok (.getfield 39, 3) := by decide +kernel
theorem dX0_load_9 : decode cX0_load 9 = .ok (.if_icmp .ge 26, 3) := by decide +kernel
theorem dX0_load_12 : decode cX0_load 12 = .ok (.iload_n 1, 1) := by decide +kernel
theorem dX0_load_13 : decode cX0_load 13 = .ok (.iload_n 3, 1) := by decide +kernel
theorem dX0_load_14 : decode cX0_load 14 = .ok (.invokestatic 74, 3) := by decide +kernel
theorem dX0_load_17 : decode cX0_load 17 = .ok (.ifCond .eq 12, 3) := by decide +kernel
theorem dX0_load_20 : decode cX0_load 20 = .ok (.iload_n 2, 1) := by decide +kernel
theorem dX0_load_21 : decode cX0_load 21 = .ok (.aload_n 0, 1) := by decide +kernel
theorem dX0_load_22 : decode cX0_load 22 = .ok (.getfield 29, 3) := by decide +kernel
theorem dX0_load_25 : decode cX0_load 25 = .ok (.iload_n 3, 1) := by decide +kernel
theorem dX0_load_26 : decode cX0_load 26 = .ok (.iaload, 1) := by decide +kernel
theorem dX0_load_27 : decode cX0_load 27 = .ok (.iadd, 1) := by decide +kernel
theorem dX0_load_28 : decode cX0_load 28 = .ok (.istore_n 2, 1) := by decide +kernel
theorem dX0_load_29 : decode cX0_load 29 = .ok (.iinc 3 1, 3) := by decide +kernel
theorem dX0_load_32 : decode cX0_load 32 = .ok (.goto (-28), 3) := by decide +kernel
theorem dX0_load_35 : decode cX0_load 35 = .ok (.iload_n 2, 1) := by decide +kernel
theorem dX0_load_36 : decode cX0_load 36 = .ok (.ireturn, 1) := by decide +kernel
theorem dX0_rainsIn_0 : decode cX0_rainsIn 0 = .ok (.aload_n 0, 1) := by decide +kernel
theorem dX0_rainsIn_1 : decode cX0_rainsIn 1 = .ok (.getfield 9, 3) := by decide +kernel
theorem dX0_rainsIn_4 : decode cX0_rainsIn 4 = .ok (.bipush (-9), 2) := by decide +kernel
theorem dX0_rainsIn_6 : decode cX0_rainsIn 6 = .ok (.if_icmp .eq 15, 3) := by decide +kernel
theorem dX0_rainsIn_9 : decode cX0_rainsIn 9 = .ok (.iload_n 1, 1) := by decide +kernel
theorem dX0_rainsIn_10 : decode cX0_rainsIn 10 = .ok (.aload_n 0, 1) := by decide +kernel
theorem dX0_rainsIn_11 : decode cX0_rainsIn 11 = .ok (.getfield 9, 3) := by decide +kernel
theorem dX0_rainsIn_14 : decode cX0_rainsIn 14 = .ok (.if_icmp .lt 7, 3) := by decide +kernel
theorem dX0_rainsIn_17 : decode cX0_rainsIn 17 = .ok (.iconst 1, 1) := by decide +kernel
theorem dX0_rainsIn_18 : decode cX0_rainsIn 18 = .ok (.goto 4, 3) := by decide +kernel
theorem dX0_rainsIn_21 : decode cX0_rainsIn 21 = .ok (.iconst 0, 1) := by decide +kernel
theorem dX0_rainsIn_22 : decode cX0_rainsIn 22 = .ok (.ireturn, 1) := by decide +kernel
theorem dX0_mudUnder_0 : decode cX0_mudUnder 0 = .ok (.aload_n 0, 1) := by decide +kernel
theorem dX0_mudUnder_1 : decode cX0_mudUnder 1 = .ok (.getfield 22, 3) := by decide +kernel
theorem dX0_mudUnder_4 : decode cX0_mudUnder 4 = .ok (.iload_n 1, 1) := by decide +kernel
theorem dX0_mudUnder_5 : decode cX0_mudUnder 5 = .ok (.baload, 1) := by decide +kernel
theorem dX0_mudUnder_6 : decode cX0_mudUnder 6 = .ok (.ifCond .eq 5, 3) := by decide +kernel
theorem dX0_mudUnder_9 : decode cX0_mudUnder 9 = .ok (.iconst 0, 1) := by decide +kernel
theorem dX0_mudUnder_10 : decode cX0_mudUnder 10 = .ok (.ireturn, 1) := by decide +kernel
theorem dX0_mudUnder_11 : decode cX0_mudUnder 11 = .ok (.iload_n 2, 1) := by decide +kernel
theorem dX0_mudUnder_12 : decode cX0_mudUnder 12 = .ok (.ifCond .eq 14, 3) := by decide +kernel
theorem dX0_mudUnder_15 : decode cX0_mudUnder 15 = .ok (.iconst 2, 1) := by decide +kernel
theorem dX0_mudUnder_16 : decode cX0_mudUnder 16 = .ok (.aload_n 0, 1) := by decide +kernel
theorem dX0_mudUnder_17 : decode cX0_mudUnder 17 = .ok (.getfield 19, 3) := by decide +kernel
theorem dX0_mudUnder_20 : decode cX0_mudUnder 20 = .ok (.iload_n 1, 1) := by decide +kernel
theorem dX0_mudUnder_21 : decode cX0_mudUnder 21 = .ok (.iaload, 1) := by decide +kernel
theorem dX0_mudUnder_22 : decode cX0_mudUnder 22 = .ok (.imul, 1) := by decide +kernel
theorem dX0_mudUnder_23 : decode cX0_mudUnder 23 = .ok (.goto 9, 3) := by decide +kernel
theorem dX0_mudUnder_26 : decode cX0_mudUnder 26 = .ok (.aload_n 0, 1) := by decide +kernel
theorem dX0_mudUnder_27 : decode cX0_mudUnder 27 = .ok (.getfield 19, 3) := by decide +kernel
theorem dX0_mudUnder_30 : decode cX0_mudUnder 30 = .ok (.iload_n 1, 1) := by decide +kernel
theorem dX0_mudUnder_31 : decode cX0_mudUnder 31 = .ok (.iaload, 1) := by decide +kernel
theorem dX0_mudUnder_32 : decode cX0_mudUnder 32 = .ok (.ireturn, 1) := by decide +kernel
theorem dX0_minutesOver_0 : decode cX0_minutesOver 0 = .ok (.iload_n 2, 1) := by decide +kernel
theorem dX0_minutesOver_1 : decode cX0_minutesOver 1 = .ok (.ifCond .ne 10, 3) := by decide +kernel
theorem dX0_minutesOver_4 : decode cX0_minutesOver 4 = .ok (.aload_n 0, 1) := by decide +kernel
theorem dX0_minutesOver_5 : decode cX0_minutesOver 5 = .ok (.getfield 15, 3) := by decide +kernel
theorem dX0_minutesOver_8 : decode cX0_minutesOver 8 = .ok (.iload_n 1, 1) := by decide +kernel
theorem dX0_minutesOver_9 : decode cX0_minutesOver 9 = .ok (.iaload, 1) := by decide +kernel
theorem dX0_minutesOver_10 : decode cX0_minutesOver 10 = .ok (.ireturn, 1) := by decide +kernel
theorem dX0_minutesOver_11 : decode cX0_minutesOver 11 = .ok (.aload_n 0, 1) := by decide +kernel
theorem dX0_minutesOver_12 : decode cX0_minutesOver 12 = .ok (.getfield 15, 3) := by decide +kernel
theorem dX0_minutesOver_15 : decode cX0_minutesOver 15 = .ok (.iload_n 1, 1) := by decide +kernel
theorem dX0_minutesOver_16 : decode cX0_minutesOver 16 = .ok (.iaload, 1) := by decide +kernel
theorem dX0_minutesOver_17 : decode cX0_minutesOver 17 = .ok (.aload_n 0, 1) := by decide +kernel
theorem dX0_minutesOver_18 : decode cX0_minutesOver 18 = .ok (.iload_n 1, 1) := by decide +kernel
theorem dX0_minutesOver_19 : decode cX0_minutesOver 19 = .ok (.iload_n 3, 1) := by decide +kernel
theorem dX0_minutesOver_20 : decode cX0_minutesOver 20 = .ok (.invokevirtual 82, 3) := by decide +kernel
theorem dX0_minutesOver_23 : decode cX0_minutesOver 23 = .ok (.iadd, 1) := by decide +kernel
theorem dX0_minutesOver_24 : decode cX0_minutesOver 24 = .ok (.iload_n 2, 1) := by decide +kernel
theorem dX0_minutesOver_25 : decode cX0_minutesOver 25 = .ok (.iconst 3, 1) := by decide +kernel
theorem dX0_minutesOver_26 : decode cX0_minutesOver 26 = .ok (.idiv, 1) := by decide +kernel
theorem dX0_minutesOver_27 : decode cX0_minutesOver 27 = .ok (.iadd, 1) := by decide +kernel
theorem dX0_minutesOver_28 : decode cX0_minutesOver 28 = .ok (.ireturn, 1) := by decide +kernel
theorem dX0_isIn_0 : decode cX0_isIn 0 = .ok (.iload_n 0, 1) := by decide +kernel
theorem dX0_isIn_1 : decode cX0_isIn 1 = .ok (.iload_n 1, 1) := by decide +kernel
theorem dX0_isIn_2 : decode cX0_isIn 2 = .ok (.ishr, 1) := by decide +kernel
theorem dX0_isIn_3 : decode cX0_isIn 3 = .ok (.iconst 1, 1) := by decide +kernel
theorem dX0_isIn_4 : decode cX0_isIn 4 = .ok (.iand, 1) := by decide +kernel
theorem dX0_isIn_5 : decode cX0_isIn 5 = .ok (.iconst 1, 1) := by decide +kernel
theorem dX0_isIn_6 : decode cX0_isIn 6 = .ok (.if_icmp .ne 7, 3) := by decide +kernel
theorem dX0_isIn_9 : decode cX0_isIn 9 = .ok (.iconst 1, 1) := by decide +kernel
theorem dX0_isIn_10 : decode cX0_isIn 10 = .ok (.goto 4, 3) := by decide +kernel
theorem dX0_isIn_13 : decode cX0_isIn 13 = .ok (.iconst 0, 1) := by decide +kernel
theorem dX0_isIn_14 : decode cX0_isIn 14 = .ok (.ireturn, 1) := by decide +kernel
theorem dX1_init_0 : decode cX1_init 0 = .ok (.aload_n 0, 1) := by decide +kernel
theorem dX1_init_1 : decode cX1_init 1 = .ok (.invokespecial 3, 3) := by decide +kernel
theorem dX1_init_4 : decode cX1_init 4 = .ok (.aload_n 0, 1) := by decide +kernel
theorem dX1_init_5 : decode cX1_init 5 = .ok (.bipush 8, 2) := by decide +kernel
theorem dX1_init_7 : decode cX1_init 7 = .ok (.newarray .int, 2) := by decide +kernel
theorem dX1_init_9 : decode cX1_init 9 = .ok (.putfield 9, 3) := by decide +kernel
theorem dX1_init_12 : decode cX1_init 12 = .ok (.aload_n 0, 1) := by decide +kernel
theorem dX1_init_13 : decode cX1_init 13 = .ok (.bipush 8, 2) := by decide +kernel
theorem dX1_init_15 : decode cX1_init 15 = .ok (.newarray .int, 2) := by decide +kernel
theorem dX1_init_17 : decode cX1_init 17 = .ok (.putfield 15, 3) := by decide +kernel
theorem dX1_init_20 : decode cX1_init 20 = .ok (.aload_n 0, 1) := by decide +kernel
theorem dX1_init_21 : decode cX1_init 21 = .ok (.bipush 8, 2) := by decide +kernel
theorem dX1_init_23 : decode cX1_init 23 = .ok (.newarray .int, 2) := by decide +kernel
theorem dX1_init_25 : decode cX1_init 25 = .ok (.putfield 18, 3) := by decide +kernel
theorem dX1_init_28 : decode cX1_init 28 = .ok (.return_, 1) := by decide +kernel
theorem dX1_add_0 : decode cX1_add 0 = .ok (.aload_n 0, 1) := by decide +kernel
theorem dX1_add_1 : decode cX1_add 1 = .ok (.getfield 21, 3) := by decide +kernel
theorem dX1_add_4 : decode cX1_add 4 = .ok (.bipush 8, 2) := by decide +kernel
theorem dX1_add_6 : decode cX1_add 6 = .ok (.if_icmp .lt 6, 3) := by decide +kernel
theorem dX1_add_9 : decode cX1_add 9 = .ok (.bipush (-4), 2) := by decide +kernel
theorem dX1_add_11 : decode cX1_add 11 = .ok (.ireturn, 1) := by decide +kernel
theorem dX1_add_12 : decode cX1_add 12 = .ok (.aload_n 0, 1) := by decide +kernel
theorem dX1_add_13 : decode cX1_add 13 = .ok (.getfield 9, 3) := by decide +kernel
theorem dX1_add_16 : decode cX1_add 16 = .ok (.aload_n 0, 1) := by decide +kernel
theorem dX1_add_17 : decode cX1_add 17 = .ok (.getfield 21, 3) := by decide +kernel
theorem dX1_add_20 : decode cX1_add 20 = .ok (.iload_n 1, 1) := by decide +kernel
theorem dX1_add_21 : decode cX1_add 21 = .ok (.iastore, 1) := by decide +kernel
theorem dX1_add_22 : decode cX1_add 22 = .ok (.aload_n 0, 1) := by decide +kernel
theorem dX1_add_23 : decode cX1_add 23 = .ok (.getfield 15, 3) := by decide +kernel
theorem dX1_add_26 : decode cX1_add 26 = .ok (.aload_n 0, 1) := by decide +kernel
theorem dX1_add_27 : decode cX1_add 27 = .ok (.getfield 21, 3) := by decide +kernel
theorem dX1_add_30 : decode cX1_add 30 = .ok (.iload_n 2, 1) := by decide +kernel
theorem dX1_add_31 : decode cX1_add 31 = .ok (.iastore, 1) := by decide +kernel
theorem dX1_add_32 : decode cX1_add 32 = .ok (.aload_n 0, 1) := by decide +kernel
theorem dX1_add_33 : decode cX1_add 33 = .ok (.getfield 18, 3) := by decide +kernel
theorem dX1_add_36 : decode cX1_add 36 = .ok (.aload_n 0, 1) := by decide +kernel
theorem dX1_add_37 : decode cX1_add 37 = .ok (.getfield 21, 3) := by decide +kernel
theorem dX1_add_40 : decode cX1_add 40 = .ok (.iload_n 3, 1) := by decide +kernel
theorem dX1_add_41 : decode cX1_add 41 = .ok (.iastore, 1) := by decide +kernel
theorem dX1_add_42 : decode cX1_add 42 = .ok (.aload_n 0, 1) := by decide +kernel
theorem dX1_add_43 : decode cX1_add 43 = .ok (.dup, 1) := by decide +kernel
theorem dX1_add_44 : decode cX1_add 44 = .ok (.getfield 21, 3) := by decide +kernel
theorem dX1_add_47 : decode cX1_add 47 = .ok (.dup_x1, 1) := by decide +kernel
theorem dX1_add_48 : decode cX1_add 48 = .ok (.iconst 1, 1) := by decide +kernel
theorem dX1_add_49 : decode cX1_add 49 = .ok (.iadd, 1) := by decide +kernel
theorem dX1_add_50 : decode cX1_add 50 = .ok (.putfield 21, 3) := by decide +kernel
theorem dX1_add_53 : decode cX1_add 53 = .ok (.ireturn, 1) := by decide +kernel
theorem dX1_areSoBy_0 : decode cX1_areSoBy 0 = .ok (.iconst 0, 1) := by decide +kernel
theorem dX1_areSoBy_1 : decode cX1_areSoBy 1 = .ok (.istore_n 2, 1) := by decide +kernel
theorem dX1_areSoBy_2 : decode cX1_areSoBy 2 = .ok (.iload_n 2, 1) := by decide +kernel
theorem dX1_areSoBy_3 : decode cX1_areSoBy 3 = .ok (.aload_n 0, 1) := by decide +kernel
theorem dX1_areSoBy_4 : decode cX1_areSoBy 4 = .ok (.getfield 21, 3) := by decide +kernel
theorem dX1_areSoBy_7 : decode cX1_areSoBy 7 = .ok (.if_icmp .ge 36, 3) := by decide +kernel
theorem dX1_areSoBy_10 : decode cX1_areSoBy 10 = .ok (.aload_n 1, 1) := by decide +kernel
theorem dX1_areSoBy_11 : decode cX1_areSoBy 11 = .ok (.aload_n 0, 1) := by decide +kernel
theorem dX1_areSoBy_12 : decode cX1_areSoBy 12 = .ok (.getfield 9, 3) := by decide +kernel
theorem dX1_areSoBy_15 : decode cX1_areSoBy 15 = .ok (.iload_n 2, 1) := by decide +kernel
theorem dX1_areSoBy_16 : decode cX1_areSoBy 16 = .ok (.iaload, 1) := by decide +kernel
theorem dX1_areSoBy_17 : decode cX1_areSoBy 17 = .ok (.aload_n 0, 1) := by decide +kernel
theorem dX1_areSoBy_18 : decode cX1_areSoBy 18 = .ok (.getfield 18, 3) := by decide +kernel
theorem dX1_areSoBy_21 : decode cX1_areSoBy 21 = .ok (.iload_n 2, 1) := by decide +kernel
theorem dX1_areSoBy_22 : decode cX1_areSoBy 22 = .ok (.iaload, 1) := by decide +kernel
theorem dX1_areSoBy_23 : decode cX1_areSoBy 23 = .ok (.invokevirtual 25, 3) := by decide +kernel
theorem dX1_areSoBy_26 : decode cX1_areSoBy 26 = .ok (.aload_n 0, 1) := by decide +kernel
theorem dX1_areSoBy_27 : decode cX1_areSoBy 27 = .ok (.getfield 15, 3) := by decide +kernel
theorem dX1_areSoBy_30 : decode cX1_areSoBy 30 = .ok (.iload_n 2, 1) := by decide +kernel
theorem dX1_areSoBy_31 : decode cX1_areSoBy 31 = .ok (.iaload, 1) := by decide +kernel
theorem dX1_areSoBy_32 : decode cX1_areSoBy 32 = .ok (.if_icmp .eq 5, 3) := by decide +kernel
theorem dX1_areSoBy_35 : decode cX1_areSoBy 35 = .ok (.iconst 0, 1) := by decide +kernel
theorem dX1_areSoBy_36 : decode cX1_areSoBy 36 = .ok (.ireturn, 1) := by decide +kernel
theorem dX1_areSoBy_37 : decode cX1_areSoBy 37 = .ok (.iinc 2 1, 3) := by decide +kernel
theorem dX1_areSoBy_40 : decode cX1_areSoBy 40 = .ok (.goto (-38), 3) := by decide +kernel
theorem dX1_areSoBy_43 : decode cX1_areSoBy 43 = .ok (.iconst 1, 1) := by decide +kernel
theorem dX1_areSoBy_44 : decode cX1_areSoBy 44 = .ok (.ireturn, 1) := by decide +kernel
theorem dX3_init_0 : decode cX3_init 0 = .ok (.aload_n 0, 1) := by decide +kernel
theorem dX3_init_1 : decode cX3_init 1 = .ok (.invokespecial 3, 3) := by decide +kernel
theorem dX3_init_4 : decode cX3_init 4 = .ok (.aload_n 0, 1) := by decide +kernel
theorem dX3_init_5 : decode cX3_init 5 = .ok (.bipush (-9), 2) := by decide +kernel
theorem dX3_init_7 : decode cX3_init 7 = .ok (.putfield 9, 3) := by decide +kernel
theorem dX3_init_10 : decode cX3_init 10 = .ok (.aload_n 0, 1) := by decide +kernel
theorem dX3_init_11 : decode cX3_init 11 = .ok (.bipush 60, 2) := by decide +kernel
theorem dX3_init_13 : decode cX3_init 13 = .ok (.newarray .int, 2) := by decide +kernel
theorem dX3_init_15 : decode cX3_init 15 = .ok (.putfield 15, 3) := by decide +kernel
theorem dX3_init_18 : decode cX3_init 18 = .ok (.return_, 1) := by decide +kernel
theorem dX3_renew_0 : decode cX3_renew 0 = .ok (.aload_n 0, 1) := by decide +kernel
theorem dX3_renew_1 : decode cX3_renew 1 = .ok (.iload_n 1, 1) := by decide +kernel
theorem dX3_renew_2 : decode cX3_renew 2 = .ok (.putfield 9, 3) := by decide +kernel
theorem dX3_renew_5 : decode cX3_renew 5 = .ok (.aload_n 0, 1) := by decide +kernel
theorem dX3_renew_6 : decode cX3_renew 6 = .ok (.iload_n 2, 1) := by decide +kernel
theorem dX3_renew_7 : decode cX3_renew 7 = .ok (.putfield 19, 3) := by decide +kernel
theorem dX3_renew_10 : decode cX3_renew 10 = .ok (.aload_n 0, 1) := by decide +kernel
theorem dX3_renew_11 : decode cX3_renew 11 = .ok (.getfield 15, 3) := by decide +kernel
theorem dX3_renew_14 : decode cX3_renew 14 = .ok (.iconst 0, 1) := by decide +kernel
theorem dX3_renew_15 : decode cX3_renew 15 = .ok (.invokestatic 22, 3) := by decide +kernel
theorem dX3_renew_18 : decode cX3_renew 18 = .ok (.return_, 1) := by decide +kernel
theorem dX3_isNothing_0 : decode cX3_isNothing 0 = .ok (.aload_n 0, 1) := by decide +kernel
theorem dX3_isNothing_1 : decode cX3_isNothing 1 = .ok (.getfield 9, 3) := by decide +kernel
theorem dX3_isNothing_4 : decode cX3_isNothing 4 = .ok (.bipush (-9), 2) := by decide +kernel
theorem dX3_isNothing_6 : decode cX3_isNothing 6 = .ok (.if_icmp .ne 7, 3) := by decide +kernel
theorem dX3_isNothing_9 : decode cX3_isNothing 9 = .ok (.iconst 1, 1) := by decide +kernel
theorem dX3_isNothing_10 : decode cX3_isNothing 10 = .ok (.goto 4, 3) := by decide +kernel
theorem dX3_isNothing_13 : decode cX3_isNothing 13 = .ok (.iconst 0, 1) := by decide +kernel
theorem dX3_isNothing_14 : decode cX3_isNothing 14 = .ok (.ireturn, 1) := by decide +kernel
theorem dX3_faultAs_0 : decode cX3_faultAs 0 = .ok (.aload_n 0, 1) := by decide +kernel
theorem dX3_faultAs_1 : decode cX3_faultAs 1 = .ok (.invokevirtual 28, 3) := by decide +kernel
theorem dX3_faultAs_4 : decode cX3_faultAs 4 = .ok (.ifCond .eq 5, 3) := by decide +kernel
theorem dX3_faultAs_7 : decode cX3_faultAs 7 = .ok (.iconst 1, 1) := by decide +kernel
theorem dX3_faultAs_8 : decode cX3_faultAs 8 = .ok (.ireturn, 1) := by decide +kernel
theorem dX3_faultAs_9 : decode cX3_faultAs 9 = .ok (.aload_n 0, 1) := by decide +kernel
theorem dX3_faultAs_10 : decode cX3_faultAs 10 = .ok (.getfield 9, 3) := by decide +kernel
theorem dX3_faultAs_13 : decode cX3_faultAs 13 = .ok (.iload_n 1, 1) := by decide +kernel
theorem dX3_faultAs_14 : decode cX3_faultAs 14 = .ok (.if_icmp .ne 7, 3) := by decide +kernel
theorem dX3_faultAs_17 : decode cX3_faultAs 17 = .ok (.iconst 0, 1) := by decide +kernel
theorem dX3_faultAs_18 : decode cX3_faultAs 18 = .ok (.goto 4, 3) := by decide +kernel
theorem dX3_faultAs_21 : decode cX3_faultAs 21 = .ok (.iconst 2, 1) := by decide +kernel
theorem dX3_faultAs_22 : decode cX3_faultAs 22 = .ok (.ireturn, 1) := by decide +kernel
theorem dX3_hasCell_0 : decode cX3_hasCell 0 = .ok (.iload_n 1, 1) := by decide +kernel
theorem dX3_hasCell_1 : decode cX3_hasCell 1 = .ok (.ifCond .lt 15, 3) := by decide +kernel
theorem dX3_hasCell_4 : decode cX3_hasCell 4 = .ok (.iload_n 1, 1) := by decide +kernel
theorem dX3_hasCell_5 : decode cX3_hasCell 5 = .ok (.aload_n 0, 1) := by decide +kernel
theorem dX3_hasCell_6 : decode cX3_hasCell 6 = .ok (.getfield 19, 3) := by decide +kernel
theorem dX3_hasCell_9 : decode cX3_hasCell 9 = .ok (.if_icmp .ge 7, 3) := by decide +kernel
theorem dX3_hasCell_12 : decode cX3_hasCell 12 = .ok (.iconst 1, 1) := by decide +kernel
theorem dX3_hasCell_13 : decode cX3_hasCell 13 = .ok (.goto 4, 3) := by decide +kernel
theorem dX3_hasCell_16 : decode cX3_hasCell 16 = .ok (.iconst 0, 1) := by decide +kernel
theorem dX3_hasCell_17 : decode cX3_hasCell 17 = .ok (.ireturn, 1) := by decide +kernel
theorem dX3_hasCells_0 : decode cX3_hasCells 0 = .ok (.iload_n 2, 1) := by decide +kernel
theorem dX3_hasCells_1 : decode cX3_hasCells 1 = .ok (.ifCond .lt 29, 3) := by decide +kernel
theorem dX3_hasCells_4 : decode cX3_hasCells 4 = .ok (.iload_n 1, 1) := by decide +kernel
theorem dX3_hasCells_5 : decode cX3_hasCells 5 = .ok (.ifCond .lt 25, 3) := by decide +kernel
theorem dX3_hasCells_8 : decode cX3_hasCells 8 = .ok (.iload_n 1, 1) := by decide +kernel
theorem dX3_hasCells_9 : decode cX3_hasCells 9 = .ok (.aload_n 0, 1) := by decide +kernel
theorem dX3_hasCells_10 : decode cX3_hasCells 10 = .ok (.getfield 19, 3) := by decide +kernel
theorem dX3_hasCells_13 : decode cX3_hasCells 13 = .ok (.if_icmp .gt 17, 3) := by decide +kernel
theorem dX3_hasCells_16 : decode cX3_hasCells 16 = .ok (.iload_n 2, 1) := by decide +kernel
theorem dX3_hasCells_17 : decode cX3_hasCells 17 = .ok (.aload_n 0, 1) := by decide +kernel
theorem dX3_hasCells_18 : decode cX3_hasCells 18 = .ok (.getfield 19, 3) := by decide +kernel
theorem dX3_hasCells_21 : decode cX3_hasCells 21 = .ok (.iload_n 1, 1) := by decide +kernel
theorem dX3_hasCells_22 : decode cX3_hasCells 22 = .ok (.isub, 1) := by decide +kernel
theorem dX3_hasCells_23 : decode cX3_hasCells 23 = .ok (.if_icmp .gt 7, 3) := by decide +kernel
theorem dX3_hasCells_26 : decode cX3_hasCells 26 = .ok (.iconst 1, 1) := by decide +kernel
theorem dX3_hasCells_27 : decode cX3_hasCells 27 = .ok (.goto 4, 3) := by decide +kernel
theorem dX3_hasCells_30 : decode cX3_hasCells 30 = .ok (.iconst 0, 1) := by decide +kernel
theorem dX3_hasCells_31 : decode cX3_hasCells 31 = .ok (.ireturn, 1) := by decide +kernel
theorem dX3_write_0 : decode cX3_write 0 = .ok (.aload_n 0, 1) := by decide +kernel
theorem dX3_write_1 : decode cX3_write 1 = .ok (.getfield 9, 3) := by decide +kernel
theorem dX3_write_4 : decode cX3_write 4 = .ok (.ifCond .ne 14, 3) := by decide +kernel
theorem dX3_write_7 : decode cX3_write 7 = .ok (.aload_n 0, 1) := by decide +kernel
theorem dX3_write_8 : decode cX3_write 8 = .ok (.getfield 15, 3) := by decide +kernel
theorem dX3_write_11 : decode cX3_write 11 = .ok (.iload_n 1, 1) := by decide +kernel
theorem dX3_write_12 : decode cX3_write 12 = .ok (.iload_n 2, 1) := by decide +kernel
theorem dX3_write_13 : decode cX3_write 13 = .ok (.i2b, 1) := by decide +kernel
theorem dX3_write_14 : decode cX3_write 14 = .ok (.iastore, 1) := by decide +kernel
theorem dX3_write_15 : decode cX3_write 15 = .ok (.goto 29, 3) := by decide +kernel
theorem dX3_write_18 : decode cX3_write 18 = .ok (.aload_n 0, 1) := by decide +kernel
theorem dX3_write_19 : decode cX3_write 19 = .ok (.getfield 9, 3) := by decide +kernel
theorem dX3_write_22 : decode cX3_write 22 = .ok (.iconst 1, 1) := by decide +kernel
theorem dX3_write_23 : decode cX3_write 23 = .ok (.if_icmp .ne 14, 3) := by decide +kernel
theorem dX3_write_26 : decode cX3_write 26 = .ok (.aload_n 0, 1) := by decide +kernel
theorem dX3_write_27 : decode cX3_write 27 = .ok (.getfield 15, 3) := by decide +kernel
theorem dX3_write_30 : decode cX3_write 30 = .ok (.iload_n 1, 1) := by decide +kernel
theorem dX3_write_31 : decode cX3_write 31 = .ok (.iload_n 2, 1) := by decide +kernel
theorem dX3_write_32 : decode cX3_write 32 = .ok (.i2s, 1) := by decide +kernel
theorem dX3_write_33 : decode cX3_write 33 = .ok (.iastore, 1) := by decide +kernel
theorem dX3_write_34 : decode cX3_write 34 = .ok (.goto 10, 3) := by decide +kernel
theorem dX3_write_37 : decode cX3_write 37 = .ok (.aload_n 0, 1) := by decide +kernel
theorem dX3_write_38 : decode cX3_write 38 = .ok (.getfield 15, 3) := by decide +kernel
theorem dX3_write_41 : decode cX3_write 41 = .ok (.iload_n 1, 1) := by decide +kernel
theorem dX3_write_42 : decode cX3_write 42 = .ok (.iload_n 2, 1) := by decide +kernel
theorem dX3_write_43 : decode cX3_write 43 = .ok (.iastore, 1) := by decide +kernel
theorem dX3_write_44 : decode cX3_write 44 = .ok (.return_, 1) := by decide +kernel
theorem dX4_init_0 : decode cX4_init 0 = .ok (.aload_n 0, 1) := by decide +kernel
theorem dX4_init_1 : decode cX4_init 1 = .ok (.invokespecial 3, 3) := by decide +kernel
theorem dX4_init_4 : decode cX4_init 4 = .ok (.aload_n 0, 1) := by decide +kernel
theorem dX4_init_5 : decode cX4_init 5 = .ok (.bipush 18, 2) := by decide +kernel
theorem dX4_init_7 : decode cX4_init 7 = .ok (.newarray .int, 2) := by decide +kernel
theorem dX4_init_9 : decode cX4_init 9 = .ok (.putfield 9, 3) := by decide +kernel
theorem dX4_init_12 : decode cX4_init 12 = .ok (.aload_n 0, 1) := by decide +kernel
theorem dX4_init_13 : decode cX4_init 13 = .ok (.bipush 18, 2) := by decide +kernel
theorem dX4_init_15 : decode cX4_init 15 = .ok (.newarray .int, 2) := by decide +kernel
theorem dX4_init_17 : decode cX4_init 17 = .ok (.putfield 15, 3) := by decide +kernel
theorem dX4_init_20 : decode cX4_init 20 = .ok (.aload_n 0, 1) := by decide +kernel
theorem dX4_init_21 : decode cX4_init 21 = .ok (.bipush 19, 2) := by decide +kernel
theorem dX4_init_23 : decode cX4_init 23 = .ok (.newarray .int, 2) := by decide +kernel
theorem dX4_init_25 : decode cX4_init 25 = .ok (.putfield 18, 3) := by decide +kernel
theorem dX4_init_28 : decode cX4_init 28 = .ok (.aload_n 0, 1) := by decide +kernel
theorem dX4_init_29 : decode cX4_init 29 = .ok (.iconst 4, 1) := by decide +kernel
theorem dX4_init_30 : decode cX4_init 30 = .ok (.newarray .int, 2) := by decide +kernel
theorem dX4_init_32 : decode cX4_init 32 = .ok (.putfield 21, 3) := by decide +kernel
theorem dX4_init_35 : decode cX4_init 35 = .ok (.aload_n 0, 1) := by decide +kernel
theorem dX4_init_36 : decode cX4_init 36 = .ok (.bipush (-9), 2) := by decide +kernel
theorem dX4_init_38 : decode cX4_init 38 = .ok (.putfield 24, 3) := by decide +kernel
theorem dX4_init_41 : decode cX4_init 41 = .ok (.aload_n 0, 1) := by decide +kernel
theorem dX4_init_42 : decode cX4_init 42 = .ok (.lconst 1, 1) := by decide +kernel
theorem dX4_init_43 : decode cX4_init 43 = .ok (.putfield 28, 3) := by decide +kernel
theorem dX4_init_46 : decode cX4_init 46 = .ok (.aload_n 0, 1) := by decide +kernel
theorem dX4_init_47 : decode cX4_init 47 = .ok (.lconst 1, 1) := by decide +kernel
theorem dX4_init_48 : decode cX4_init 48 = .ok (.putfield 32, 3) := by decide +kernel
theorem dX4_init_51 : decode cX4_init 51 = .ok (.return_, 1) := by decide +kernel
theorem dX4_add_0 : decode cX4_add 0 = .ok (.aload_n 0, 1) := by decide +kernel
theorem dX4_add_1 : decode cX4_add 1 = .ok (.getfield 35, 3) := by decide +kernel
theorem dX4_add_4 : decode cX4_add 4 = .ok (.bipush 18, 2) := by decide +kernel
theorem dX4_add_6 : decode cX4_add 6 = .ok (.if_icmp .ge 33, 3) := by decide +kernel
theorem dX4_add_9 : decode cX4_add 9 = .ok (.aload_n 0, 1) := by decide +kernel
theorem dX4_add_10 : decode cX4_add 10 = .ok (.getfield 9, 3) := by decide +kernel
theorem dX4_add_13 : decode cX4_add 13 = .ok (.aload_n 0, 1) := by decide +kernel
theorem dX4_add_14 : decode cX4_add 14 = .ok (.getfield 35, 3) := by decide +kernel
theorem dX4_add_17 : decode cX4_add 17 = .ok (.iload_n 1, 1) := by decide +kernel
theorem dX4_add_18 : decode cX4_add 18 = .ok (.iastore, 1) := by decide +kernel
theorem dX4_add_19 : decode cX4_add 19 = .ok (.aload_n 0, 1) := by decide +kernel
theorem dX4_add_20 : decode cX4_add 20 = .ok (.getfield 15, 3) := by decide +kernel
theorem dX4_add_23 : decode cX4_add 23 = .ok (.aload_n 0, 1) := by decide +kernel
theorem dX4_add_24 : decode cX4_add 24 = .ok (.getfield 35, 3) := by decide +kernel
theorem dX4_add_27 : decode cX4_add 27 = .ok (.iload_n 2, 1) := by decide +kernel
theorem dX4_add_28 : decode cX4_add 28 = .ok (.iastore, 1) := by decide +kernel
theorem dX4_add_29 : decode cX4_add 29 = .ok (.aload_n 0, 1) := by decide +kernel
theorem dX4_add_30 : decode cX4_add 30 = .ok (.dup, 1) := by decide +kernel
theorem dX4_add_31 : decode cX4_add 31 = .ok (.getfield 35, 3) := by decide +kernel
theorem dX4_add_34 : decode cX4_add 34 = .ok (.iconst 1, 1) := by decide +kernel
theorem dX4_add_35 : decode cX4_add 35 = .ok (.iadd, 1) := by decide +kernel
theorem dX4_add_36 : decode cX4_add 36 = .ok (.putfield 35, 3) := by decide +kernel
theorem dX4_add_39 : decode cX4_add 39 = .ok (.return_, 1) := by decide +kernel
theorem dX4_go_0 : decode cX4_go 0 = .ok (.aload_n 0, 1) := by decide +kernel
theorem dX4_go_1 : decode cX4_go 1 = .ok (.iconst 0, 1) := by decide +kernel
theorem dX4_go_2 : decode cX4_go 2 = .ok (.putfield 38, 3) := by decide +kernel
theorem dX4_go_5 : decode cX4_go 5 = .ok (.aload_n 0, 1) := by decide +kernel
theorem dX4_go_6 : decode cX4_go 6 = .ok (.bipush (-9), 2) := by decide +kernel
theorem dX4_go_8 : decode cX4_go 8 = .ok (.putfield 24, 3) := by decide +kernel
theorem dX4_go_11 : decode cX4_go 11 = .ok (.aload_n 0, 1) := by decide +kernel
theorem dX4_go_12 : decode cX4_go 12 = .ok (.lconst 1, 1) := by decide +kernel
theorem dX4_go_13 : decode cX4_go 13 = .ok (.putfield 28, 3) := by decide +kernel
theorem dX4_go_16 : decode cX4_go 16 = .ok (.aload_n 0, 1) := by decide +kernel
theorem dX4_go_17 : decode cX4_go 17 = .ok (.lconst 1, 1) := by decide +kernel
theorem dX4_go_18 : decode cX4_go 18 = .ok (.putfield 32, 3) := by decide +kernel
theorem dX4_go_21 : decode cX4_go 21 = .ok (.aload_n 0, 1) := by decide +kernel
theorem dX4_go_22 : decode cX4_go 22 = .ok (.getfield 21, 3) := by decide +kernel
theorem dX4_go_25 : decode cX4_go 25 = .ok (.iconst 0, 1) := by decide +kernel
theorem dX4_go_26 : decode cX4_go 26 = .ok (.invokestatic 41, 3) := by decide +kernel
theorem dX4_go_29 : decode cX4_go 29 = .ok (.aload_n 0, 1) := by decide +kernel
theorem dX4_go_30 : decode cX4_go 30 = .ok (.getfield 21, 3) := by decide +kernel
theorem dX4_go_33 : decode cX4_go 33 = .ok (.iconst 0, 1) := by decide +kernel
theorem dX4_go_34 : decode cX4_go 34 = .ok (.iconst 1, 1) := by decide +kernel
theorem dX4_go_35 : decode cX4_go 35 = .ok (.aload_n 1, 1) := by decide +kernel
theorem dX4_go_36 : decode cX4_go 36 = .ok (.getfield 47, 3) := by decide +kernel
theorem dX4_go_39 : decode cX4_go 39 = .ok (.ishl, 1) := by decide +kernel
theorem dX4_go_40 : decode cX4_go 40 = .ok (.iconst 1, 1) := by decide +kernel
theorem dX4_go_41 : decode cX4_go 41 = .ok (.isub, 1) := by decide +kernel
theorem dX4_go_42 : decode cX4_go 42 = .ok (.iastore, 1) := by decide +kernel
theorem dX4_go_43 : decode cX4_go 43 = .ok (.iconst 0, 1) := by decide +kernel
theorem dX4_go_44 : decode cX4_go 44 = .ok (.istore_n 2, 1) := by decide +kernel
theorem dX4_go_45 : decode cX4_go 45 = .ok (.iload_n 2, 1) := by decide +kernel
theorem dX4_go_46 : decode cX4_go 46 = .ok (.aload_n 0, 1) := by decide +kernel
theorem dX4_go_47 : decode cX4_go 47 = .ok (.getfield 35, 3) := by decide +kernel
theorem dX4_go_50 : decode cX4_go 50 = .ok (.if_icmp .ge 30, 3) := by decide +kernel
theorem dX4_go_53 : decode cX4_go 53 = .ok (.aload_n 0, 1) := by decide +kernel
theorem dX4_go_54 : decode cX4_go 54 = .ok (.aload_n 1, 1) := by decide +kernel
theorem dX4_go_55 : decode cX4_go 55 = .ok (.iload_n 2, 1) := by decide +kernel
theorem dX4_go_56 : decode cX4_go 56 = .ok (.invokevirtual 52, 3) := by decide +kernel
theorem dX4_go_59 : decode cX4_go 59 = .ok (.ifCond .ne 9, 3) := by decide +kernel
theorem dX4_go_62 : decode cX4_go 62 = .ok (.aload_n 0, 1) := by decide +kernel
theorem dX4_go_63 : decode cX4_go 63 = .ok (.iload_n 2, 1) := by decide +kernel
theorem dX4_go_64 : decode cX4_go 64 = .ok (.putfield 24, 3) := by decide +kernel
theorem dX4_go_67 : decode cX4_go 67 = .ok (.return_, 1) := by decide +kernel
theorem dX4_go_68 : decode cX4_go 68 = .ok (.aload_n 0, 1) := by decide +kernel
theorem dX4_go_69 : decode cX4_go 69 = .ok (.aload_n 1, 1) := by decide +kernel
theorem dX4_go_70 : decode cX4_go 70 = .ok (.iload_n 2, 1) := by decide +kernel
theorem dX4_go_71 : decode cX4_go 71 = .ok (.invokevirtual 56, 3) := by decide +kernel
theorem dX4_go_74 : decode cX4_go 74 = .ok (.iinc 2 1, 3) := by decide +kernel
theorem dX4_go_77 : decode cX4_go 77 = .ok (.goto (-32), 3) := by decide +kernel
theorem dX4_go_80 : decode cX4_go 80 = .ok (.aload_n 0, 1) := by decide +kernel
theorem dX4_go_81 : decode cX4_go 81 = .ok (.invokevirtual 60, 3) := by decide +kernel
theorem dX4_go_84 : decode cX4_go 84 = .ok (.return_, 1) := by decide +kernel
theorem dX4_canGo_0 : decode cX4_canGo 0 = .ok (.aload_n 0, 1) := by decide +kernel
theorem dX4_canGo_1 : decode cX4_canGo 1 = .ok (.getfield 15, 3) := by decide +kernel
theorem dX4_canGo_4 : decode cX4_canGo 4 = .ok (.iload_n 2, 1) := by decide +kernel
theorem dX4_canGo_5 : decode cX4_canGo 5 = .ok (.iaload, 1) := by decide +kernel
theorem dX4_canGo_6 : decode cX4_canGo 6 = .ok (.istore_n 3, 1) := by decide +kernel
theorem dX4_canGo_7 : decode cX4_canGo 7 = .ok (.aload_n 0, 1) := by decide +kernel
theorem dX4_canGo_8 : decode cX4_canGo 8 = .ok (.getfield 21, 3) := by decide +kernel
theorem dX4_canGo_11 : decode cX4_canGo 11 = .ok (.aload_n 0, 1) := by decide +kernel
theorem dX4_canGo_12 : decode cX4_canGo 12 = .ok (.getfield 38, 3) := by decide +kernel
theorem dX4_canGo_15 : decode cX4_canGo 15 = .ok (.iaload, 1) := by decide +kernel
theorem dX4_canGo_16 : decode cX4_canGo 16 = .ok (.iload_n 3, 1) := by decide +kernel
theorem dX4_canGo_17 : decode cX4_canGo 17 = .ok (.iconst (-1), 1) := by decide +kernel
theorem dX4_canGo_18 : decode cX4_canGo 18 = .ok (.ixor, 1) := by decide +kernel
theorem dX4_canGo_19 : decode cX4_canGo 19 = .ok (.iand, 1) := by decide +kernel
theorem dX4_canGo_20 : decode cX4_canGo 20 = .ok (.istore 4, 2) := by decide +kernel
theorem dX4_canGo_22 : decode cX4_canGo 22 = .ok (.aload_n 0, 1) := by decide +kernel
theorem dX4_canGo_23 : decode cX4_canGo 23 = .ok (.getfield 9, 3) := by decide +kernel
theorem dX4_canGo_26 : decode cX4_canGo 26 = .ok (.iload_n 2, 1) := by decide +kernel
theorem dX4_canGo_27 : decode cX4_canGo 27 = .ok (.iaload, 1) := by decide +kernel
theorem dX4_canGo_28 : decode cX4_canGo 28 = .ok (.aload_n 0, 1) := by decide +kernel
theorem dX4_canGo_29 : decode cX4_canGo 29 = .ok (.getfield 38, 3) := by decide +kernel
theorem dX4_canGo_32 : decode cX4_canGo 32 = .ok (.isub, 1) := by decide +kernel
theorem dX4_canGo_33 : decode cX4_canGo 33 = .ok (.invokestatic 63, 3) := by decide +kernel
theorem dX4_canGo_36 : decode cX4_canGo 36 = .ok (.iconst 1, 1) := by decide +kernel
theorem dX4_canGo_37 : decode cX4_canGo 37 = .ok (.if_icmp .ne 46, 3) := by decide +kernel
theorem dX4_canGo_40 : decode cX4_canGo 40 = .ok (.iload_n 3, 1) := by decide +kernel
theorem dX4_canGo_41 : decode cX4_canGo 41 = .ok (.aload_n 0, 1) := by decide +kernel
theorem dX4_canGo_42 : decode cX4_canGo 42 = .ok (.getfield 21, 3) := by decide +kernel
theorem dX4_canGo_45 : decode cX4_canGo 45 = .ok (.aload_n 0, 1) := by decide +kernel
theorem dX4_canGo_46 : decode cX4_canGo 46 = .ok (.getfield 38, 3) := by decide +kernel
theorem dX4_canGo_49 : decode cX4_canGo 49 = .ok (.iaload, 1) := by decide +kernel
theorem dX4_canGo_50 : decode cX4_canGo 50 = .ok (.iconst (-1), 1) := by decide +kernel
theorem dX4_canGo_51 : decode cX4_canGo 51 = .ok (.ixor, 1) := by decide +kernel
theorem dX4_canGo_52 : decode cX4_canGo 52 = .ok (.iand, 1) := by decide +kernel
theorem dX4_canGo_53 : decode cX4_canGo 53 = .ok (.ifCond .ne 30, 3) := by decide +kernel
theorem dX4_canGo_56 : decode cX4_canGo 56 = .ok (.aload_n 1, 1) := by decide +kernel
theorem dX4_canGo_57 : decode cX4_canGo 57 = .ok (.iload_n 3, 1) := by decide +kernel
theorem dX4_canGo_58 : decode cX4_canGo 58 = .ok (.invokevirtual 69, 3) := by decide +kernel
theorem dX4_canGo_61 : decode cX4_canGo 61 = .ok (.aload_n 1, 1) := by decide +kernel
theorem dX4_canGo_62 : decode cX4_canGo 62 = .ok (.getfield 72, 3) := by decide +kernel
theorem dX4_canGo_65 : decode cX4_canGo 65 = .ok (.if_icmp .gt 18, 3) := by decide +kernel
theorem dX4_canGo_68 : decode cX4_canGo 68 = .ok (.aload_n 1, 1) := by decide +kernel
theorem dX4_canGo_69 : decode cX4_canGo 69 = .ok (.iload 4, 2) := by decide +kernel
theorem dX4_canGo_71 : decode cX4_canGo 71 = .ok (.invokevirtual 75, 3) := by decide +kernel
theorem dX4_canGo_74 : decode cX4_canGo 74 = .ok (.iload 4, 2) := by decide +kernel
theorem dX4_canGo_76 : decode cX4_canGo 76 = .ok (.if_icmp .ne 7, 3) := by decide +kernel
theorem dX4_canGo_79 : decode cX4_canGo 79 = .ok (.iconst 1, 1) := by decide +kernel
theorem dX4_canGo_80 : decode cX4_canGo 80 = .ok (.goto 4, 3) := by decide +kernel
theorem dX4_canGo_83 : decode cX4_canGo 83 = .ok (.iconst 0, 1) := by decide +kernel
theorem dX4_canGo_84 : decode cX4_canGo 84 = .ok (.ireturn, 1) := by decide +kernel
theorem dX4_goOne_0 : decode cX4_goOne 0 = .ok (.aload_n 0, 1) := by decide +kernel
theorem dX4_goOne_1 : decode cX4_goOne 1 = .ok (.getfield 15, 3) := by decide +kernel
theorem dX4_goOne_4 : decode cX4_goOne 4 = .ok (.iload_n 2, 1) := by decide +kernel
theorem dX4_goOne_5 : decode cX4_goOne 5 = .ok (.iaload, 1) := by decide +kernel
theorem dX4_goOne_6 : decode cX4_goOne 6 = .ok (.istore_n 3, 1) := by decide +kernel
theorem dX4_goOne_7 : decode cX4_goOne 7 = .ok (.aload_n 0, 1) := by decide +kernel
theorem dX4_goOne_8 : decode cX4_goOne 8 = .ok (.getfield 38, 3) := by decide +kernel
theorem dX4_goOne_11 : decode cX4_goOne 11 = .ok (.aload_n 0, 1) := by decide +kernel
theorem dX4_goOne_12 : decode cX4_goOne 12 = .ok (.getfield 9, 3) := by decide +kernel
theorem dX4_goOne_15 : decode cX4_goOne 15 = .ok (.iload_n 2, 1) := by decide +kernel
theorem dX4_goOne_16 : decode cX4_goOne 16 = .ok (.iaload, 1) := by decide +kernel
theorem dX4_goOne_17 : decode cX4_goOne 17 = .ok (.invokestatic 78, 3) := by decide +kernel
theorem dX4_goOne_20 : decode cX4_goOne 20 = .ok (.istore 4, 2) := by decide +kernel
theorem dX4_goOne_22 : decode cX4_goOne 22 = .ok (.aload_n 1, 1) := by decide +kernel
theorem dX4_goOne_23 : decode cX4_goOne 23 = .ok (.aload_n 0, 1) := by decide +kernel
theorem dX4_goOne_24 : decode cX4_goOne 24 = .ok (.getfield 18, 3) := by decide +kernel
theorem dX4_goOne_27 : decode cX4_goOne 27 = .ok (.iload_n 2, 1) := by decide +kernel
theorem dX4_goOne_28 : decode cX4_goOne 28 = .ok (.iaload, 1) := by decide +kernel
theorem dX4_goOne_29 : decode cX4_goOne 29 = .ok (.invokevirtual 82, 3) := by decide +kernel
theorem dX4_goOne_32 : decode cX4_goOne 32 = .ok (.istore 5, 2) := by decide +kernel
theorem dX4_goOne_34 : decode cX4_goOne 34 = .ok (.aload_n 0, 1) := by decide +kernel
theorem dX4_goOne_35 : decode cX4_goOne 35 = .ok (.getfield 18, 3) := by decide +kernel
theorem dX4_goOne_38 : decode cX4_goOne 38 = .ok (.iload_n 2, 1) := by decide +kernel
theorem dX4_goOne_39 : decode cX4_goOne 39 = .ok (.iconst 1, 1) := by decide +kernel
theorem dX4_goOne_40 : decode cX4_goOne 40 = .ok (.iadd, 1) := by decide +kernel
theorem dX4_goOne_41 : decode cX4_goOne 41 = .ok (.aload_n 0, 1) := by decide +kernel
theorem dX4_goOne_42 : decode cX4_goOne 42 = .ok (.getfield 18, 3) := by decide +kernel
theorem dX4_goOne_45 : decode cX4_goOne 45 = .ok (.iload_n 2, 1) := by decide +kernel
theorem dX4_goOne_46 : decode cX4_goOne 46 = .ok (.iaload, 1) := by decide +kernel
theorem dX4_goOne_47 : decode cX4_goOne 47 = .ok (.aload_n 1, 1) := by decide +kernel
theorem dX4_goOne_48 : decode cX4_goOne 48 = .ok (.iload 4, 2) := by decide +kernel
theorem dX4_goOne_50 : decode cX4_goOne 50 = .ok (.aload_n 1, 1) := by decide +kernel
theorem dX4_goOne_51 : decode cX4_goOne 51 = .ok (.iload_n 3, 1) := by decide +kernel
theorem dX4_goOne_52 : decode cX4_goOne 52 = .ok (.invokevirtual 69, 3) := by decide +kernel
theorem dX4_goOne_55 : decode cX4_goOne 55 = .ok (.iload 5, 2) := by decide +kernel
theorem dX4_goOne_57 : decode cX4_goOne 57 = .ok (.invokevirtual 86, 3) := by decide +kernel
theorem dX4_goOne_60 : decode cX4_goOne 60 = .ok (.iadd, 1) := by decide +kernel
theorem dX4_goOne_61 : decode cX4_goOne 61 = .ok (.iastore, 1) := by decide +kernel
theorem dX4_goOne_62 : decode cX4_goOne 62 = .ok (.iload_n 3, 1) := by decide +kernel
theorem dX4_goOne_63 : decode cX4_goOne 63 = .ok (.ifCond .eq 36, 3) := by decide +kernel
theorem dX4_goOne_66 : decode cX4_goOne 66 = .ok (.aload_n 0, 1) := by decide +kernel
theorem dX4_goOne_67 : decode cX4_goOne 67 = .ok (.dup, 1) := by decide +kernel
theorem dX4_goOne_68 : decode cX4_goOne 68 = .ok (.getfield 28, 3) := by decide +kernel
theorem dX4_goOne_71 : decode cX4_goOne 71 = .ok (.bipush 10, 2) := by decide +kernel
theorem dX4_goOne_73 : decode cX4_goOne 73 = .ok (.aload_n 1, 1) := by decide +kernel
theorem dX4_goOne_74 : decode cX4_goOne 74 = .ok (.iload 4, 2) := by decide +kernel
theorem dX4_goOne_76 : decode cX4_goOne 76 = .ok (.iload 5, 2) := by decide +kernel
theorem dX4_goOne_78 : decode cX4_goOne 78 = .ok (.invokevirtual 90, 3) := by decide +kernel
theorem dX4_goOne_81 : decode cX4_goOne 81 = .ok (.isub, 1) := by decide +kernel
theorem dX4_goOne_82 : decode cX4_goOne 82 = .ok (.i2l, 1) := by decide +kernel
theorem dX4_goOne_83 : decode cX4_goOne 83 = .ok (.lmul, 1) := by decide +kernel
theorem dX4_goOne_84 : decode cX4_goOne 84 = .ok (.putfield 28, 3) := by decide +kernel
theorem dX4_goOne_87 : decode cX4_goOne 87 = .ok (.aload_n 0, 1) := by decide +kernel
theorem dX4_goOne_88 : decode cX4_goOne 88 = .ok (.dup, 1) := by decide +kernel
theorem dX4_goOne_89 : decode cX4_goOne 89 = .ok (.getfield 32, 3) := by decide +kernel
theorem dX4_goOne_92 : decode cX4_goOne 92 = .ok (.ldc2_w 94, 3) := by decide +kernel
theorem dX4_goOne_95 : decode cX4_goOne 95 = .ok (.lmul, 1) := by decide +kernel
theorem dX4_goOne_96 : decode cX4_goOne 96 = .ok (.putfield 32, 3) := by decide +kernel
theorem dX4_goOne_99 : decode cX4_goOne 99 = .ok (.aload_n 0, 1) := by decide +kernel
theorem dX4_goOne_100 : decode cX4_goOne 100 = .ok (.getfield 21, 3) := by decide +kernel
theorem dX4_goOne_103 : decode cX4_goOne 103 = .ok (.aload_n 0, 1) := by decide +kernel
theorem dX4_goOne_104 : decode cX4_goOne 104 = .ok (.getfield 38, 3) := by decide +kernel
theorem dX4_goOne_107 : decode cX4_goOne 107 = .ok (.dup2, 1) := by decide +kernel
theorem dX4_goOne_108 : decode cX4_goOne 108 = .ok (.iaload, 1) := by decide +kernel
theorem dX4_goOne_109 : decode cX4_goOne 109 = .ok (.iload_n 3, 1) := by decide +kernel
theorem dX4_goOne_110 : decode cX4_goOne 110 = .ok (.iconst (-1), 1) := by decide +kernel
theorem dX4_goOne_111 : decode cX4_goOne 111 = .ok (.ixor, 1) := by decide +kernel
theorem dX4_goOne_112 : decode cX4_goOne 112 = .ok (.iand, 1) := by decide +kernel
theorem dX4_goOne_113 : decode cX4_goOne 113 = .ok (.iastore, 1) := by decide +kernel
theorem dX4_goOne_114 : decode cX4_goOne 114 = .ok (.aload_n 0, 1) := by decide +kernel
theorem dX4_goOne_115 : decode cX4_goOne 115 = .ok (.aload_n 0, 1) := by decide +kernel
theorem dX4_goOne_116 : decode cX4_goOne 116 = .ok (.getfield 9, 3) := by decide +kernel
theorem dX4_goOne_119 : decode cX4_goOne 119 = .ok (.iload_n 2, 1) := by decide +kernel
theorem dX4_goOne_120 : decode cX4_goOne 120 = .ok (.iaload, 1) := by decide +kernel
theorem dX4_goOne_121 : decode cX4_goOne 121 = .ok (.putfield 38, 3) := by decide +kernel
theorem dX4_goOne_124 : decode cX4_goOne 124 = .ok (.aload_n 0, 1) := by decide +kernel
theorem dX4_goOne_125 : decode cX4_goOne 125 = .ok (.getfield 21, 3) := by decide +kernel
theorem dX4_goOne_128 : decode cX4_goOne 128 = .ok (.aload_n 0, 1) := by decide +kernel
theorem dX4_goOne_129 : decode cX4_goOne 129 = .ok (.getfield 38, 3) := by decide +kernel
theorem dX4_goOne_132 : decode cX4_goOne 132 = .ok (.dup2, 1) := by decide +kernel
theorem dX4_goOne_133 : decode cX4_goOne 133 = .ok (.iaload, 1) := by decide +kernel
theorem dX4_goOne_134 : decode cX4_goOne 134 = .ok (.iload_n 3, 1) := by decide +kernel
theorem dX4_goOne_135 : decode cX4_goOne 135 = .ok (.ior, 1) := by decide +kernel
theorem dX4_goOne_136 : decode cX4_goOne 136 = .ok (.iastore, 1) := by decide +kernel
theorem dX4_goOne_137 : decode cX4_goOne 137 = .ok (.return_, 1) := by decide +kernel
theorem dX4_cutShare_0 : decode cX4_cutShare 0 = .ok (.aload_n 0, 1) := by decide +kernel
theorem dX4_cutShare_1 : decode cX4_cutShare 1 = .ok (.getfield 32, 3) := by decide +kernel
theorem dX4_cutShare_4 : decode cX4_cutShare 4 = .ok (.lstore_n 1, 1) := by decide +kernel
theorem dX4_cutShare_5 : decode cX4_cutShare 5 = .ok (.aload_n 0, 1) := by decide +kernel
theorem dX4_cutShare_6 : decode cX4_cutShare 6 = .ok (.getfield 28, 3) := by decide +kernel
theorem dX4_cutShare_9 : decode cX4_cutShare 9 = .ok (.lstore_n 3, 1) := by decide +kernel
theorem dX4_cutShare_10 : decode cX4_cutShare 10 = .ok (.iconst 0, 1) := by decide +kernel
theorem dX4_cutShare_11 : decode cX4_cutShare 11 = .ok (.istore 5, 2) := by decide +kernel
theorem dX4_cutShare_13 : decode cX4_cutShare 13 = .ok (.iload 5, 2) := by decide +kernel
theorem dX4_cutShare_15 : decode cX4_cutShare 15 = .ok (.bipush 100, 2) := by decide +kernel
theorem dX4_cutShare_17 : decode cX4_cutShare 17 = .ok (.if_icmp .ge 25, 3) := by decide +kernel
theorem dX4_cutShare_20 : decode cX4_cutShare 20 = .ok (.lload_n 3, 1) := by decide +kernel
theorem dX4_cutShare_21 : decode cX4_cutShare 21 = .ok (.lconst 0, 1) := by decide +kernel
theorem dX4_cutShare_22 : decode cX4_cutShare 22 = .ok (.lcmp, 1) := by decide +kernel
theorem dX4_cutShare_23 : decode cX4_cutShare 23 = .ok (.ifCond .eq 19, 3) := by decide +kernel
theorem dX4_cutShare_26 : decode cX4_cutShare 26 = .ok (.lload_n 1, 1) := by decide +kernel
theorem dX4_cutShare_27 : decode cX4_cutShare 27 = .ok (.lload_n 3, 1) := by decide +kernel
theorem dX4_cutShare_28 : decode cX4_cutShare 28 = .ok (.lrem, 1) := by decide +kernel
theorem dX4_cutShare_29 : decode cX4_cutShare 29 = .ok (.lstore 6, 2) := by decide +kernel
theorem dX4_cutShare_31 : decode cX4_cutShare 31 = .ok (.lload_n 3, 1) := by decide +kernel
theorem dX4_cutShare_32 : decode cX4_cutShare 32 = .ok (.lstore_n 1, 1) := by decide +kernel
theorem dX4_cutShare_33 : decode cX4_cutShare 33 = .ok (.lload 6, 2) := by decide +kernel
theorem dX4_cutShare_35 : decode cX4_cutShare 35 = .ok (.lstore_n 3, 1) := by decide +kernel
theorem dX4_cutShare_36 : decode cX4_cutShare 36 = .ok (.iinc 5 1, 3) := by decide +kernel
theorem dX4_cutShare_39 : decode cX4_cutShare 39 = .ok (.goto (-26), 3) := by decide +kernel
theorem dX4_cutShare_42 : decode cX4_cutShare 42 = .ok (.lload_n 1, 1) := by decide +kernel
theorem dX4_cutShare_43 : decode cX4_cutShare 43 = .ok (.lconst 1, 1) := by decide +kernel
theorem dX4_cutShare_44 : decode cX4_cutShare 44 = .ok (.lcmp, 1) := by decide +kernel
theorem dX4_cutShare_45 : decode cX4_cutShare 45 = .ok (.ifCond .le 23, 3) := by decide +kernel
theorem dX4_cutShare_48 : decode cX4_cutShare 48 = .ok (.aload_n 0, 1) := by decide +kernel
theorem dX4_cutShare_49 : decode cX4_cutShare 49 = .ok (.dup, 1) := by decide +kernel
theorem dX4_cutShare_50 : decode cX4_cutShare 50 = .ok (.getfield 28, 3) := by decide +kernel
theorem dX4_cutShare_53 : decode cX4_cutShare 53 = .ok (.lload_n 1, 1) := by decide +kernel
theorem dX4_cutShare_54 : decode cX4_cutShare 54 = .ok (.ldiv, 1) := by decide +kernel
theorem dX4_cutShare_55 : decode cX4_cutShare 55 = .ok (.putfield 28, 3) := by decide +kernel
theorem dX4_cutShare_58 : decode cX4_cutShare 58 = .ok (.aload_n 0, 1) := by decide +kernel
theorem dX4_cutShare_59 : decode cX4_cutShare 59 = .ok (.dup, 1) := by decide +kernel
theorem dX4_cutShare_60 : decode cX4_cutShare 60 = .ok (.getfield 32, 3) := by decide +kernel
theorem dX4_cutShare_63 : decode cX4_cutShare 63 = .ok (.lload_n 1, 1) := by decide +kernel
theorem dX4_cutShare_64 : decode cX4_cutShare 64 = .ok (.ldiv, 1) := by decide +kernel
theorem dX4_cutShare_65 : decode cX4_cutShare 65 = .ok (.putfield 32, 3) := by decide +kernel
theorem dX4_cutShare_68 : decode cX4_cutShare 68 = .ok (.return_, 1) := by decide +kernel
theorem dX4_minutes_0 : decode cX4_minutes 0 = .ok (.aload_n 0, 1) := by decide +kernel
theorem dX4_minutes_1 : decode cX4_minutes 1 = .ok (.getfield 18, 3) := by decide +kernel
theorem dX4_minutes_4 : decode cX4_minutes 4 = .ok (.aload_n 0, 1) := by decide +kernel
theorem dX4_minutes_5 : decode cX4_minutes 5 = .ok (.getfield 35, 3) := by decide +kernel
theorem dX4_minutes_8 : decode cX4_minutes 8 = .ok (.iaload, 1) := by decide +kernel
theorem dX4_minutes_9 : decode cX4_minutes 9 = .ok (.ireturn, 1) := by decide +kernel
theorem dX4_thingsAt_0 : decode cX4_thingsAt 0 = .ok (.aload_n 0, 1) := by decide +kernel
theorem dX4_thingsAt_1 : decode cX4_thingsAt 1 = .ok (.getfield 21, 3) := by decide +kernel
theorem dX4_thingsAt_4 : decode cX4_thingsAt 4 = .ok (.iload_n 1, 1) := by decide +kernel
theorem dX4_thingsAt_5 : decode cX4_thingsAt 5 = .ok (.iaload, 1) := by decide +kernel
theorem dX4_thingsAt_6 : decode cX4_thingsAt 6 = .ok (.ireturn, 1) := by decide +kernel
theorem dX4_spotOf_0 : decode cX4_spotOf 0 = .ok (.iconst 0, 1) := by decide +kernel
theorem dX4_spotOf_1 : decode cX4_spotOf 1 = .ok (.istore_n 3, 1) := by decide +kernel
theorem dX4_spotOf_2 : decode cX4_spotOf 2 = .ok (.iconst 0, 1) := by decide +kernel
theorem dX4_spotOf_3 : decode cX4_spotOf 3 = .ok (.istore 4, 2) := by decide +kernel
theorem dX4_spotOf_5 : decode cX4_spotOf 5 = .ok (.iload 4, 2) := by decide +kernel
theorem dX4_spotOf_7 : decode cX4_spotOf 7 = .ok (.aload_n 0, 1) := by decide +kernel
theorem dX4_spotOf_8 : decode cX4_spotOf 8 = .ok (.getfield 35, 3) := by decide +kernel
theorem dX4_spotOf_11 : decode cX4_spotOf 11 = .ok (.if_icmp .ge 58, 3) := by decide +kernel
theorem dX4_spotOf_14 : decode cX4_spotOf 14 = .ok (.aload_n 0, 1) := by decide +kernel
theorem dX4_spotOf_15 : decode cX4_spotOf 15 = .ok (.getfield 18, 3) := by decide +kernel
theorem dX4_spotOf_18 : decode cX4_spotOf 18 = .ok (.iload 4, 2) := by decide +kernel
theorem dX4_spotOf_20 : decode cX4_spotOf 20 = .ok (.iaload, 1) := by decide +kernel
theorem dX4_spotOf_21 : decode cX4_spotOf 21 = .ok (.iload_n 2, 1) := by decide +kernel
theorem dX4_spotOf_22 : decode cX4_spotOf 22 = .ok (.if_icmp .gt 47, 3) := by decide +kernel
theorem dX4_spotOf_25 : decode cX4_spotOf 25 = .ok (.aload_n 0, 1) := by decide +kernel
theorem dX4_spotOf_26 : decode cX4_spotOf 26 = .ok (.getfield 15, 3) := by decide +kernel
theorem dX4_spotOf_29 : decode cX4_spotOf 29 = .ok (.iload 4, 2) := by decide +kernel
theorem dX4_spotOf_31 : decode cX4_spotOf 31 = .ok (.iaload, 1) := by decide +kernel
theorem dX4_spotOf_32 : decode cX4_spotOf 32 = .ok (.iload_n 1, 1) := by decide +kernel
theorem dX4_spotOf_33 : decode cX4_spotOf 33 = .ok (.invokestatic 96, 3) := by decide +kernel
theorem dX4_spotOf_36 : decode cX4_spotOf 36 = .ok (.ifCond .eq 27, 3) := by decide +kernel
theorem dX4_spotOf_39 : decode cX4_spotOf 39 = .ok (.iload_n 2, 1) := by decide +kernel
theorem dX4_spotOf_40 : decode cX4_spotOf 40 = .ok (.aload_n 0, 1) := by decide +kernel
theorem dX4_spotOf_41 : decode cX4_spotOf 41 = .ok (.getfield 18, 3) := by decide +kernel
theorem dX4_spotOf_44 : decode cX4_spotOf 44 = .ok (.iload 4, 2) := by decide +kernel
theorem dX4_spotOf_46 : decode cX4_spotOf 46 = .ok (.iconst 1, 1) := by decide +kernel
theorem dX4_spotOf_47 : decode cX4_spotOf 47 = .ok (.iadd, 1) := by decide +kernel
theorem dX4_spotOf_48 : decode cX4_spotOf 48 = .ok (.iaload, 1) := by decide +kernel
theorem dX4_spotOf_49 : decode cX4_spotOf 49 = .ok (.if_icmp .ge 6, 3) := by decide +kernel
theorem dX4_spotOf_52 : decode cX4_spotOf 52 = .ok (.bipush (-9), 2) := by decide +kernel
theorem dX4_spotOf_54 : decode cX4_spotOf 54 = .ok (.ireturn, 1) := by decide +kernel
theorem dX4_spotOf_55 : decode cX4_spotOf 55 = .ok (.aload_n 0, 1) := by decide +kernel
theorem dX4_spotOf_56 : decode cX4_spotOf 56 = .ok (.getfield 9, 3) := by decide +kernel
theorem dX4_spotOf_59 : decode cX4_spotOf 59 = .ok (.iload 4, 2) := by decide +kernel
theorem dX4_spotOf_61 : decode cX4_spotOf 61 = .ok (.iaload, 1) := by decide +kernel
theorem dX4_spotOf_62 : decode cX4_spotOf 62 = .ok (.istore_n 3, 1) := by decide +kernel
theorem dX4_spotOf_63 : decode cX4_spotOf 63 = .ok (.iinc 4 1, 3) := by decide +kernel
theorem dX4_spotOf_66 : decode cX4_spotOf 66 = .ok (.goto (-61), 3) := by decide +kernel
theorem dX4_spotOf_69 : decode cX4_spotOf 69 = .ok (.iload_n 3, 1) := by decide +kernel
theorem dX4_spotOf_70 : decode cX4_spotOf 70 = .ok (.ireturn, 1) := by decide +kernel
theorem dJ7_fill_53178_0 : decode cJ7_fill_53178 0 = .ok (.iconst 0, 1) := by decide +kernel
theorem dJ7_fill_53178_1 : decode cJ7_fill_53178 1 = .ok (.istore_n 2, 1) := by decide +kernel
theorem dJ7_fill_53178_2 : decode cJ7_fill_53178 2 = .ok (.aload_n 0, 1) := by decide +kernel
theorem dJ7_fill_53178_3 : decode cJ7_fill_53178 3 = .ok (.arraylength, 1) := by decide +kernel
theorem dJ7_fill_53178_4 : decode cJ7_fill_53178 4 = .ok (.istore_n 3, 1) := by decide +kernel
theorem dJ7_fill_53178_5 : decode cJ7_fill_53178 5 = .ok (.iload_n 2, 1) := by decide +kernel
theorem dJ7_fill_53178_6 : decode cJ7_fill_53178 6 = .ok (.iload_n 3, 1) := by decide +kernel
theorem dJ7_fill_53178_7 : decode cJ7_fill_53178 7 = .ok (.if_icmp .ge 13, 3) := by decide +kernel
theorem dJ7_fill_53178_10 : decode cJ7_fill_53178 10 = .ok (.aload_n 0, 1) := by decide +kernel
theorem dJ7_fill_53178_11 : decode cJ7_fill_53178 11 = .ok (.iload_n 2, 1) := by decide +kernel
theorem dJ7_fill_53178_12 : decode cJ7_fill_53178 12 = .ok (.iload_n 1, 1) := by decide +kernel
theorem dJ7_fill_53178_13 : decode cJ7_fill_53178 13 = .ok (.iastore, 1) := by decide +kernel
theorem dJ7_fill_53178_14 : decode cJ7_fill_53178 14 = .ok (.iinc 2 1, 3) := by decide +kernel
theorem dJ7_fill_53178_17 : decode cJ7_fill_53178 17 = .ok (.goto (-12), 3) := by decide +kernel
theorem dJ7_fill_53178_20 : decode cJ7_fill_53178 20 = .ok (.return_, 1) := by decide +kernel
