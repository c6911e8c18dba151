theorem dX9_init_0 : decode cX9_init 0 = .ok (.aload_n 0, 1) := by decide +kernel
theorem dX9_init_1 : decode cX9_init 1 = .ok (.invokespecial 3, 3) := by decide +kernel
theorem dX9_init_4 : decode cX9_init 4 = .ok (.aload_n 0, 1) := by decide +kernel
theorem dX9_init_5 : decode cX9_init 5 = .ok (.iconst 0, 1) := by decide +kernel
theorem dX9_init_6 : decode cX9_init 6 = .ok (.putfield 9, 3) := by decide +kernel
theorem dX9_init_9 : decode cX9_init 9 = .ok (.aload_n 0, 1) := by decide +kernel
theorem dX9_init_10 : decode cX9_init 10 = .ok (.iconst 0, 1) := by decide +kernel
theorem dX9_init_11 : decode cX9_init 11 = .ok (.putfield 15, 3) := by decide +kernel
theorem dX9_init_14 : decode cX9_init 14 = .ok (.aload_n 0, 1) := by decide +kernel
theorem dX9_init_15 : decode cX9_init 15 = .ok (.bipush 6, 2) := by decide +kernel
theorem dX9_init_17 : decode cX9_init 17 = .ok (.newarray .int, 2) := by decide +kernel
theorem dX9_init_19 : decode cX9_init 19 = .ok (.putfield 18, 3) := by decide +kernel
theorem dX9_init_22 : decode cX9_init 22 = .ok (.aload_n 0, 1) := by decide +kernel
theorem dX9_init_23 : decode cX9_init 23 = .ok (.bipush 6, 2) := by decide +kernel
theorem dX9_init_25 : decode cX9_init 25 = .ok (.newarray .int, 2) := by decide +kernel
theorem dX9_init_27 : decode cX9_init 27 = .ok (.putfield 22, 3) := by decide +kernel
theorem dX9_init_30 : decode cX9_init 30 = .ok (.aload_n 0, 1) := by decide +kernel
theorem dX9_init_31 : decode cX9_init 31 = .ok (.bipush 6, 2) := by decide +kernel
theorem dX9_init_33 : decode cX9_init 33 = .ok (.newarray .int, 2) := by decide +kernel
theorem dX9_init_35 : decode cX9_init 35 = .ok (.putfield 25, 3) := by decide +kernel
theorem dX9_init_38 : decode cX9_init 38 = .ok (.aload_n 0, 1) := by decide +kernel
theorem dX9_init_39 : decode cX9_init 39 = .ok (.iconst 0, 1) := by decide +kernel
theorem dX9_init_40 : decode cX9_init 40 = .ok (.putfield 28, 3) := by decide +kernel
theorem dX9_init_43 : decode cX9_init 43 = .ok (.aload_n 0, 1) := by decide +kernel
theorem dX9_init_44 : decode cX9_init 44 = .ok (.iconst 5, 1) := by decide +kernel
theorem dX9_init_45 : decode cX9_init 45 = .ok (.newarray .int, 2) := by decide +kernel
theorem dX9_init_47 : decode cX9_init 47 = .ok (.putfield 31, 3) := by decide +kernel
theorem dX9_init_50 : decode cX9_init 50 = .ok (.aload_n 0, 1) := by decide +kernel
theorem dX9_init_51 : decode cX9_init 51 = .ok (.iconst 5, 1) := by decide +kernel
theorem dX9_init_52 : decode cX9_init 52 = .ok (.newarray .int, 2) := by decide +kernel
theorem dX9_init_54 : decode cX9_init 54 = .ok (.putfield 34, 3) := by decide +kernel
theorem dX9_init_57 : decode cX9_init 57 = .ok (.aload_n 0, 1) := by decide +kernel
theorem dX9_init_58 : decode cX9_init 58 = .ok (.iconst 0, 1) := by decide +kernel
theorem dX9_init_59 : decode cX9_init 59 = .ok (.putfield 37, 3) := by decide +kernel
theorem dX9_init_62 : decode cX9_init 62 = .ok (.aload_n 0, 1) := by decide +kernel
theorem dX9_init_63 : decode cX9_init 63 = .ok (.bipush 10, 2) := by decide +kernel
theorem dX9_init_65 : decode cX9_init 65 = .ok (.newarray .int, 2) := by decide +kernel
theorem dX9_init_67 : decode cX9_init 67 = .ok (.putfield 40, 3) := by decide +kernel
theorem dX9_init_70 : decode cX9_init 70 = .ok (.aload_n 0, 1) := by decide +kernel
theorem dX9_init_71 : decode cX9_init 71 = .ok (.bipush 10, 2) := by decide +kernel
theorem dX9_init_73 : decode cX9_init 73 = .ok (.newarray .int, 2) := by decide +kernel
theorem dX9_init_75 : decode cX9_init 75 = .ok (.putfield 43, 3) := by decide +kernel
theorem dX9_init_78 : decode cX9_init 78 = .ok (.aload_n 0, 1) := by decide +kernel
theorem dX9_init_79 : decode cX9_init 79 = .ok (.bipush 10, 2) := by decide +kernel
theorem dX9_init_81 : decode cX9_init 81 = .ok (.newarray .int, 2) := by decide +kernel
theorem dX9_init_83 : decode cX9_init 83 = .ok (.putfield 46, 3) := by decide +kernel
theorem dX9_init_86 : decode cX9_init 86 = .ok (.aload_n 0, 1) := by decide +kernel
theorem dX9_init_87 : decode cX9_init 87 = .ok (.iconst 0, 1) := by decide +kernel
theorem dX9_init_88 : decode cX9_init 88 = .ok (.putfield 49, 3) := by decide +kernel
theorem dX9_init_91 : decode cX9_init 91 = .ok (.aload_n 0, 1) := by decide +kernel
theorem dX9_init_92 : decode cX9_init 92 = .ok (.bipush 6, 2) := by decide +kernel
theorem dX9_init_94 : decode cX9_init 94 = .ok (.newarray .int, 2) := by decide +kernel
theorem dX9_init_96 : decode cX9_init 96 = .ok (.putfield 52, 3) := by decide +kernel
theorem dX9_init_99 : decode cX9_init 99 = .ok (.aload_n 0, 1) := by decide +kernel
theorem dX9_init_100 : decode cX9_init 100 = .ok (.bipush 6, 2) := by decide +kernel
theorem dX9_init_102 : decode cX9_init 102 = .ok (.newarray .int, 2) := by decide +kernel
theorem dX9_init_104 : decode cX9_init 104 = .ok (.putfield 55, 3) := by decide +kernel
theorem dX9_init_107 : decode cX9_init 107 = .ok (.aload_n 0, 1) := by decide +kernel
theorem dX9_init_108 : decode cX9_init 108 = .ok (.bipush 6, 2) := by decide +kernel
theorem dX9_init_110 : decode cX9_init 110 = .ok (.newarray .int, 2) := by decide +kernel
theorem dX9_init_112 : decode cX9_init 112 = .ok (.putfield 58, 3) := by decide +kernel
theorem dX9_init_115 : decode cX9_init 115 = .ok (.aload_n 0, 1) := by decide +kernel
theorem dX9_init_116 : decode cX9_init 116 = .ok (.iconst 0, 1) := by decide +kernel
theorem dX9_init_117 : decode cX9_init 117 = .ok (.putfield 61, 3) := by decide +kernel
theorem dX9_init_120 : decode cX9_init 120 = .ok (.aload_n 0, 1) := by decide +kernel
theorem dX9_init_121 : decode cX9_init 121 = .ok (.new 64, 3) := by decide +kernel
theorem dX9_init_124 : decode cX9_init 124 = .ok (.dup, 1) := by decide +kernel
theorem dX9_init_125 : decode cX9_init 125 = .ok (.invokespecial 66, 3) := by decide +kernel
theorem dX9_init_128 : decode cX9_init 128 = .ok (.putfield 67, 3) := by decide +kernel
theorem dX9_init_131 : decode cX9_init 131 = .ok (.aload_n 0, 1) := by decide +kernel
theorem dX9_init_132 : decode cX9_init 132 = .ok (.new 64, 3) := by decide +kernel
theorem dX9_init_135 : decode cX9_init 135 = .ok (.dup, 1) := by decide +kernel
theorem dX9_init_136 : decode cX9_init 136 = .ok (.invokespecial 66, 3) := by decide +kernel
theorem dX9_init_139 : decode cX9_init 139 = .ok (.putfield 71, 3) := by decide +kernel
theorem dX9_init_142 : decode cX9_init 142 = .ok (.return_, 1) := by decide +kernel
theorem dX9_clear_0 : decode cX9_clear 0 = .ok (.aload_n 0, 1) := by decide +kernel
theorem dX9_clear_1 : decode cX9_clear 1 = .ok (.iconst 0, 1) := by decide +kernel
theorem dX9_clear_2 : decode cX9_clear 2 = .ok (.putfield 9, 3) := by decide +kernel
theorem dX9_clear_5 : decode cX9_clear 5 = .ok (.aload_n 0, 1) := by decide +kernel
theorem dX9_clear_6 : decode cX9_clear 6 = .ok (.iconst 0, 1) := by decide +kernel
theorem dX9_clear_7 : decode cX9_clear 7 = .ok (.putfield 15, 3) := by decide +kernel
theorem dX9_clear_10 : decode cX9_clear 10 = .ok (.aload_n 0, 1) := by decide +kernel
theorem dX9_clear_11 : decode cX9_clear 11 = .ok (.iconst 0, 1) := by decide +kernel
theorem dX9_clear_12 : decode cX9_clear 12 = .ok (.putfield 28, 3) := by decide +kernel
theorem dX9_clear_15 : decode cX9_clear 15 = .ok (.aload_n 0, 1) := by decide +kernel
theorem dX9_clear_16 : decode cX9_clear 16 = .ok (.iconst 0, 1) := by decide +kernel
theorem dX9_clear_17 : decode cX9_clear 17 = .ok (.putfield 37, 3) := by decide +kernel
theorem dX9_clear_20 : decode cX9_clear 20 = .ok (.aload_n 0, 1) := by decide +kernel
theorem dX9_clear_21 : decode cX9_clear 21 = .ok (.iconst 0, 1) := by decide +kernel
theorem dX9_clear_22 : decode cX9_clear 22 = .ok (.putfield 49, 3) := by decide +kernel
theorem dX9_clear_25 : decode cX9_clear 25 = .ok (.aload_n 0, 1) := by decide +kernel
theorem dX9_clear_26 : decode cX9_clear 26 = .ok (.iconst 0, 1) := by decide +kernel
theorem dX9_clear_27 : decode cX9_clear 27 = .ok (.putfield 61, 3) := by decide +kernel
theorem dX9_clear_30 : decode cX9_clear 30 = .ok (.aload_n 0, 1) := by decide +kernel
theorem dX9_clear_31 : decode cX9_clear 31 = .ok (.getfield 67, 3) := by decide +kernel
theorem dX9_clear_34 : decode cX9_clear 34 = .ok (.iconst 0, 1) := by decide +kernel
theorem dX9_clear_35 : decode cX9_clear 35 = .ok (.putfield 74, 3) := by decide +kernel
theorem dX9_clear_38 : decode cX9_clear 38 = .ok (.aload_n 0, 1) := by decide +kernel
theorem dX9_clear_39 : decode cX9_clear 39 = .ok (.getfield 71, 3) := by decide +kernel
theorem dX9_clear_42 : decode cX9_clear 42 = .ok (.iconst 0, 1) := by decide +kernel
theorem dX9_clear_43 : decode cX9_clear 43 = .ok (.putfield 74, 3) := by decide +kernel
theorem dX9_clear_46 : decode cX9_clear 46 = .ok (.return_, 1) := by decide +kernel
theorem dX9_isThing_0 : decode cX9_isThing 0 = .ok (.iload_n 1, 1) := by decide +kernel
theorem dX9_isThing_1 : decode cX9_isThing 1 = .ok (.ifCond .lt 15, 3) := by decide +kernel
theorem dX9_isThing_4 : decode cX9_isThing 4 = .ok (.iload_n 1, 1) := by decide +kernel
theorem dX9_isThing_5 : decode cX9_isThing 5 = .ok (.aload_n 0, 1) := by decide +kernel
theorem dX9_isThing_6 : decode cX9_isThing 6 = .ok (.getfield 15, 3) := by decide +kernel
theorem dX9_isThing_9 : decode cX9_isThing 9 = .ok (.if_icmp .ge 7, 3) := by decide +kernel
theorem dX9_isThing_12 : decode cX9_isThing 12 = .ok (.iconst 1, 1) := by decide +kernel
theorem dX9_isThing_13 : decode cX9_isThing 13 = .ok (.goto 4, 3) := by decide +kernel
theorem dX9_isThing_16 : decode cX9_isThing 16 = .ok (.iconst 0, 1) := by decide +kernel
theorem dX9_isThing_17 : decode cX9_isThing 17 = .ok (.ireturn, 1) := by decide +kernel
theorem dX9_isCorner_0 : decode cX9_isCorner 0 = .ok (.iload_n 1, 1) := by decide +kernel
theorem dX9_isCorner_1 : decode cX9_isCorner 1 = .ok (.ifCond .lt 15, 3) := by decide +kernel
theorem dX9_isCorner_4 : decode cX9_isCorner 4 = .ok (.iload_n 1, 1) := by decide +kernel
theorem dX9_isCorner_5 : decode cX9_isCorner 5 = .ok (.aload_n 0, 1) := by decide +kernel
theorem dX9_isCorner_6 : decode cX9_isCorner 6 = .ok (.getfield 28, 3) := by decide +kernel
theorem dX9_isCorner_9 : decode cX9_isCorner 9 = .ok (.if_icmp .ge 7, 3) := by decide +kernel
theorem dX9_isCorner_12 : decode cX9_isCorner 12 = .ok (.iconst 1, 1) := by decide +kernel
theorem dX9_isCorner_13 : decode cX9_isCorner 13 = .ok (.goto 4, 3) := by decide +kernel
theorem dX9_isCorner_16 : decode cX9_isCorner 16 = .ok (.iconst 0, 1) := by decide +kernel
theorem dX9_isCorner_17 : decode cX9_isCorner 17 = .ok (.ireturn, 1) := by decide +kernel
theorem dX9_isDoing_0 : decode cX9_isDoing 0 = .ok (.iload_n 1, 1) := by decide +kernel
theorem dX9_isDoing_1 : decode cX9_isDoing 1 = .ok (.ifCond .lt 15, 3) := by decide +kernel
theorem dX9_isDoing_4 : decode cX9_isDoing 4 = .ok (.iload_n 1, 1) := by decide +kernel
theorem dX9_isDoing_5 : decode cX9_isDoing 5 = .ok (.aload_n 0, 1) := by decide +kernel
theorem dX9_isDoing_6 : decode cX9_isDoing 6 = .ok (.getfield 49, 3) := by decide +kernel
theorem dX9_isDoing_9 : decode cX9_isDoing 9 = .ok (.if_icmp .ge 7, 3) := by decide +kernel
theorem dX9_isDoing_12 : decode cX9_isDoing 12 = .ok (.iconst 1, 1) := by decide +kernel
theorem dX9_isDoing_13 : decode cX9_isDoing 13 = .ok (.goto 4, 3) := by decide +kernel
theorem dX9_isDoing_16 : decode cX9_isDoing 16 = .ok (.iconst 0, 1) := by decide +kernel
theorem dX9_isDoing_17 : decode cX9_isDoing 17 = .ok (.ireturn, 1) := by decide +kernel
theorem dX9_findThing_0 : decode cX9_findThing 0 = .ok (.aload_n 0, 1) := by decide +kernel
theorem dX9_findThing_1 : decode cX9_findThing 1 = .ok (.getfield 18, 3) := by decide +kernel
theorem dX9_findThing_4 : decode cX9_findThing 4 = .ok (.aload_n 0, 1) := by decide +kernel
theorem dX9_findThing_5 : decode cX9_findThing 5 = .ok (.getfield 15, 3) := by decide +kernel
theorem dX9_findThing_8 : decode cX9_findThing 8 = .ok (.iload_n 1, 1) := by decide +kernel
theorem dX9_findThing_9 : decode cX9_findThing 9 = .ok (.invokestatic 77, 3) := by decide +kernel
theorem dX9_findThing_12 : decode cX9_findThing 12 = .ok (.ireturn, 1) := by decide +kernel
theorem dX9_findCorner_0 : decode cX9_findCorner 0 = .ok (.aload_n 0, 1) := by decide +kernel
theorem dX9_findCorner_1 : decode cX9_findCorner 1 = .ok (.getfield 31, 3) := by decide +kernel
theorem dX9_findCorner_4 : decode cX9_findCorner 4 = .ok (.aload_n 0, 1) := by decide +kernel
theorem dX9_findCorner_5 : decode cX9_findCorner 5 = .ok (.getfield 28, 3) := by decide +kernel
theorem dX9_findCorner_8 : decode cX9_findCorner 8 = .ok (.iload_n 1, 1) := by decide +kernel
theorem dX9_findCorner_9 : decode cX9_findCorner 9 = .ok (.invokestatic 77, 3) := by decide +kernel
theorem dX9_findCorner_12 : decode cX9_findCorner 12 = .ok (.ireturn, 1) := by decide +kernel
theorem dX9_findDoing_0 : decode cX9_findDoing 0 = .ok (.aload_n 0, 1) := by decide +kernel
theorem dX9_findDoing_1 : decode cX9_findDoing 1 = .ok (.getfield 52, 3) := by decide +kernel
theorem dX9_findDoing_4 : decode cX9_findDoing 4 = .ok (.aload_n 0, 1) := by decide +kernel
theorem dX9_findDoing_5 : decode cX9_findDoing 5 = .ok (.getfield 49, 3) := by decide +kernel
theorem dX9_findDoing_8 : decode cX9_findDoing 8 = .ok (.iload_n 1, 1) := by decide +kernel
theorem dX9_findDoing_9 : decode cX9_findDoing 9 = .ok (.invokestatic 77, 3) := by decide +kernel
theorem dX9_findDoing_12 : decode cX9_findDoing 12 = .ok (.ireturn, 1) := by decide +kernel
theorem dX9_find_0 : decode cX9_find 0 = .ok (.iconst 0, 1) := by decide +kernel
theorem dX9_find_1 : decode cX9_find 1 = .ok (.istore_n 3, 1) := by decide +kernel
theorem dX9_find_2 : decode cX9_find 2 = .ok (.iload_n 3, 1) := by decide +kernel
theorem dX9_find_3 : decode cX9_find 3 = .ok (.iload_n 1, 1) := by decide +kernel
theorem dX9_find_4 : decode cX9_find 4 = .ok (.if_icmp .ge 24, 3) := by decide +kernel
theorem dX9_find_7 : decode cX9_find 7 = .ok (.iload_n 3, 1) := by decide +kernel
theorem dX9_find_8 : decode cX9_find 8 = .ok (.aload_n 0, 1) := by decide +kernel
theorem dX9_find_9 : decode cX9_find 9 = .ok (.arraylength, 1) := by decide +kernel
theorem dX9_find_10 : decode cX9_find 10 = .ok (.if_icmp .ge 18, 3) := by decide +kernel
theorem dX9_find_13 : decode cX9_find 13 = .ok (.aload_n 0, 1) := by decide +kernel
theorem dX9_find_14 : decode cX9_find 14 = .ok (.iload_n 3, 1) := by decide +kernel
theorem dX9_find_15 : decode cX9_find 15 = .ok (.iaload, 1) := by decide +kernel
theorem dX9_find_16 : decode cX9_find 16 = .ok (.iload_n 2, 1) := by decide +kernel
theorem dX9_find_17 : decode cX9_find 17 = .ok (.if_icmp .ne 5, 3) := by decide +kernel
theorem dX9_find_20 : decode cX9_find 20 = .ok (.iload_n 3, 1) := by decide +kernel
theorem dX9_find_21 : decode cX9_find 21 = .ok (.ireturn, 1) := by decide +kernel
theorem dX9_find_22 : decode cX9_find 22 = .ok (.iinc 3 1, 3) := by decide +kernel
theorem dX9_find_25 : decode cX9_find 25 = .ok (.goto (-23), 3) := by decide +kernel
theorem dX9_find_28 : decode cX9_find 28 = .ok (.iconst (-1), 1) := by decide +kernel
theorem dX9_find_29 : decode cX9_find 29 = .ok (.ireturn, 1) := by decide +kernel
theorem dX9_hasRoad_0 : decode cX9_hasRoad 0 = .ok (.iconst 0, 1) := by decide +kernel
theorem dX9_hasRoad_1 : decode cX9_hasRoad 1 = .ok (.istore_n 3, 1) := by decide +kernel
theorem dX9_hasRoad_2 : decode cX9_hasRoad 2 = .ok (.iload_n 3, 1) := by decide +kernel
theorem dX9_hasRoad_3 : decode cX9_hasRoad 3 = .ok (.aload_n 0, 1) := by decide +kernel
theorem dX9_hasRoad_4 : decode cX9_hasRoad 4 = .ok (.getfield 37, 3) := by decide +kernel
theorem dX9_hasRoad_7 : decode cX9_hasRoad 7 = .ok (.if_icmp .ge 75, 3) := by decide +kernel
theorem dX9_hasRoad_10 : decode cX9_hasRoad 10 = .ok (.aload_n 0, 1) := by decide +kernel
theorem dX9_hasRoad_11 : decode cX9_hasRoad 11 = .ok (.getfield 40, 3) := by decide +kernel
theorem dX9_hasRoad_14 : decode cX9_hasRoad 14 = .ok (.iload_n 3, 1) := by decide +kernel
theorem dX9_hasRoad_15 : decode cX9_hasRoad 15 = .ok (.iaload, 1) := by decide +kernel
theorem dX9_hasRoad_16 : decode cX9_hasRoad 16 = .ok (.iload_n 1, 1) := by decide +kernel
theorem dX9_hasRoad_17 : decode cX9_hasRoad 17 = .ok (.if_icmp .ne 17, 3) := by decide +kernel
theorem dX9_hasRoad_20 : decode cX9_hasRoad 20 = .ok (.aload_n 0, 1) := by decide +kernel
theorem dX9_hasRoad_21 : decode cX9_hasRoad 21 = .ok (.getfield 43, 3) := by decide +kernel
theorem dX9_hasRoad_24 : decode cX9_hasRoad 24 = .ok (.iload_n 3, 1) := by decide +kernel
theorem dX9_hasRoad_25 : decode cX9_hasRoad 25 = .ok (.iaload, 1) := by decide +kernel
theorem dX9_hasRoad_26 : decode cX9_hasRoad 26 = .ok (.iload_n 2, 1) := by decide +kernel
theorem dX9_hasRoad_27 : decode cX9_hasRoad 27 = .ok (.if_icmp .ne 7, 3) := by decide +kernel
theorem dX9_hasRoad_30 : decode cX9_hasRoad 30 = .ok (.iconst 1, 1) := by decide +kernel
theorem dX9_hasRoad_31 : decode cX9_hasRoad 31 = .ok (.goto 4, 3) := by decide +kernel
theorem dX9_hasRoad_34 : decode cX9_hasRoad 34 = .ok (.iconst 0, 1) := by decide +kernel
theorem dX9_hasRoad_35 : decode cX9_hasRoad 35 = .ok (.istore 4, 2) := by decide +kernel
theorem dX9_hasRoad_37 : decode cX9_hasRoad 37 = .ok (.aload_n 0, 1) := by decide +kernel
theorem dX9_hasRoad_38 : decode cX9_hasRoad 38 = .ok (.getfield 40, 3) := by decide +kernel
theorem dX9_hasRoad_41 : decode cX9_hasRoad 41 = .ok (.iload_n 3, 1) := by decide +kernel
theorem dX9_hasRoad_42 : decode cX9_hasRoad 42 = .ok (.iaload, 1) := by decide +kernel
theorem dX9_hasRoad_43 : decode cX9_hasRoad 43 = .ok (.iload_n 2, 1) := by decide +kernel
theorem dX9_hasRoad_44 : decode cX9_hasRoad 44 = .ok (.if_icmp .ne 17, 3) := by decide +kernel
theorem dX9_hasRoad_47 : decode cX9_hasRoad 47 = .ok (.aload_n 0, 1) := by decide +kernel
theorem dX9_hasRoad_48 : decode cX9_hasRoad 48 = .ok (.getfield 43, 3) := by decide +kernel
theorem dX9_hasRoad_51 : decode cX9_hasRoad 51 = .ok (.iload_n 3, 1) := by decide +kernel
theorem dX9_hasRoad_52 : decode cX9_hasRoad 52 = .ok (.iaload, 1) := by decide +kernel
theorem dX9_hasRoad_53 : decode cX9_hasRoad 53 = .ok (.iload_n 1, 1) := by decide +kernel
theorem dX9_hasRoad_54 : decode cX9_hasRoad 54 = .ok (.if_icmp .ne 7, 3) := by decide +kernel
theorem dX9_hasRoad_57 : decode cX9_hasRoad 57 = .ok (.iconst 1, 1) := by decide +kernel
theorem dX9_hasRoad_58 : decode cX9_hasRoad 58 = .ok (.goto 4, 3) := by decide +kernel
theorem dX9_hasRoad_61 : decode cX9_hasRoad 61 = .ok (.iconst 0, 1) := by decide +kernel
theorem dX9_hasRoad_62 : decode cX9_hasRoad 62 = .ok (.istore 5, 2) := by decide +kernel
theorem dX9_hasRoad_64 : decode cX9_hasRoad 64 = .ok (.iload 4, 2) := by decide +kernel
theorem dX9_hasRoad_66 : decode cX9_hasRoad 66 = .ok (.ifCond .ne 8, 3) := by decide +kernel
theorem dX9_hasRoad_69 : decode cX9_hasRoad 69 = .ok (.iload 5, 2) := by decide +kernel
theorem dX9_hasRoad_71 : decode cX9_hasRoad 71 = .ok (.ifCond .eq 5, 3) := by decide +kernel
theorem dX9_hasRoad_74 : decode cX9_hasRoad 74 = .ok (.iconst 1, 1) := by decide +kernel
theorem dX9_hasRoad_75 : decode cX9_hasRoad 75 = .ok (.ireturn, 1) := by decide +kernel
theorem dX9_hasRoad_76 : decode cX9_hasRoad 76 = .ok (.iinc 3 1, 3) := by decide +kernel
theorem dX9_hasRoad_79 : decode cX9_hasRoad 79 = .ok (.goto (-77), 3) := by decide +kernel
theorem dX9_hasRoad_82 : decode cX9_hasRoad 82 = .ok (.iconst 0, 1) := by decide +kernel
theorem dX9_hasRoad_83 : decode cX9_hasRoad 83 = .ok (.ireturn, 1) := by decide +kernel
theorem dX9_addThing_0 : decode cX9_addThing 0 = .ok (.aload_n 0, 1) := by decide +kernel
theorem dX9_addThing_1 : decode cX9_addThing 1 = .ok (.getfield 15, 3) := by decide +kernel
theorem dX9_addThing_4 : decode cX9_addThing 4 = .ok (.bipush 6, 2) := by decide +kernel
theorem dX9_addThing_6 : decode cX9_addThing 6 = .ok (.if_icmp .ge 43, 3) := by decide +kernel
theorem dX9_addThing_9 : decode cX9_addThing 9 = .ok (.aload_n 0, 1) := by decide +kernel
theorem dX9_addThing_10 : decode cX9_addThing 10 = .ok (.getfield 18, 3) := by decide +kernel
theorem dX9_addThing_13 : decode cX9_addThing 13 = .ok (.aload_n 0, 1) := by decide +kernel
theorem dX9_addThing_14 : decode cX9_addThing 14 = .ok (.getfield 15, 3) := by decide +kernel
theorem dX9_addThing_17 : decode cX9_addThing 17 = .ok (.iload_n 1, 1) := by decide +kernel
theorem dX9_addThing_18 : decode cX9_addThing 18 = .ok (.iastore, 1) := by decide +kernel
theorem dX9_addThing_19 : decode cX9_addThing 19 = .ok (.aload_n 0, 1) := by decide +kernel
theorem dX9_addThing_20 : decode cX9_addThing 20 = .ok (.getfield 22, 3) := by decide +kernel
theorem dX9_addThing_23 : decode cX9_addThing 23 = .ok (.aload_n 0, 1) := by decide +kernel
theorem dX9_addThing_24 : decode cX9_addThing 24 = .ok (.getfield 15, 3) := by decide +kernel
theorem dX9_addThing_27 : decode cX9_addThing 27 = .ok (.iload_n 2, 1) := by decide +kernel
theorem dX9_addThing_28 : decode cX9_addThing 28 = .ok (.iastore, 1) := by decide +kernel
theorem dX9_addThing_29 : decode cX9_addThing 29 = .ok (.aload_n 0, 1) := by decide +kernel
theorem dX9_addThing_30 : decode cX9_addThing 30 = .ok (.getfield 25, 3) := by decide +kernel
theorem dX9_addThing_33 : decode cX9_addThing 33 = .ok (.aload_n 0, 1) := by decide +kernel
theorem dX9_addThing_34 : decode cX9_addThing 34 = .ok (.getfield 15, 3) := by decide +kernel
theorem dX9_addThing_37 : decode cX9_addThing 37 = .ok (.iload_n 3, 1) := by decide +kernel
theorem dX9_addThing_38 : decode cX9_addThing 38 = .ok (.iastore, 1) := by decide +kernel
theorem dX9_addThing_39 : decode cX9_addThing 39 = .ok (.aload_n 0, 1) := by decide +kernel
theorem dX9_addThing_40 : decode cX9_addThing 40 = .ok (.dup, 1) := by decide +kernel
theorem dX9_addThing_41 : decode cX9_addThing 41 = .ok (.getfield 15, 3) := by decide +kernel
theorem dX9_addThing_44 : decode cX9_addThing 44 = .ok (.iconst 1, 1) := by decide +kernel
theorem dX9_addThing_45 : decode cX9_addThing 45 = .ok (.iadd, 1) := by decide +kernel
theorem dX9_addThing_46 : decode cX9_addThing 46 = .ok (.putfield 15, 3) := by decide +kernel
theorem dX9_addThing_49 : decode cX9_addThing 49 = .ok (.return_, 1) := by decide +kernel
theorem dX9_addCorner_0 : decode cX9_addCorner 0 = .ok (.aload_n 0, 1) := by decide +kernel
theorem dX9_addCorner_1 : decode cX9_addCorner 1 = .ok (.getfield 28, 3) := by decide +kernel
theorem dX9_addCorner_4 : decode cX9_addCorner 4 = .ok (.iconst 5, 1) := by decide +kernel
theorem dX9_addCorner_5 : decode cX9_addCorner 5 = .ok (.if_icmp .ge 33, 3) := by decide +kernel
theorem dX9_addCorner_8 : decode cX9_addCorner 8 = .ok (.aload_n 0, 1) := by decide +kernel
theorem dX9_addCorner_9 : decode cX9_addCorner 9 = .ok (.getfield 31, 3) := by decide +kernel
theorem dX9_addCorner_12 : decode cX9_addCorner 12 = .ok (.aload_n 0, 1) := by decide +kernel
theorem dX9_addCorner_13 : decode cX9_addCorner 13 = .ok (.getfield 28, 3) := by decide +kernel
theorem dX9_addCorner_16 : decode cX9_addCorner 16 = .ok (.iload_n 1, 1) := by decide +kernel
theorem dX9_addCorner_17 : decode cX9_addCorner 17 = .ok (.iastore, 1) := by decide +kernel
theorem dX9_addCorner_18 : decode cX9_addCorner 18 = .ok (.aload_n 0, 1) := by decide +kernel
theorem dX9_addCorner_19 : decode cX9_addCorner 19 = .ok (.getfield 34, 3) := by decide +kernel
theorem dX9_addCorner_22 : decode cX9_addCorner 22 = .ok (.aload_n 0, 1) := by decide +kernel
theorem dX9_addCorner_23 : decode cX9_addCorner 23 = .ok (.getfield 28, 3) := by decide +kernel
theorem dX9_addCorner_26 : decode cX9_addCorner 26 = .ok (.iconst (-1), 1) := by decide +kernel
theorem dX9_addCorner_27 : decode cX9_addCorner 27 = .ok (.iastore, 1) := by decide +kernel
theorem dX9_addCorner_28 : decode cX9_addCorner 28 = .ok (.aload_n 0, 1) := by decide +kernel
theorem dX9_addCorner_29 : decode cX9_addCorner 29 = .ok (.dup, 1) := by decide +kernel
theorem dX9_addCorner_30 : decode cX9_addCorner 30 = .ok (.getfield 28, 3) := by decide +kernel
theorem dX9_addCorner_33 : decode cX9_addCorner 33 = .ok (.iconst 1, 1) := by decide +kernel
theorem dX9_addCorner_34 : decode cX9_addCorner 34 = .ok (.iadd, 1) := by decide +kernel
theorem dX9_addCorner_35 : decode cX9_addCorner 35 = .ok (.putfield 28, 3) := by decide +kernel
theorem dX9_addCorner_38 : decode cX9_addCorner 38 = .ok (.return_, 1) := by decide +kernel
theorem dX9_addRoad_0 : decode cX9_addRoad 0 = .ok (.aload_n 0, 1) := by decide +kernel
theorem dX9_addRoad_1 : decode cX9_addRoad 1 = .ok (.getfield 37, 3) := by decide +kernel
theorem dX9_addRoad_4 : decode cX9_addRoad 4 = .ok (.bipush 10, 2) := by decide +kernel
theorem dX9_addRoad_6 : decode cX9_addRoad 6 = .ok (.if_icmp .ge 43, 3) := by decide +kernel
theorem dX9_addRoad_9 : decode cX9_addRoad 9 = .ok (.aload_n 0, 1) := by decide +kernel
theorem dX9_addRoad_10 : decode cX9_addRoad 10 = .ok (.getfield 40, 3) := by decide +kernel
theorem dX9_addRoad_13 : decode cX9_addRoad 13 = .ok (.aload_n 0, 1) := by decide +kernel
theorem dX9_addRoad_14 : decode cX9_addRoad 14 = .ok (.getfield 37, 3) := by decide +kernel
theorem dX9_addRoad_17 : decode cX9_addRoad 17 = .ok (.iload_n 1, 1) := by decide +kernel
theorem dX9_addRoad_18 : decode cX9_addRoad 18 = .ok (.iastore, 1) := by decide +kernel
theorem dX9_addRoad_19 : decode cX9_addRoad 19 = .ok (.aload_n 0, 1) := by decide +kernel
theorem dX9_addRoad_20 : decode cX9_addRoad 20 = .ok (.getfield 43, 3) := by decide +kernel
theorem dX9_addRoad_23 : decode cX9_addRoad 23 = .ok (.aload_n 0, 1) := by decide +kernel
theorem dX9_addRoad_24 : decode cX9_addRoad 24 = .ok (.getfield 37, 3) := by decide +kernel
theorem dX9_addRoad_27 : decode cX9_addRoad 27 = .ok (.iload_n 2, 1) := by decide +kernel
theorem dX9_addRoad_28 : decode cX9_addRoad 28 = .ok (.iastore, 1) := by decide +kernel
theorem dX9_addRoad_29 : decode cX9_addRoad 29 = .ok (.aload_n 0, 1) := by decide +kernel
theorem dX9_addRoad_30 : decode cX9_addRoad 30 = .ok (.getfield 46, 3) := by decide +kernel
theorem dX9_addRoad_33 : decode cX9_addRoad 33 = .ok (.aload_n 0, 1) := by decide +kernel
theorem dX9_addRoad_34 : decode cX9_addRoad 34 = .ok (.getfield 37, 3) := by decide +kernel
theorem dX9_addRoad_37 : decode cX9_addRoad 37 = .ok (.iload_n 3, 1) := by decide +kernel
theorem dX9_addRoad_38 : decode cX9_addRoad 38 = .ok (.iastore, 1) := by decide +kernel
theorem dX9_addRoad_39 : decode cX9_addRoad 39 = .ok (.aload_n 0, 1) := by decide +kernel
theorem dX9_addRoad_40 : decode cX9_addRoad 40 = .ok (.dup, 1) := by decide +kernel
theorem dX9_addRoad_41 : decode cX9_addRoad 41 = .ok (.getfield 37, 3) := by decide +kernel
theorem dX9_addRoad_44 : decode cX9_addRoad 44 = .ok (.iconst 1, 1) := by decide +kernel
theorem dX9_addRoad_45 : decode cX9_addRoad 45 = .ok (.iadd, 1) := by decide +kernel
theorem dX9_addRoad_46 : decode cX9_addRoad 46 = .ok (.putfield 37, 3) := by decide +kernel
theorem dX9_addRoad_49 : decode cX9_addRoad 49 = .ok (.return_, 1) := by decide +kernel
theorem dX9_addDoing_0 : decode cX9_addDoing 0 = .ok (.aload_n 0, 1) := by decide +kernel
theorem dX9_addDoing_1 : decode cX9_addDoing 1 = .ok (.getfield 49, 3) := by decide +kernel
theorem dX9_addDoing_4 : decode cX9_addDoing 4 = .ok (.bipush 6, 2) := by decide +kernel
theorem dX9_addDoing_6 : decode cX9_addDoing 6 = .ok (.if_icmp .ge 43, 3) := by decide +kernel
theorem dX9_addDoing_9 : decode cX9_addDoing 9 = .ok (.aload_n 0, 1) := by decide +kernel
theorem dX9_addDoing_10 : decode cX9_addDoing 10 = .ok (.getfield 52, 3) := by decide +kernel
theorem dX9_addDoing_13 : decode cX9_addDoing 13 = .ok (.aload_n 0, 1) := by decide +kernel
theorem dX9_addDoing_14 : decode cX9_addDoing 14 = .ok (.getfield 49, 3) := by decide +kernel
theorem dX9_addDoing_17 : decode cX9_addDoing 17 = .ok (.iload_n 1, 1) := by decide +kernel
theorem dX9_addDoing_18 : decode cX9_addDoing 18 = .ok (.iastore, 1) := by decide +kernel
theorem dX9_addDoing_19 : decode cX9_addDoing 19 = .ok (.aload_n 0, 1) := by decide +kernel
theorem dX9_addDoing_20 : decode cX9_addDoing 20 = .ok (.getfield 55, 3) := by decide +kernel
theorem dX9_addDoing_23 : decode cX9_addDoing 23 = .ok (.aload_n 0, 1) := by decide +kernel
theorem dX9_addDoing_24 : decode cX9_addDoing 24 = .ok (.getfield 49, 3) := by decide +kernel
theorem dX9_addDoing_27 : decode cX9_addDoing 27 = .ok (.iload_n 2, 1) := by decide +kernel
theorem dX9_addDoing_28 : decode cX9_addDoing 28 = .ok (.iastore, 1) := by decide +kernel
theorem dX9_addDoing_29 : decode cX9_addDoing 29 = .ok (.aload_n 0, 1) := by decide +kernel
theorem dX9_addDoing_30 : decode cX9_addDoing 30 = .ok (.getfield 58, 3) := by decide +kernel
theorem dX9_addDoing_33 : decode cX9_addDoing 33 = .ok (.aload_n 0, 1) := by decide +kernel
theorem dX9_addDoing_34 : decode cX9_addDoing 34 = .ok (.getfield 49, 3) := by decide +kernel
theorem dX9_addDoing_37 : decode cX9_addDoing 37 = .ok (.iload_n 3, 1) := by decide +kernel
theorem dX9_addDoing_38 : decode cX9_addDoing 38 = .ok (.iastore, 1) := by decide +kernel
theorem dX9_addDoing_39 : decode cX9_addDoing 39 = .ok (.aload_n 0, 1) := by decide +kernel
theorem dX9_addDoing_40 : decode cX9_addDoing 40 = .ok (.dup, 1) := by decide +kernel
theorem dX9_addDoing_41 : decode cX9_addDoing 41 = .ok (.getfield 49, 3) := by decide +kernel
theorem dX9_addDoing_44 : decode cX9_addDoing 44 = .ok (.iconst 1, 1) := by decide +kernel
theorem dX9_addDoing_45 : decode cX9_addDoing 45 = .ok (.iadd, 1) := by decide +kernel
theorem dX9_addDoing_46 : decode cX9_addDoing 46 = .ok (.putfield 49, 3) := by decide +kernel
theorem dX9_addDoing_49 : decode cX9_addDoing 49 = .ok (.return_, 1) := by decide +kernel
