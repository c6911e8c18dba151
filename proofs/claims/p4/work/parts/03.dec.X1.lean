theorem dX1_init_0 : decode cX1_init 0 = .ok (.aload_n 0, 1) := by decide +kernel
theorem dX1_init_1 : decode cX1_init 1 = .ok (.invokespecial 3, 3) := by decide +kernel
theorem dX1_init_4 : decode cX1_init 4 = .ok (.aload_n 0, 1) := by decide +kernel
theorem dX1_init_5 : decode cX1_init 5 = .ok (.iconst 0, 1) := by decide +kernel
theorem dX1_init_6 : decode cX1_init 6 = .ok (.putfield 9, 3) := by decide +kernel
theorem dX1_init_9 : decode cX1_init 9 = .ok (.aload_n 0, 1) := by decide +kernel
theorem dX1_init_10 : decode cX1_init 10 = .ok (.iconst (-1), 1) := by decide +kernel
theorem dX1_init_11 : decode cX1_init 11 = .ok (.putfield 15, 3) := by decide +kernel
theorem dX1_init_14 : decode cX1_init 14 = .ok (.aload_n 0, 1) := by decide +kernel
theorem dX1_init_15 : decode cX1_init 15 = .ok (.iconst 0, 1) := by decide +kernel
theorem dX1_init_16 : decode cX1_init 16 = .ok (.putfield 18, 3) := by decide +kernel
theorem dX1_init_19 : decode cX1_init 19 = .ok (.aload_n 0, 1) := by decide +kernel
theorem dX1_init_20 : decode cX1_init 20 = .ok (.iconst 0, 1) := by decide +kernel
theorem dX1_init_21 : decode cX1_init 21 = .ok (.putfield 21, 3) := by decide +kernel
theorem dX1_init_24 : decode cX1_init 24 = .ok (.aload_n 0, 1) := by decide +kernel
theorem dX1_init_25 : decode cX1_init 25 = .ok (.bipush 6, 2) := by decide +kernel
theorem dX1_init_27 : decode cX1_init 27 = .ok (.newarray .int, 2) := by decide +kernel
theorem dX1_init_29 : decode cX1_init 29 = .ok (.putfield 24, 3) := by decide +kernel
theorem dX1_init_32 : decode cX1_init 32 = .ok (.aload_n 0, 1) := by decide +kernel
theorem dX1_init_33 : decode cX1_init 33 = .ok (.bipush 64, 2) := by decide +kernel
theorem dX1_init_35 : decode cX1_init 35 = .ok (.newarray .int, 2) := by decide +kernel
theorem dX1_init_37 : decode cX1_init 37 = .ok (.putfield 28, 3) := by decide +kernel
theorem dX1_init_40 : decode cX1_init 40 = .ok (.aload_n 0, 1) := by decide +kernel
theorem dX1_init_41 : decode cX1_init 41 = .ok (.iconst 0, 1) := by decide +kernel
theorem dX1_init_42 : decode cX1_init 42 = .ok (.putfield 31, 3) := by decide +kernel
theorem dX1_init_45 : decode cX1_init 45 = .ok (.aload_n 0, 1) := by decide +kernel
theorem dX1_init_46 : decode cX1_init 46 = .ok (.aload_n 1, 1) := by decide +kernel
theorem dX1_init_47 : decode cX1_init 47 = .ok (.putfield 34, 3) := by decide +kernel
theorem dX1_init_50 : decode cX1_init 50 = .ok (.return_, 1) := by decide +kernel
theorem dX1_hold_0 : decode cX1_hold 0 = .ok (.aload_n 0, 1) := by decide +kernel
theorem dX1_hold_1 : decode cX1_hold 1 = .ok (.iload_n 1, 1) := by decide +kernel
theorem dX1_hold_2 : decode cX1_hold 2 = .ok (.putfield 9, 3) := by decide +kernel
theorem dX1_hold_5 : decode cX1_hold 5 = .ok (.aload_n 0, 1) := by decide +kernel
theorem dX1_hold_6 : decode cX1_hold 6 = .ok (.iload_n 2, 1) := by decide +kernel
theorem dX1_hold_7 : decode cX1_hold 7 = .ok (.putfield 15, 3) := by decide +kernel
theorem dX1_hold_10 : decode cX1_hold 10 = .ok (.aload_n 0, 1) := by decide +kernel
theorem dX1_hold_11 : decode cX1_hold 11 = .ok (.iload_n 3, 1) := by decide +kernel
theorem dX1_hold_12 : decode cX1_hold 12 = .ok (.putfield 18, 3) := by decide +kernel
theorem dX1_hold_15 : decode cX1_hold 15 = .ok (.aload_n 0, 1) := by decide +kernel
theorem dX1_hold_16 : decode cX1_hold 16 = .ok (.iload 4, 2) := by decide +kernel
theorem dX1_hold_18 : decode cX1_hold 18 = .ok (.putfield 21, 3) := by decide +kernel
theorem dX1_hold_21 : decode cX1_hold 21 = .ok (.return_, 1) := by decide +kernel
theorem dX1_hourNow_0 : decode cX1_hourNow 0 = .ok (.iconst 0, 1) := by decide +kernel
theorem dX1_hourNow_1 : decode cX1_hourNow 1 = .ok (.istore_n 1, 1) := by decide +kernel
theorem dX1_hourNow_2 : decode cX1_hourNow 2 = .ok (.aload_n 0, 1) := by decide +kernel
theorem dX1_hourNow_3 : decode cX1_hourNow 3 = .ok (.getfield 34, 3) := by decide +kernel
theorem dX1_hourNow_6 : decode cX1_hourNow 6 = .ok (.getfield 38, 3) := by decide +kernel
theorem dX1_hourNow_9 : decode cX1_hourNow 9 = .ok (.invokevirtual 44, 3) := by decide +kernel
theorem dX1_hourNow_12 : decode cX1_hourNow 12 = .ok (.ifCond .eq 18, 3) := by decide +kernel
theorem dX1_hourNow_15 : decode cX1_hourNow 15 = .ok (.aload_n 0, 1) := by decide +kernel
theorem dX1_hourNow_16 : decode cX1_hourNow 16 = .ok (.aload_n 0, 1) := by decide +kernel
theorem dX1_hourNow_17 : decode cX1_hourNow 17 = .ok (.getfield 34, 3) := by decide +kernel
theorem dX1_hourNow_20 : decode cX1_hourNow 20 = .ok (.getfield 38, 3) := by decide +kernel
theorem dX1_hourNow_23 : decode cX1_hourNow 23 = .ok (.invokevirtual 50, 3) := by decide +kernel
theorem dX1_hourNow_26 : decode cX1_hourNow 26 = .ok (.istore_n 1, 1) := by decide +kernel
theorem dX1_hourNow_27 : decode cX1_hourNow 27 = .ok (.goto 30, 3) := by decide +kernel
theorem dX1_hourNow_30 : decode cX1_hourNow 30 = .ok (.aload_n 0, 1) := by decide +kernel
theorem dX1_hourNow_31 : decode cX1_hourNow 31 = .ok (.getfield 34, 3) := by decide +kernel
theorem dX1_hourNow_34 : decode cX1_hourNow 34 = .ok (.aload_n 0, 1) := by decide +kernel
theorem dX1_hourNow_35 : decode cX1_hourNow 35 = .ok (.getfield 15, 3) := by decide +kernel
theorem dX1_hourNow_38 : decode cX1_hourNow 38 = .ok (.invokevirtual 54, 3) := by decide +kernel
theorem dX1_hourNow_41 : decode cX1_hourNow 41 = .ok (.ifCond .eq 16, 3) := by decide +kernel
theorem dX1_hourNow_44 : decode cX1_hourNow 44 = .ok (.aload_n 0, 1) := by decide +kernel
theorem dX1_hourNow_45 : decode cX1_hourNow 45 = .ok (.getfield 34, 3) := by decide +kernel
theorem dX1_hourNow_48 : decode cX1_hourNow 48 = .ok (.getfield 58, 3) := by decide +kernel
theorem dX1_hourNow_51 : decode cX1_hourNow 51 = .ok (.aload_n 0, 1) := by decide +kernel
theorem dX1_hourNow_52 : decode cX1_hourNow 52 = .ok (.getfield 15, 3) := by decide +kernel
theorem dX1_hourNow_55 : decode cX1_hourNow 55 = .ok (.iaload, 1) := by decide +kernel
theorem dX1_hourNow_56 : decode cX1_hourNow 56 = .ok (.istore_n 1, 1) := by decide +kernel
theorem dX1_hourNow_57 : decode cX1_hourNow 57 = .ok (.iconst 0, 1) := by decide +kernel
theorem dX1_hourNow_58 : decode cX1_hourNow 58 = .ok (.bipush 23, 2) := by decide +kernel
theorem dX1_hourNow_60 : decode cX1_hourNow 60 = .ok (.iload_n 1, 1) := by decide +kernel
theorem dX1_hourNow_61 : decode cX1_hourNow 61 = .ok (.invokestatic 61, 3) := by decide +kernel
theorem dX1_hourNow_64 : decode cX1_hourNow 64 = .ok (.invokestatic 67, 3) := by decide +kernel
theorem dX1_hourNow_67 : decode cX1_hourNow 67 = .ok (.ireturn, 1) := by decide +kernel
theorem dX1_goOn_0 : decode cX1_goOn 0 = .ok (.aload_n 0, 1) := by decide +kernel
theorem dX1_goOn_1 : decode cX1_goOn 1 = .ok (.sipush 9999, 3) := by decide +kernel
theorem dX1_goOn_4 : decode cX1_goOn 4 = .ok (.aload_n 0, 1) := by decide +kernel
theorem dX1_goOn_5 : decode cX1_goOn 5 = .ok (.getfield 21, 3) := by decide +kernel
theorem dX1_goOn_8 : decode cX1_goOn 8 = .ok (.iconst 1, 1) := by decide +kernel
theorem dX1_goOn_9 : decode cX1_goOn 9 = .ok (.iadd, 1) := by decide +kernel
theorem dX1_goOn_10 : decode cX1_goOn 10 = .ok (.invokestatic 61, 3) := by decide +kernel
theorem dX1_goOn_13 : decode cX1_goOn 13 = .ok (.putfield 21, 3) := by decide +kernel
theorem dX1_goOn_16 : decode cX1_goOn 16 = .ok (.aload_n 0, 1) := by decide +kernel
theorem dX1_goOn_17 : decode cX1_goOn 17 = .ok (.sipush 999, 3) := by decide +kernel
theorem dX1_goOn_20 : decode cX1_goOn 20 = .ok (.aload_n 0, 1) := by decide +kernel
theorem dX1_goOn_21 : decode cX1_goOn 21 = .ok (.getfield 18, 3) := by decide +kernel
theorem dX1_goOn_24 : decode cX1_goOn 24 = .ok (.iconst 1, 1) := by decide +kernel
theorem dX1_goOn_25 : decode cX1_goOn 25 = .ok (.iadd, 1) := by decide +kernel
theorem dX1_goOn_26 : decode cX1_goOn 26 = .ok (.invokestatic 61, 3) := by decide +kernel
theorem dX1_goOn_29 : decode cX1_goOn 29 = .ok (.putfield 18, 3) := by decide +kernel
theorem dX1_goOn_32 : decode cX1_goOn 32 = .ok (.aload_n 0, 1) := by decide +kernel
theorem dX1_goOn_33 : decode cX1_goOn 33 = .ok (.getfield 34, 3) := by decide +kernel
theorem dX1_goOn_36 : decode cX1_goOn 36 = .ok (.aload_n 0, 1) := by decide +kernel
theorem dX1_goOn_37 : decode cX1_goOn 37 = .ok (.getfield 15, 3) := by decide +kernel
theorem dX1_goOn_40 : decode cX1_goOn 40 = .ok (.invokevirtual 54, 3) := by decide +kernel
theorem dX1_goOn_43 : decode cX1_goOn 43 = .ok (.ifCond .ne 4, 3) := by decide +kernel
theorem dX1_goOn_46 : decode cX1_goOn 46 = .ok (.return_, 1) := by decide +kernel
theorem dX1_goOn_47 : decode cX1_goOn 47 = .ok (.aload_n 0, 1) := by decide +kernel
theorem dX1_goOn_48 : decode cX1_goOn 48 = .ok (.getfield 34, 3) := by decide +kernel
theorem dX1_goOn_51 : decode cX1_goOn 51 = .ok (.getfield 70, 3) := by decide +kernel
theorem dX1_goOn_54 : decode cX1_goOn 54 = .ok (.invokevirtual 44, 3) := by decide +kernel
theorem dX1_goOn_57 : decode cX1_goOn 57 = .ok (.ifCond .eq 25, 3) := by decide +kernel
theorem dX1_goOn_60 : decode cX1_goOn 60 = .ok (.aload_n 0, 1) := by decide +kernel
theorem dX1_goOn_61 : decode cX1_goOn 61 = .ok (.aload_n 0, 1) := by decide +kernel
theorem dX1_goOn_62 : decode cX1_goOn 62 = .ok (.getfield 34, 3) := by decide +kernel
theorem dX1_goOn_65 : decode cX1_goOn 65 = .ok (.getfield 70, 3) := by decide +kernel
theorem dX1_goOn_68 : decode cX1_goOn 68 = .ok (.invokevirtual 50, 3) := by decide +kernel
theorem dX1_goOn_71 : decode cX1_goOn 71 = .ok (.ifCond .eq 7, 3) := by decide +kernel
theorem dX1_goOn_74 : decode cX1_goOn 74 = .ok (.iconst 1, 1) := by decide +kernel
theorem dX1_goOn_75 : decode cX1_goOn 75 = .ok (.goto 31, 3) := by decide +kernel
theorem dX1_goOn_78 : decode cX1_goOn 78 = .ok (.iconst 0, 1) := by decide +kernel
theorem dX1_goOn_79 : decode cX1_goOn 79 = .ok (.goto 27, 3) := by decide +kernel
theorem dX1_goOn_82 : decode cX1_goOn 82 = .ok (.aload_n 0, 1) := by decide +kernel
theorem dX1_goOn_83 : decode cX1_goOn 83 = .ok (.getfield 18, 3) := by decide +kernel
theorem dX1_goOn_86 : decode cX1_goOn 86 = .ok (.aload_n 0, 1) := by decide +kernel
theorem dX1_goOn_87 : decode cX1_goOn 87 = .ok (.getfield 34, 3) := by decide +kernel
theorem dX1_goOn_90 : decode cX1_goOn 90 = .ok (.getfield 73, 3) := by decide +kernel
theorem dX1_goOn_93 : decode cX1_goOn 93 = .ok (.aload_n 0, 1) := by decide +kernel
theorem dX1_goOn_94 : decode cX1_goOn 94 = .ok (.getfield 15, 3) := by decide +kernel
theorem dX1_goOn_97 : decode cX1_goOn 97 = .ok (.iaload, 1) := by decide +kernel
theorem dX1_goOn_98 : decode cX1_goOn 98 = .ok (.if_icmp .lt 7, 3) := by decide +kernel
theorem dX1_goOn_101 : decode cX1_goOn 101 = .ok (.iconst 1, 1) := by decide +kernel
theorem dX1_goOn_102 : decode cX1_goOn 102 = .ok (.goto 4, 3) := by decide +kernel
theorem dX1_goOn_105 : decode cX1_goOn 105 = .ok (.iconst 0, 1) := by decide +kernel
theorem dX1_goOn_106 : decode cX1_goOn 106 = .ok (.istore_n 1, 1) := by decide +kernel
theorem dX1_goOn_107 : decode cX1_goOn 107 = .ok (.iload_n 1, 1) := by decide +kernel
theorem dX1_goOn_108 : decode cX1_goOn 108 = .ok (.ifCond .eq 13, 3) := by decide +kernel
theorem dX1_goOn_111 : decode cX1_goOn 111 = .ok (.aload_n 0, 1) := by decide +kernel
theorem dX1_goOn_112 : decode cX1_goOn 112 = .ok (.iconst (-1), 1) := by decide +kernel
theorem dX1_goOn_113 : decode cX1_goOn 113 = .ok (.putfield 15, 3) := by decide +kernel
theorem dX1_goOn_116 : decode cX1_goOn 116 = .ok (.aload_n 0, 1) := by decide +kernel
theorem dX1_goOn_117 : decode cX1_goOn 117 = .ok (.iconst 0, 1) := by decide +kernel
theorem dX1_goOn_118 : decode cX1_goOn 118 = .ok (.putfield 18, 3) := by decide +kernel
theorem dX1_goOn_121 : decode cX1_goOn 121 = .ok (.return_, 1) := by decide +kernel
theorem dX1_foresee_0 : decode cX1_foresee 0 = .ok (.iload_n 2, 1) := by decide +kernel
theorem dX1_foresee_1 : decode cX1_foresee 1 = .ok (.aload_n 1, 1) := by decide +kernel
theorem dX1_foresee_2 : decode cX1_foresee 2 = .ok (.arraylength, 1) := by decide +kernel
theorem dX1_foresee_3 : decode cX1_foresee 3 = .ok (.iconst 1, 1) := by decide +kernel
theorem dX1_foresee_4 : decode cX1_foresee 4 = .ok (.isub, 1) := by decide +kernel
theorem dX1_foresee_5 : decode cX1_foresee 5 = .ok (.invokestatic 61, 3) := by decide +kernel
theorem dX1_foresee_8 : decode cX1_foresee 8 = .ok (.sipush 9999, 3) := by decide +kernel
theorem dX1_foresee_11 : decode cX1_foresee 11 = .ok (.aload_n 0, 1) := by decide +kernel
theorem dX1_foresee_12 : decode cX1_foresee 12 = .ok (.getfield 21, 3) := by decide +kernel
theorem dX1_foresee_15 : decode cX1_foresee 15 = .ok (.isub, 1) := by decide +kernel
theorem dX1_foresee_16 : decode cX1_foresee 16 = .ok (.invokestatic 61, 3) := by decide +kernel
theorem dX1_foresee_19 : decode cX1_foresee 19 = .ok (.istore_n 3, 1) := by decide +kernel
theorem dX1_foresee_20 : decode cX1_foresee 20 = .ok (.iconst 0, 1) := by decide +kernel
theorem dX1_foresee_21 : decode cX1_foresee 21 = .ok (.istore 4, 2) := by decide +kernel
theorem dX1_foresee_23 : decode cX1_foresee 23 = .ok (.iload 4, 2) := by decide +kernel
theorem dX1_foresee_25 : decode cX1_foresee 25 = .ok (.iload_n 3, 1) := by decide +kernel
theorem dX1_foresee_26 : decode cX1_foresee 26 = .ok (.if_icmp .gt 26, 3) := by decide +kernel
theorem dX1_foresee_29 : decode cX1_foresee 29 = .ok (.iload 4, 2) := by decide +kernel
theorem dX1_foresee_31 : decode cX1_foresee 31 = .ok (.ifCond .le 7, 3) := by decide +kernel
theorem dX1_foresee_34 : decode cX1_foresee 34 = .ok (.aload_n 0, 1) := by decide +kernel
theorem dX1_foresee_35 : decode cX1_foresee 35 = .ok (.invokevirtual 76, 3) := by decide +kernel
theorem dX1_foresee_38 : decode cX1_foresee 38 = .ok (.aload_n 1, 1) := by decide +kernel
theorem dX1_foresee_39 : decode cX1_foresee 39 = .ok (.iload 4, 2) := by decide +kernel
theorem dX1_foresee_41 : decode cX1_foresee 41 = .ok (.aload_n 0, 1) := by decide +kernel
theorem dX1_foresee_42 : decode cX1_foresee 42 = .ok (.invokevirtual 79, 3) := by decide +kernel
theorem dX1_foresee_45 : decode cX1_foresee 45 = .ok (.iastore, 1) := by decide +kernel
theorem dX1_foresee_46 : decode cX1_foresee 46 = .ok (.iinc 4 1, 3) := by decide +kernel
theorem dX1_foresee_49 : decode cX1_foresee 49 = .ok (.goto (-26), 3) := by decide +kernel
theorem dX1_foresee_52 : decode cX1_foresee 52 = .ok (.iload_n 3, 1) := by decide +kernel
theorem dX1_foresee_53 : decode cX1_foresee 53 = .ok (.ireturn, 1) := by decide +kernel
theorem dX1_valueOf_0 : decode cX1_valueOf 0 = .ok (.aload_n 0, 1) := by decide +kernel
theorem dX1_valueOf_1 : decode cX1_valueOf 1 = .ok (.getfield 34, 3) := by decide +kernel
theorem dX1_valueOf_4 : decode cX1_valueOf 4 = .ok (.aload_n 0, 1) := by decide +kernel
theorem dX1_valueOf_5 : decode cX1_valueOf 5 = .ok (.getfield 15, 3) := by decide +kernel
theorem dX1_valueOf_8 : decode cX1_valueOf 8 = .ok (.invokevirtual 54, 3) := by decide +kernel
theorem dX1_valueOf_11 : decode cX1_valueOf 11 = .ok (.ifCond .ne 7, 3) := by decide +kernel
theorem dX1_valueOf_14 : decode cX1_valueOf 14 = .ok (.iconst 1, 1) := by decide +kernel
theorem dX1_valueOf_15 : decode cX1_valueOf 15 = .ok (.goto 4, 3) := by decide +kernel
theorem dX1_valueOf_18 : decode cX1_valueOf 18 = .ok (.iconst 0, 1) := by decide +kernel
theorem dX1_valueOf_19 : decode cX1_valueOf 19 = .ok (.istore_n 2, 1) := by decide +kernel
theorem dX1_valueOf_20 : decode cX1_valueOf 20 = .ok (.aload_n 0, 1) := by decide +kernel
theorem dX1_valueOf_21 : decode cX1_valueOf 21 = .ok (.getfield 24, 3) := by decide +kernel
theorem dX1_valueOf_24 : decode cX1_valueOf 24 = .ok (.iconst 0, 1) := by decide +kernel
theorem dX1_valueOf_25 : decode cX1_valueOf 25 = .ok (.iload_n 2, 1) := by decide +kernel
theorem dX1_valueOf_26 : decode cX1_valueOf 26 = .ok (.ifCond .eq 7, 3) := by decide +kernel
theorem dX1_valueOf_29 : decode cX1_valueOf 29 = .ok (.iconst 0, 1) := by decide +kernel
theorem dX1_valueOf_30 : decode cX1_valueOf 30 = .ok (.goto 15, 3) := by decide +kernel
theorem dX1_valueOf_33 : decode cX1_valueOf 33 = .ok (.aload_n 0, 1) := by decide +kernel
theorem dX1_valueOf_34 : decode cX1_valueOf 34 = .ok (.getfield 34, 3) := by decide +kernel
theorem dX1_valueOf_37 : decode cX1_valueOf 37 = .ok (.getfield 58, 3) := by decide +kernel
theorem dX1_valueOf_40 : decode cX1_valueOf 40 = .ok (.aload_n 0, 1) := by decide +kernel
theorem dX1_valueOf_41 : decode cX1_valueOf 41 = .ok (.getfield 15, 3) := by decide +kernel
theorem dX1_valueOf_44 : decode cX1_valueOf 44 = .ok (.iaload, 1) := by decide +kernel
theorem dX1_valueOf_45 : decode cX1_valueOf 45 = .ok (.iastore, 1) := by decide +kernel
theorem dX1_valueOf_46 : decode cX1_valueOf 46 = .ok (.aload_n 0, 1) := by decide +kernel
theorem dX1_valueOf_47 : decode cX1_valueOf 47 = .ok (.getfield 24, 3) := by decide +kernel
theorem dX1_valueOf_50 : decode cX1_valueOf 50 = .ok (.iconst 1, 1) := by decide +kernel
theorem dX1_valueOf_51 : decode cX1_valueOf 51 = .ok (.aload_n 0, 1) := by decide +kernel
theorem dX1_valueOf_52 : decode cX1_valueOf 52 = .ok (.getfield 18, 3) := by decide +kernel
theorem dX1_valueOf_55 : decode cX1_valueOf 55 = .ok (.iastore, 1) := by decide +kernel
theorem dX1_valueOf_56 : decode cX1_valueOf 56 = .ok (.aload_n 0, 1) := by decide +kernel
theorem dX1_valueOf_57 : decode cX1_valueOf 57 = .ok (.getfield 24, 3) := by decide +kernel
theorem dX1_valueOf_60 : decode cX1_valueOf 60 = .ok (.iconst 2, 1) := by decide +kernel
theorem dX1_valueOf_61 : decode cX1_valueOf 61 = .ok (.aload_n 0, 1) := by decide +kernel
theorem dX1_valueOf_62 : decode cX1_valueOf 62 = .ok (.getfield 9, 3) := by decide +kernel
theorem dX1_valueOf_65 : decode cX1_valueOf 65 = .ok (.iastore, 1) := by decide +kernel
theorem dX1_valueOf_66 : decode cX1_valueOf 66 = .ok (.aload_n 0, 1) := by decide +kernel
theorem dX1_valueOf_67 : decode cX1_valueOf 67 = .ok (.getfield 24, 3) := by decide +kernel
theorem dX1_valueOf_70 : decode cX1_valueOf 70 = .ok (.iconst 3, 1) := by decide +kernel
theorem dX1_valueOf_71 : decode cX1_valueOf 71 = .ok (.aload_n 0, 1) := by decide +kernel
theorem dX1_valueOf_72 : decode cX1_valueOf 72 = .ok (.getfield 21, 3) := by decide +kernel
theorem dX1_valueOf_75 : decode cX1_valueOf 75 = .ok (.iastore, 1) := by decide +kernel
theorem dX1_valueOf_76 : decode cX1_valueOf 76 = .ok (.aload_n 0, 1) := by decide +kernel
theorem dX1_valueOf_77 : decode cX1_valueOf 77 = .ok (.getfield 24, 3) := by decide +kernel
theorem dX1_valueOf_80 : decode cX1_valueOf 80 = .ok (.iconst 4, 1) := by decide +kernel
theorem dX1_valueOf_81 : decode cX1_valueOf 81 = .ok (.iload_n 2, 1) := by decide +kernel
theorem dX1_valueOf_82 : decode cX1_valueOf 82 = .ok (.ifCond .eq 7, 3) := by decide +kernel
theorem dX1_valueOf_85 : decode cX1_valueOf 85 = .ok (.iconst 1, 1) := by decide +kernel
theorem dX1_valueOf_86 : decode cX1_valueOf 86 = .ok (.goto 4, 3) := by decide +kernel
theorem dX1_valueOf_89 : decode cX1_valueOf 89 = .ok (.iconst 0, 1) := by decide +kernel
theorem dX1_valueOf_90 : decode cX1_valueOf 90 = .ok (.iastore, 1) := by decide +kernel
theorem dX1_valueOf_91 : decode cX1_valueOf 91 = .ok (.aload_n 0, 1) := by decide +kernel
theorem dX1_valueOf_92 : decode cX1_valueOf 92 = .ok (.getfield 24, 3) := by decide +kernel
theorem dX1_valueOf_95 : decode cX1_valueOf 95 = .ok (.iconst 5, 1) := by decide +kernel
theorem dX1_valueOf_96 : decode cX1_valueOf 96 = .ok (.iload_n 2, 1) := by decide +kernel
theorem dX1_valueOf_97 : decode cX1_valueOf 97 = .ok (.ifCond .eq 7, 3) := by decide +kernel
theorem dX1_valueOf_100 : decode cX1_valueOf 100 = .ok (.iconst 0, 1) := by decide +kernel
theorem dX1_valueOf_101 : decode cX1_valueOf 101 = .ok (.goto 15, 3) := by decide +kernel
theorem dX1_valueOf_104 : decode cX1_valueOf 104 = .ok (.aload_n 0, 1) := by decide +kernel
theorem dX1_valueOf_105 : decode cX1_valueOf 105 = .ok (.getfield 34, 3) := by decide +kernel
theorem dX1_valueOf_108 : decode cX1_valueOf 108 = .ok (.getfield 73, 3) := by decide +kernel
theorem dX1_valueOf_111 : decode cX1_valueOf 111 = .ok (.aload_n 0, 1) := by decide +kernel
theorem dX1_valueOf_112 : decode cX1_valueOf 112 = .ok (.getfield 15, 3) := by decide +kernel
theorem dX1_valueOf_115 : decode cX1_valueOf 115 = .ok (.iaload, 1) := by decide +kernel
theorem dX1_valueOf_116 : decode cX1_valueOf 116 = .ok (.iastore, 1) := by decide +kernel
theorem dX1_valueOf_117 : decode cX1_valueOf 117 = .ok (.aload_n 0, 1) := by decide +kernel
theorem dX1_valueOf_118 : decode cX1_valueOf 118 = .ok (.iconst 0, 1) := by decide +kernel
theorem dX1_valueOf_119 : decode cX1_valueOf 119 = .ok (.putfield 31, 3) := by decide +kernel
theorem dX1_valueOf_122 : decode cX1_valueOf 122 = .ok (.iconst 0, 1) := by decide +kernel
theorem dX1_valueOf_123 : decode cX1_valueOf 123 = .ok (.istore_n 3, 1) := by decide +kernel
theorem dX1_valueOf_124 : decode cX1_valueOf 124 = .ok (.iload_n 3, 1) := by decide +kernel
theorem dX1_valueOf_125 : decode cX1_valueOf 125 = .ok (.aload_n 1, 1) := by decide +kernel
theorem dX1_valueOf_126 : decode cX1_valueOf 126 = .ok (.getfield 83, 3) := by decide +kernel
theorem dX1_valueOf_129 : decode cX1_valueOf 129 = .ok (.if_icmp .ge 80, 3) := by decide +kernel
theorem dX1_valueOf_132 : decode cX1_valueOf 132 = .ok (.aload_n 1, 1) := by decide +kernel
theorem dX1_valueOf_133 : decode cX1_valueOf 133 = .ok (.getfield 86, 3) := by decide +kernel
theorem dX1_valueOf_136 : decode cX1_valueOf 136 = .ok (.iload_n 3, 1) := by decide +kernel
theorem dX1_valueOf_137 : decode cX1_valueOf 137 = .ok (.iaload, 1) := by decide +kernel
theorem dX1_valueOf_138 : decode cX1_valueOf 138 = .ok (.istore 4, 2) := by decide +kernel
theorem dX1_valueOf_140 : decode cX1_valueOf 140 = .ok (.iload 4, 2) := by decide +kernel
theorem dX1_valueOf_142 : decode cX1_valueOf 142 = .ok (.bipush (-6), 2) := by decide +kernel
theorem dX1_valueOf_144 : decode cX1_valueOf 144 = .ok (.if_icmp .ge 12, 3) := by decide +kernel
theorem dX1_valueOf_147 : decode cX1_valueOf 147 = .ok (.aload_n 0, 1) := by decide +kernel
theorem dX1_valueOf_148 : decode cX1_valueOf 148 = .ok (.iload 4, 2) := by decide +kernel
theorem dX1_valueOf_150 : decode cX1_valueOf 150 = .ok (.invokevirtual 89, 3) := by decide +kernel
theorem dX1_valueOf_153 : decode cX1_valueOf 153 = .ok (.goto 50, 3) := by decide +kernel
theorem dX1_valueOf_156 : decode cX1_valueOf 156 = .ok (.aload_n 0, 1) := by decide +kernel
theorem dX1_valueOf_157 : decode cX1_valueOf 157 = .ok (.getfield 31, 3) := by decide +kernel
theorem dX1_valueOf_160 : decode cX1_valueOf 160 = .ok (.bipush 64, 2) := by decide +kernel
theorem dX1_valueOf_162 : decode cX1_valueOf 162 = .ok (.if_icmp .ge 41, 3) := by decide +kernel
theorem dX1_valueOf_165 : decode cX1_valueOf 165 = .ok (.aload_n 0, 1) := by decide +kernel
theorem dX1_valueOf_166 : decode cX1_valueOf 166 = .ok (.getfield 28, 3) := by decide +kernel
theorem dX1_valueOf_169 : decode cX1_valueOf 169 = .ok (.aload_n 0, 1) := by decide +kernel
theorem dX1_valueOf_170 : decode cX1_valueOf 170 = .ok (.getfield 31, 3) := by decide +kernel
theorem dX1_valueOf_173 : decode cX1_valueOf 173 = .ok (.iload 4, 2) := by decide +kernel
theorem dX1_valueOf_175 : decode cX1_valueOf 175 = .ok (.ifCond .lt 8, 3) := by decide +kernel
theorem dX1_valueOf_178 : decode cX1_valueOf 178 = .ok (.iload 4, 2) := by decide +kernel
theorem dX1_valueOf_180 : decode cX1_valueOf 180 = .ok (.goto 12, 3) := by decide +kernel
theorem dX1_valueOf_183 : decode cX1_valueOf 183 = .ok (.aload_n 0, 1) := by decide +kernel
theorem dX1_valueOf_184 : decode cX1_valueOf 184 = .ok (.getfield 24, 3) := by decide +kernel
theorem dX1_valueOf_187 : decode cX1_valueOf 187 = .ok (.iconst (-1), 1) := by decide +kernel
theorem dX1_valueOf_188 : decode cX1_valueOf 188 = .ok (.iload 4, 2) := by decide +kernel
theorem dX1_valueOf_190 : decode cX1_valueOf 190 = .ok (.isub, 1) := by decide +kernel
theorem dX1_valueOf_191 : decode cX1_valueOf 191 = .ok (.iaload, 1) := by decide +kernel
theorem dX1_valueOf_192 : decode cX1_valueOf 192 = .ok (.iastore, 1) := by decide +kernel
theorem dX1_valueOf_193 : decode cX1_valueOf 193 = .ok (.aload_n 0, 1) := by decide +kernel
theorem dX1_valueOf_194 : decode cX1_valueOf 194 = .ok (.dup, 1) := by decide +kernel
theorem dX1_valueOf_195 : decode cX1_valueOf 195 = .ok (.getfield 31, 3) := by decide +kernel
theorem dX1_valueOf_198 : decode cX1_valueOf 198 = .ok (.iconst 1, 1) := by decide +kernel
theorem dX1_valueOf_199 : decode cX1_valueOf 199 = .ok (.iadd, 1) := by decide +kernel
theorem dX1_valueOf_200 : decode cX1_valueOf 200 = .ok (.putfield 31, 3) := by decide +kernel
theorem dX1_valueOf_203 : decode cX1_valueOf 203 = .ok (.iinc 3 1, 3) := by decide +kernel
theorem dX1_valueOf_206 : decode cX1_valueOf 206 = .ok (.goto (-82), 3) := by decide +kernel
theorem dX1_valueOf_209 : decode cX1_valueOf 209 = .ok (.aload_n 0, 1) := by decide +kernel
theorem dX1_valueOf_210 : decode cX1_valueOf 210 = .ok (.getfield 31, 3) := by decide +kernel
theorem dX1_valueOf_213 : decode cX1_valueOf 213 = .ok (.ifCond .le 12, 3) := by decide +kernel
theorem dX1_valueOf_216 : decode cX1_valueOf 216 = .ok (.aload_n 0, 1) := by decide +kernel
theorem dX1_valueOf_217 : decode cX1_valueOf 217 = .ok (.getfield 28, 3) := by decide +kernel
theorem dX1_valueOf_220 : decode cX1_valueOf 220 = .ok (.iconst 0, 1) := by decide +kernel
theorem dX1_valueOf_221 : decode cX1_valueOf 221 = .ok (.iaload, 1) := by decide +kernel
theorem dX1_valueOf_222 : decode cX1_valueOf 222 = .ok (.goto 4, 3) := by decide +kernel
theorem dX1_valueOf_225 : decode cX1_valueOf 225 = .ok (.iconst 0, 1) := by decide +kernel
theorem dX1_valueOf_226 : decode cX1_valueOf 226 = .ok (.ireturn, 1) := by decide +kernel
theorem dX1_join_0 : decode cX1_join 0 = .ok (.iload_n 1, 1) := by decide +kernel
theorem dX1_join_1 : decode cX1_join 1 = .ok (.bipush (-14), 2) := by decide +kernel
theorem dX1_join_3 : decode cX1_join 3 = .ok (.if_icmp .ne 7, 3) := by decide +kernel
theorem dX1_join_6 : decode cX1_join 6 = .ok (.iconst 3, 1) := by decide +kernel
theorem dX1_join_7 : decode cX1_join 7 = .ok (.goto 4, 3) := by decide +kernel
theorem dX1_join_10 : decode cX1_join 10 = .ok (.iconst 2, 1) := by decide +kernel
theorem dX1_join_11 : decode cX1_join 11 = .ok (.istore_n 2, 1) := by decide +kernel
theorem dX1_join_12 : decode cX1_join 12 = .ok (.aload_n 0, 1) := by decide +kernel
theorem dX1_join_13 : decode cX1_join 13 = .ok (.getfield 31, 3) := by decide +kernel
theorem dX1_join_16 : decode cX1_join 16 = .ok (.iload_n 2, 1) := by decide +kernel
theorem dX1_join_17 : decode cX1_join 17 = .ok (.if_icmp .ge 4, 3) := by decide +kernel
theorem dX1_join_20 : decode cX1_join 20 = .ok (.return_, 1) := by decide +kernel
theorem dX1_join_21 : decode cX1_join 21 = .ok (.aload_n 0, 1) := by decide +kernel
theorem dX1_join_22 : decode cX1_join 22 = .ok (.dup, 1) := by decide +kernel
theorem dX1_join_23 : decode cX1_join 23 = .ok (.getfield 31, 3) := by decide +kernel
theorem dX1_join_26 : decode cX1_join 26 = .ok (.iload_n 2, 1) := by decide +kernel
theorem dX1_join_27 : decode cX1_join 27 = .ok (.iconst 1, 1) := by decide +kernel
theorem dX1_join_28 : decode cX1_join 28 = .ok (.isub, 1) := by decide +kernel
theorem dX1_join_29 : decode cX1_join 29 = .ok (.isub, 1) := by decide +kernel
theorem dX1_join_30 : decode cX1_join 30 = .ok (.putfield 31, 3) := by decide +kernel
theorem dX1_join_33 : decode cX1_join 33 = .ok (.aload_n 0, 1) := by decide +kernel
theorem dX1_join_34 : decode cX1_join 34 = .ok (.getfield 31, 3) := by decide +kernel
theorem dX1_join_37 : decode cX1_join 37 = .ok (.iconst 1, 1) := by decide +kernel
theorem dX1_join_38 : decode cX1_join 38 = .ok (.isub, 1) := by decide +kernel
theorem dX1_join_39 : decode cX1_join 39 = .ok (.istore_n 3, 1) := by decide +kernel
theorem dX1_join_40 : decode cX1_join 40 = .ok (.aload_n 0, 1) := by decide +kernel
theorem dX1_join_41 : decode cX1_join 41 = .ok (.getfield 28, 3) := by decide +kernel
theorem dX1_join_44 : decode cX1_join 44 = .ok (.iload_n 3, 1) := by decide +kernel
theorem dX1_join_45 : decode cX1_join 45 = .ok (.iaload, 1) := by decide +kernel
theorem dX1_join_46 : decode cX1_join 46 = .ok (.istore 4, 2) := by decide +kernel
theorem dX1_join_48 : decode cX1_join 48 = .ok (.aload_n 0, 1) := by decide +kernel
theorem dX1_join_49 : decode cX1_join 49 = .ok (.getfield 28, 3) := by decide +kernel
theorem dX1_join_52 : decode cX1_join 52 = .ok (.iload_n 3, 1) := by decide +kernel
theorem dX1_join_53 : decode cX1_join 53 = .ok (.iconst 1, 1) := by decide +kernel
theorem dX1_join_54 : decode cX1_join 54 = .ok (.iadd, 1) := by decide +kernel
theorem dX1_join_55 : decode cX1_join 55 = .ok (.iaload, 1) := by decide +kernel
theorem dX1_join_56 : decode cX1_join 56 = .ok (.istore 5, 2) := by decide +kernel
theorem dX1_join_58 : decode cX1_join 58 = .ok (.lconst 0, 1) := by decide +kernel
theorem dX1_join_59 : decode cX1_join 59 = .ok (.lstore 6, 2) := by decide +kernel
theorem dX1_join_61 : decode cX1_join 61 = .ok (.iload_n 1, 1) := by decide +kernel
theorem dX1_join_62 : decode cX1_join 62 = .ok (.tableswitch 270 (-19) (-7) #[259, 248, 231, 214, 197, 172, 159, 146, 124, 102, 90, 78, 66], 66) := by decide +kernel
theorem dX1_join_128 : decode cX1_join 128 = .ok (.iload 4, 2) := by decide +kernel
theorem dX1_join_130 : decode cX1_join 130 = .ok (.i2l, 1) := by decide +kernel
theorem dX1_join_131 : decode cX1_join 131 = .ok (.iload 5, 2) := by decide +kernel
theorem dX1_join_133 : decode cX1_join 133 = .ok (.i2l, 1) := by decide +kernel
theorem dX1_join_134 : decode cX1_join 134 = .ok (.ladd, 1) := by decide +kernel
theorem dX1_join_135 : decode cX1_join 135 = .ok (.lstore 6, 2) := by decide +kernel
theorem dX1_join_137 : decode cX1_join 137 = .ok (.goto 195, 3) := by decide +kernel
theorem dX1_join_140 : decode cX1_join 140 = .ok (.iload 4, 2) := by decide +kernel
theorem dX1_join_142 : decode cX1_join 142 = .ok (.i2l, 1) := by decide +kernel
theorem dX1_join_143 : decode cX1_join 143 = .ok (.iload 5, 2) := by decide +kernel
theorem dX1_join_145 : decode cX1_join 145 = .ok (.i2l, 1) := by decide +kernel
theorem dX1_join_146 : decode cX1_join 146 = .ok (.lsub, 1) := by decide +kernel
theorem dX1_join_147 : decode cX1_join 147 = .ok (.lstore 6, 2) := by decide +kernel
theorem dX1_join_149 : decode cX1_join 149 = .ok (.goto 183, 3) := by decide +kernel
theorem dX1_join_152 : decode cX1_join 152 = .ok (.iload 4, 2) := by decide +kernel
theorem dX1_join_154 : decode cX1_join 154 = .ok (.i2l, 1) := by decide +kernel
theorem dX1_join_155 : decode cX1_join 155 = .ok (.iload 5, 2) := by decide +kernel
theorem dX1_join_157 : decode cX1_join 157 = .ok (.i2l, 1) := by decide +kernel
theorem dX1_join_158 : decode cX1_join 158 = .ok (.lmul, 1) := by decide +kernel
theorem dX1_join_159 : decode cX1_join 159 = .ok (.lstore 6, 2) := by decide +kernel
theorem dX1_join_161 : decode cX1_join 161 = .ok (.goto 171, 3) := by decide +kernel
theorem dX1_join_164 : decode cX1_join 164 = .ok (.iload 5, 2) := by decide +kernel
theorem dX1_join_166 : decode cX1_join 166 = .ok (.ifCond .ne 7, 3) := by decide +kernel
theorem dX1_join_169 : decode cX1_join 169 = .ok (.lconst 0, 1) := by decide +kernel
theorem dX1_join_170 : decode cX1_join 170 = .ok (.goto 11, 3) := by decide +kernel
theorem dX1_join_173 : decode cX1_join 173 = .ok (.iload 4, 2) := by decide +kernel
theorem dX1_join_175 : decode cX1_join 175 = .ok (.iload 5, 2) := by decide +kernel
theorem dX1_join_177 : decode cX1_join 177 = .ok (.invokestatic 93, 3) := by decide +kernel
theorem dX1_join_180 : decode cX1_join 180 = .ok (.i2l, 1) := by decide +kernel
theorem dX1_join_181 : decode cX1_join 181 = .ok (.lstore 6, 2) := by decide +kernel
theorem dX1_join_183 : decode cX1_join 183 = .ok (.goto 149, 3) := by decide +kernel
theorem dX1_join_186 : decode cX1_join 186 = .ok (.iload 5, 2) := by decide +kernel
theorem dX1_join_188 : decode cX1_join 188 = .ok (.ifCond .ne 7, 3) := by decide +kernel
theorem dX1_join_191 : decode cX1_join 191 = .ok (.lconst 0, 1) := by decide +kernel
theorem dX1_join_192 : decode cX1_join 192 = .ok (.goto 11, 3) := by decide +kernel
theorem dX1_join_195 : decode cX1_join 195 = .ok (.iload 4, 2) := by decide +kernel
theorem dX1_join_197 : decode cX1_join 197 = .ok (.iload 5, 2) := by decide +kernel
theorem dX1_join_199 : decode cX1_join 199 = .ok (.invokestatic 96, 3) := by decide +kernel
theorem dX1_join_202 : decode cX1_join 202 = .ok (.i2l, 1) := by decide +kernel
theorem dX1_join_203 : decode cX1_join 203 = .ok (.lstore 6, 2) := by decide +kernel
theorem dX1_join_205 : decode cX1_join 205 = .ok (.goto 127, 3) := by decide +kernel
theorem dX1_join_208 : decode cX1_join 208 = .ok (.iload 4, 2) := by decide +kernel
theorem dX1_join_210 : decode cX1_join 210 = .ok (.iload 5, 2) := by decide +kernel
theorem dX1_join_212 : decode cX1_join 212 = .ok (.invokestatic 61, 3) := by decide +kernel
theorem dX1_join_215 : decode cX1_join 215 = .ok (.i2l, 1) := by decide +kernel
theorem dX1_join_216 : decode cX1_join 216 = .ok (.lstore 6, 2) := by decide +kernel
theorem dX1_join_218 : decode cX1_join 218 = .ok (.goto 114, 3) := by decide +kernel
theorem dX1_join_221 : decode cX1_join 221 = .ok (.iload 4, 2) := by decide +kernel
theorem dX1_join_223 : decode cX1_join 223 = .ok (.iload 5, 2) := by decide +kernel
theorem dX1_join_225 : decode cX1_join 225 = .ok (.invokestatic 67, 3) := by decide +kernel
theorem dX1_join_228 : decode cX1_join 228 = .ok (.i2l, 1) := by decide +kernel
theorem dX1_join_229 : decode cX1_join 229 = .ok (.lstore 6, 2) := by decide +kernel
theorem dX1_join_231 : decode cX1_join 231 = .ok (.goto 101, 3) := by decide +kernel
theorem dX1_join_234 : decode cX1_join 234 = .ok (.iload 4, 2) := by decide +kernel
theorem dX1_join_236 : decode cX1_join 236 = .ok (.ifCond .eq 9, 3) := by decide +kernel
theorem dX1_join_239 : decode cX1_join 239 = .ok (.iload 5, 2) := by decide +kernel
theorem dX1_join_241 : decode cX1_join 241 = .ok (.i2l, 1) := by decide +kernel
theorem dX1_join_242 : decode cX1_join 242 = .ok (.goto 12, 3) := by decide +kernel
theorem dX1_join_245 : decode cX1_join 245 = .ok (.aload_n 0, 1) := by decide +kernel
theorem dX1_join_246 : decode cX1_join 246 = .ok (.getfield 28, 3) := by decide +kernel
theorem dX1_join_249 : decode cX1_join 249 = .ok (.iload_n 3, 1) := by decide +kernel
theorem dX1_join_250 : decode cX1_join 250 = .ok (.iconst 2, 1) := by decide +kernel
theorem dX1_join_251 : decode cX1_join 251 = .ok (.iadd, 1) := by decide +kernel
theorem dX1_join_252 : decode cX1_join 252 = .ok (.iaload, 1) := by decide +kernel
theorem dX1_join_253 : decode cX1_join 253 = .ok (.i2l, 1) := by decide +kernel
theorem dX1_join_254 : decode cX1_join 254 = .ok (.lstore 6, 2) := by decide +kernel
theorem dX1_join_256 : decode cX1_join 256 = .ok (.goto 76, 3) := by decide +kernel
theorem dX1_join_259 : decode cX1_join 259 = .ok (.iload 4, 2) := by decide +kernel
theorem dX1_join_261 : decode cX1_join 261 = .ok (.iload 5, 2) := by decide +kernel
theorem dX1_join_263 : decode cX1_join 263 = .ok (.if_icmp .ge 7, 3) := by decide +kernel
theorem dX1_join_266 : decode cX1_join 266 = .ok (.lconst 1, 1) := by decide +kernel
theorem dX1_join_267 : decode cX1_join 267 = .ok (.goto 4, 3) := by decide +kernel
theorem dX1_join_270 : decode cX1_join 270 = .ok (.lconst 0, 1) := by decide +kernel
theorem dX1_join_271 : decode cX1_join 271 = .ok (.lstore 6, 2) := by decide +kernel
theorem dX1_join_273 : decode cX1_join 273 = .ok (.goto 59, 3) := by decide +kernel
theorem dX1_join_276 : decode cX1_join 276 = .ok (.iload 4, 2) := by decide +kernel
theorem dX1_join_278 : decode cX1_join 278 = .ok (.iload 5, 2) := by decide +kernel
theorem dX1_join_280 : decode cX1_join 280 = .ok (.if_icmp .le 7, 3) := by decide +kernel
theorem dX1_join_283 : decode cX1_join 283 = .ok (.lconst 1, 1) := by decide +kernel
theorem dX1_join_284 : decode cX1_join 284 = .ok (.goto 4, 3) := by decide +kernel
theorem dX1_join_287 : decode cX1_join 287 = .ok (.lconst 0, 1) := by decide +kernel
theorem dX1_join_288 : decode cX1_join 288 = .ok (.lstore 6, 2) := by decide +kernel
theorem dX1_join_290 : decode cX1_join 290 = .ok (.goto 42, 3) := by decide +kernel
theorem dX1_join_293 : decode cX1_join 293 = .ok (.iload 4, 2) := by decide +kernel
theorem dX1_join_295 : decode cX1_join 295 = .ok (.iload 5, 2) := by decide +kernel
theorem dX1_join_297 : decode cX1_join 297 = .ok (.if_icmp .ne 7, 3) := by decide +kernel
theorem dX1_join_300 : decode cX1_join 300 = .ok (.lconst 1, 1) := by decide +kernel
theorem dX1_join_301 : decode cX1_join 301 = .ok (.goto 4, 3) := by decide +kernel
theorem dX1_join_304 : decode cX1_join 304 = .ok (.lconst 0, 1) := by decide +kernel
theorem dX1_join_305 : decode cX1_join 305 = .ok (.lstore 6, 2) := by decide +kernel
theorem dX1_join_307 : decode cX1_join 307 = .ok (.goto 25, 3) := by decide +kernel
theorem dX1_join_310 : decode cX1_join 310 = .ok (.iload 4, 2) := by decide +kernel
theorem dX1_join_312 : decode cX1_join 312 = .ok (.iload 5, 2) := by decide +kernel
theorem dX1_join_314 : decode cX1_join 314 = .ok (.iand, 1) := by decide +kernel
theorem dX1_join_315 : decode cX1_join 315 = .ok (.i2l, 1) := by decide +kernel
theorem dX1_join_316 : decode cX1_join 316 = .ok (.lstore 6, 2) := by decide +kernel
theorem dX1_join_318 : decode cX1_join 318 = .ok (.goto 14, 3) := by decide +kernel
theorem dX1_join_321 : decode cX1_join 321 = .ok (.iload 4, 2) := by decide +kernel
theorem dX1_join_323 : decode cX1_join 323 = .ok (.iload 5, 2) := by decide +kernel
theorem dX1_join_325 : decode cX1_join 325 = .ok (.ior, 1) := by decide +kernel
theorem dX1_join_326 : decode cX1_join 326 = .ok (.i2l, 1) := by decide +kernel
theorem dX1_join_327 : decode cX1_join 327 = .ok (.lstore 6, 2) := by decide +kernel
theorem dX1_join_329 : decode cX1_join 329 = .ok (.goto 3, 3) := by decide +kernel
theorem dX1_join_332 : decode cX1_join 332 = .ok (.aload_n 0, 1) := by decide +kernel
theorem dX1_join_333 : decode cX1_join 333 = .ok (.getfield 28, 3) := by decide +kernel
theorem dX1_join_336 : decode cX1_join 336 = .ok (.iload_n 3, 1) := by decide +kernel
theorem dX1_join_337 : decode cX1_join 337 = .ok (.ldc2_w 99, 3) := by decide +kernel
theorem dX1_join_340 : decode cX1_join 340 = .ok (.ldc2_w 101, 3) := by decide +kernel
theorem dX1_join_343 : decode cX1_join 343 = .ok (.lload 6, 2) := by decide +kernel
theorem dX1_join_345 : decode cX1_join 345 = .ok (.invokestatic 103, 3) := by decide +kernel
theorem dX1_join_348 : decode cX1_join 348 = .ok (.invokestatic 106, 3) := by decide +kernel
theorem dX1_join_351 : decode cX1_join 351 = .ok (.l2i, 1) := by decide +kernel
theorem dX1_join_352 : decode cX1_join 352 = .ok (.iastore, 1) := by decide +kernel
theorem dX1_join_353 : decode cX1_join 353 = .ok (.return_, 1) := by decide +kernel
