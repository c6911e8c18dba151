theorem dX10_init_0 : decode cX10_init 0 = .ok (.aload_n 0, 1) := by decide +kernel
theorem dX10_init_1 : decode cX10_init 1 = .ok (.invokespecial 3, 3) := by decide +kernel
theorem dX10_init_4 : decode cX10_init 4 = .ok (.aload_n 0, 1) := by decide +kernel
theorem dX10_init_5 : decode cX10_init 5 = .ok (.iconst 5, 1) := by decide +kernel
theorem dX10_init_6 : decode cX10_init 6 = .ok (.newarray .int, 2) := by decide +kernel
theorem dX10_init_8 : decode cX10_init 8 = .ok (.putfield 9, 3) := by decide +kernel
theorem dX10_init_11 : decode cX10_init 11 = .ok (.aload_n 0, 1) := by decide +kernel
theorem dX10_init_12 : decode cX10_init 12 = .ok (.bipush 61, 2) := by decide +kernel
theorem dX10_init_14 : decode cX10_init 14 = .ok (.newarray .int, 2) := by decide +kernel
theorem dX10_init_16 : decode cX10_init 16 = .ok (.putfield 15, 3) := by decide +kernel
theorem dX10_init_19 : decode cX10_init 19 = .ok (.return_, 1) := by decide +kernel
theorem dX10_stepsOf_0 : decode cX10_stepsOf 0 = .ok (.iconst 0, 1) := by decide +kernel
theorem dX10_stepsOf_1 : decode cX10_stepsOf 1 = .ok (.istore 4, 2) := by decide +kernel
theorem dX10_stepsOf_3 : decode cX10_stepsOf 3 = .ok (.iload 4, 2) := by decide +kernel
theorem dX10_stepsOf_5 : decode cX10_stepsOf 5 = .ok (.iconst 5, 1) := by decide +kernel
theorem dX10_stepsOf_6 : decode cX10_stepsOf 6 = .ok (.if_icmp .ge 28, 3) := by decide +kernel
theorem dX10_stepsOf_9 : decode cX10_stepsOf 9 = .ok (.aload_n 0, 1) := by decide +kernel
theorem dX10_stepsOf_10 : decode cX10_stepsOf 10 = .ok (.getfield 9, 3) := by decide +kernel
theorem dX10_stepsOf_13 : decode cX10_stepsOf 13 = .ok (.iload 4, 2) := by decide +kernel
theorem dX10_stepsOf_15 : decode cX10_stepsOf 15 = .ok (.iload 4, 2) := by decide +kernel
theorem dX10_stepsOf_17 : decode cX10_stepsOf 17 = .ok (.iload_n 2, 1) := by decide +kernel
theorem dX10_stepsOf_18 : decode cX10_stepsOf 18 = .ok (.if_icmp .ne 7, 3) := by decide +kernel
theorem dX10_stepsOf_21 : decode cX10_stepsOf 21 = .ok (.iconst 0, 1) := by decide +kernel
theorem dX10_stepsOf_22 : decode cX10_stepsOf 22 = .ok (.goto 5, 3) := by decide +kernel
theorem dX10_stepsOf_25 : decode cX10_stepsOf 25 = .ok (.ldc 18, 2) := by decide +kernel
theorem dX10_stepsOf_27 : decode cX10_stepsOf 27 = .ok (.iastore, 1) := by decide +kernel
theorem dX10_stepsOf_28 : decode cX10_stepsOf 28 = .ok (.iinc 4 1, 3) := by decide +kernel
theorem dX10_stepsOf_31 : decode cX10_stepsOf 31 = .ok (.goto (-28), 3) := by decide +kernel
theorem dX10_stepsOf_34 : decode cX10_stepsOf 34 = .ok (.iconst 0, 1) := by decide +kernel
theorem dX10_stepsOf_35 : decode cX10_stepsOf 35 = .ok (.istore 4, 2) := by decide +kernel
theorem dX10_stepsOf_37 : decode cX10_stepsOf 37 = .ok (.iload 4, 2) := by decide +kernel
theorem dX10_stepsOf_39 : decode cX10_stepsOf 39 = .ok (.aload_n 1, 1) := by decide +kernel
theorem dX10_stepsOf_40 : decode cX10_stepsOf 40 = .ok (.getfield 19, 3) := by decide +kernel
theorem dX10_stepsOf_43 : decode cX10_stepsOf 43 = .ok (.if_icmp .ge 77, 3) := by decide +kernel
theorem dX10_stepsOf_46 : decode cX10_stepsOf 46 = .ok (.iconst 0, 1) := by decide +kernel
theorem dX10_stepsOf_47 : decode cX10_stepsOf 47 = .ok (.istore 5, 2) := by decide +kernel
theorem dX10_stepsOf_49 : decode cX10_stepsOf 49 = .ok (.iload 5, 2) := by decide +kernel
theorem dX10_stepsOf_51 : decode cX10_stepsOf 51 = .ok (.aload_n 1, 1) := by decide +kernel
theorem dX10_stepsOf_52 : decode cX10_stepsOf 52 = .ok (.getfield 25, 3) := by decide +kernel
theorem dX10_stepsOf_55 : decode cX10_stepsOf 55 = .ok (.if_icmp .ge 59, 3) := by decide +kernel
theorem dX10_stepsOf_58 : decode cX10_stepsOf 58 = .ok (.aload_n 0, 1) := by decide +kernel
theorem dX10_stepsOf_59 : decode cX10_stepsOf 59 = .ok (.aload_n 1, 1) := by decide +kernel
theorem dX10_stepsOf_60 : decode cX10_stepsOf 60 = .ok (.getfield 28, 3) := by decide +kernel
theorem dX10_stepsOf_63 : decode cX10_stepsOf 63 = .ok (.iload 5, 2) := by decide +kernel
theorem dX10_stepsOf_65 : decode cX10_stepsOf 65 = .ok (.iaload, 1) := by decide +kernel
theorem dX10_stepsOf_66 : decode cX10_stepsOf 66 = .ok (.aload_n 1, 1) := by decide +kernel
theorem dX10_stepsOf_67 : decode cX10_stepsOf 67 = .ok (.getfield 31, 3) := by decide +kernel
theorem dX10_stepsOf_70 : decode cX10_stepsOf 70 = .ok (.iload 5, 2) := by decide +kernel
theorem dX10_stepsOf_72 : decode cX10_stepsOf 72 = .ok (.iaload, 1) := by decide +kernel
theorem dX10_stepsOf_73 : decode cX10_stepsOf 73 = .ok (.aload_n 1, 1) := by decide +kernel
theorem dX10_stepsOf_74 : decode cX10_stepsOf 74 = .ok (.getfield 34, 3) := by decide +kernel
theorem dX10_stepsOf_77 : decode cX10_stepsOf 77 = .ok (.iload 5, 2) := by decide +kernel
theorem dX10_stepsOf_79 : decode cX10_stepsOf 79 = .ok (.iaload, 1) := by decide +kernel
theorem dX10_stepsOf_80 : decode cX10_stepsOf 80 = .ok (.invokevirtual 37, 3) := by decide +kernel
theorem dX10_stepsOf_83 : decode cX10_stepsOf 83 = .ok (.aload_n 0, 1) := by decide +kernel
theorem dX10_stepsOf_84 : decode cX10_stepsOf 84 = .ok (.aload_n 1, 1) := by decide +kernel
theorem dX10_stepsOf_85 : decode cX10_stepsOf 85 = .ok (.getfield 31, 3) := by decide +kernel
theorem dX10_stepsOf_88 : decode cX10_stepsOf 88 = .ok (.iload 5, 2) := by decide +kernel
theorem dX10_stepsOf_90 : decode cX10_stepsOf 90 = .ok (.iaload, 1) := by decide +kernel
theorem dX10_stepsOf_91 : decode cX10_stepsOf 91 = .ok (.aload_n 1, 1) := by decide +kernel
theorem dX10_stepsOf_92 : decode cX10_stepsOf 92 = .ok (.getfield 28, 3) := by decide +kernel
theorem dX10_stepsOf_95 : decode cX10_stepsOf 95 = .ok (.iload 5, 2) := by decide +kernel
theorem dX10_stepsOf_97 : decode cX10_stepsOf 97 = .ok (.iaload, 1) := by decide +kernel
theorem dX10_stepsOf_98 : decode cX10_stepsOf 98 = .ok (.aload_n 1, 1) := by decide +kernel
theorem dX10_stepsOf_99 : decode cX10_stepsOf 99 = .ok (.getfield 34, 3) := by decide +kernel
theorem dX10_stepsOf_102 : decode cX10_stepsOf 102 = .ok (.iload 5, 2) := by decide +kernel
theorem dX10_stepsOf_104 : decode cX10_stepsOf 104 = .ok (.iaload, 1) := by decide +kernel
theorem dX10_stepsOf_105 : decode cX10_stepsOf 105 = .ok (.invokevirtual 37, 3) := by decide +kernel
theorem dX10_stepsOf_108 : decode cX10_stepsOf 108 = .ok (.iinc 5 1, 3) := by decide +kernel
theorem dX10_stepsOf_111 : decode cX10_stepsOf 111 = .ok (.goto (-62), 3) := by decide +kernel
theorem dX10_stepsOf_114 : decode cX10_stepsOf 114 = .ok (.iinc 4 1, 3) := by decide +kernel
theorem dX10_stepsOf_117 : decode cX10_stepsOf 117 = .ok (.goto (-80), 3) := by decide +kernel
theorem dX10_stepsOf_120 : decode cX10_stepsOf 120 = .ok (.aload_n 1, 1) := by decide +kernel
theorem dX10_stepsOf_121 : decode cX10_stepsOf 121 = .ok (.iload_n 3, 1) := by decide +kernel
theorem dX10_stepsOf_122 : decode cX10_stepsOf 122 = .ok (.invokevirtual 41, 3) := by decide +kernel
theorem dX10_stepsOf_125 : decode cX10_stepsOf 125 = .ok (.ifCond .eq 23, 3) := by decide +kernel
theorem dX10_stepsOf_128 : decode cX10_stepsOf 128 = .ok (.aload_n 0, 1) := by decide +kernel
theorem dX10_stepsOf_129 : decode cX10_stepsOf 129 = .ok (.getfield 9, 3) := by decide +kernel
theorem dX10_stepsOf_132 : decode cX10_stepsOf 132 = .ok (.iload_n 3, 1) := by decide +kernel
theorem dX10_stepsOf_133 : decode cX10_stepsOf 133 = .ok (.iaload, 1) := by decide +kernel
theorem dX10_stepsOf_134 : decode cX10_stepsOf 134 = .ok (.ldc 18, 2) := by decide +kernel
theorem dX10_stepsOf_136 : decode cX10_stepsOf 136 = .ok (.if_icmp .ge 12, 3) := by decide +kernel
theorem dX10_stepsOf_139 : decode cX10_stepsOf 139 = .ok (.aload_n 0, 1) := by decide +kernel
theorem dX10_stepsOf_140 : decode cX10_stepsOf 140 = .ok (.getfield 9, 3) := by decide +kernel
theorem dX10_stepsOf_143 : decode cX10_stepsOf 143 = .ok (.iload_n 3, 1) := by decide +kernel
theorem dX10_stepsOf_144 : decode cX10_stepsOf 144 = .ok (.iaload, 1) := by decide +kernel
theorem dX10_stepsOf_145 : decode cX10_stepsOf 145 = .ok (.goto 4, 3) := by decide +kernel
theorem dX10_stepsOf_148 : decode cX10_stepsOf 148 = .ok (.iconst (-1), 1) := by decide +kernel
theorem dX10_stepsOf_149 : decode cX10_stepsOf 149 = .ok (.ireturn, 1) := by decide +kernel
theorem dX10_shorten_0 : decode cX10_shorten 0 = .ok (.aload_n 0, 1) := by decide +kernel
theorem dX10_shorten_1 : decode cX10_shorten 1 = .ok (.getfield 9, 3) := by decide +kernel
theorem dX10_shorten_4 : decode cX10_shorten 4 = .ok (.iload_n 2, 1) := by decide +kernel
theorem dX10_shorten_5 : decode cX10_shorten 5 = .ok (.aload_n 0, 1) := by decide +kernel
theorem dX10_shorten_6 : decode cX10_shorten 6 = .ok (.getfield 9, 3) := by decide +kernel
theorem dX10_shorten_9 : decode cX10_shorten 9 = .ok (.iload_n 2, 1) := by decide +kernel
theorem dX10_shorten_10 : decode cX10_shorten 10 = .ok (.iaload, 1) := by decide +kernel
theorem dX10_shorten_11 : decode cX10_shorten 11 = .ok (.aload_n 0, 1) := by decide +kernel
theorem dX10_shorten_12 : decode cX10_shorten 12 = .ok (.getfield 9, 3) := by decide +kernel
theorem dX10_shorten_15 : decode cX10_shorten 15 = .ok (.iload_n 1, 1) := by decide +kernel
theorem dX10_shorten_16 : decode cX10_shorten 16 = .ok (.iaload, 1) := by decide +kernel
theorem dX10_shorten_17 : decode cX10_shorten 17 = .ok (.iload_n 3, 1) := by decide +kernel
theorem dX10_shorten_18 : decode cX10_shorten 18 = .ok (.iadd, 1) := by decide +kernel
theorem dX10_shorten_19 : decode cX10_shorten 19 = .ok (.invokestatic 45, 3) := by decide +kernel
theorem dX10_shorten_22 : decode cX10_shorten 22 = .ok (.iastore, 1) := by decide +kernel
theorem dX10_shorten_23 : decode cX10_shorten 23 = .ok (.return_, 1) := by decide +kernel
theorem dX10_goOutFrom_0 : decode cX10_goOutFrom 0 = .ok (.aload_n 0, 1) := by decide +kernel
theorem dX10_goOutFrom_1 : decode cX10_goOutFrom 1 = .ok (.getfield 15, 3) := by decide +kernel
theorem dX10_goOutFrom_4 : decode cX10_goOutFrom 4 = .ok (.iconst 0, 1) := by decide +kernel
theorem dX10_goOutFrom_5 : decode cX10_goOutFrom 5 = .ok (.iconst 1, 1) := by decide +kernel
theorem dX10_goOutFrom_6 : decode cX10_goOutFrom 6 = .ok (.iload_n 2, 1) := by decide +kernel
theorem dX10_goOutFrom_7 : decode cX10_goOutFrom 7 = .ok (.ishl, 1) := by decide +kernel
theorem dX10_goOutFrom_8 : decode cX10_goOutFrom 8 = .ok (.iastore, 1) := by decide +kernel
theorem dX10_goOutFrom_9 : decode cX10_goOutFrom 9 = .ok (.iconst 1, 1) := by decide +kernel
theorem dX10_goOutFrom_10 : decode cX10_goOutFrom 10 = .ok (.istore_n 3, 1) := by decide +kernel
theorem dX10_goOutFrom_11 : decode cX10_goOutFrom 11 = .ok (.iload_n 3, 1) := by decide +kernel
theorem dX10_goOutFrom_12 : decode cX10_goOutFrom 12 = .ok (.bipush 60, 2) := by decide +kernel
theorem dX10_goOutFrom_14 : decode cX10_goOutFrom 14 = .ok (.if_icmp .gt 72, 3) := by decide +kernel
theorem dX10_goOutFrom_17 : decode cX10_goOutFrom 17 = .ok (.aload_n 0, 1) := by decide +kernel
theorem dX10_goOutFrom_18 : decode cX10_goOutFrom 18 = .ok (.getfield 15, 3) := by decide +kernel
theorem dX10_goOutFrom_21 : decode cX10_goOutFrom 21 = .ok (.iload_n 3, 1) := by decide +kernel
theorem dX10_goOutFrom_22 : decode cX10_goOutFrom 22 = .ok (.iconst 0, 1) := by decide +kernel
theorem dX10_goOutFrom_23 : decode cX10_goOutFrom 23 = .ok (.iastore, 1) := by decide +kernel
theorem dX10_goOutFrom_24 : decode cX10_goOutFrom 24 = .ok (.iconst 0, 1) := by decide +kernel
theorem dX10_goOutFrom_25 : decode cX10_goOutFrom 25 = .ok (.istore 4, 2) := by decide +kernel
theorem dX10_goOutFrom_27 : decode cX10_goOutFrom 27 = .ok (.iload 4, 2) := by decide +kernel
theorem dX10_goOutFrom_29 : decode cX10_goOutFrom 29 = .ok (.aload_n 1, 1) := by decide +kernel
theorem dX10_goOutFrom_30 : decode cX10_goOutFrom 30 = .ok (.getfield 25, 3) := by decide +kernel
theorem dX10_goOutFrom_33 : decode cX10_goOutFrom 33 = .ok (.if_icmp .ge 47, 3) := by decide +kernel
theorem dX10_goOutFrom_36 : decode cX10_goOutFrom 36 = .ok (.iload_n 3, 1) := by decide +kernel
theorem dX10_goOutFrom_37 : decode cX10_goOutFrom 37 = .ok (.aload_n 1, 1) := by decide +kernel
theorem dX10_goOutFrom_38 : decode cX10_goOutFrom 38 = .ok (.getfield 34, 3) := by decide +kernel
theorem dX10_goOutFrom_41 : decode cX10_goOutFrom 41 = .ok (.iload 4, 2) := by decide +kernel
theorem dX10_goOutFrom_43 : decode cX10_goOutFrom 43 = .ok (.iaload, 1) := by decide +kernel
theorem dX10_goOutFrom_44 : decode cX10_goOutFrom 44 = .ok (.isub, 1) := by decide +kernel
theorem dX10_goOutFrom_45 : decode cX10_goOutFrom 45 = .ok (.istore 5, 2) := by decide +kernel
theorem dX10_goOutFrom_47 : decode cX10_goOutFrom 47 = .ok (.iload 5, 2) := by decide +kernel
theorem dX10_goOutFrom_49 : decode cX10_goOutFrom 49 = .ok (.ifCond .lt 25, 3) := by decide +kernel
theorem dX10_goOutFrom_52 : decode cX10_goOutFrom 52 = .ok (.aload_n 0, 1) := by decide +kernel
theorem dX10_goOutFrom_53 : decode cX10_goOutFrom 53 = .ok (.getfield 15, 3) := by decide +kernel
theorem dX10_goOutFrom_56 : decode cX10_goOutFrom 56 = .ok (.iload_n 3, 1) := by decide +kernel
theorem dX10_goOutFrom_57 : decode cX10_goOutFrom 57 = .ok (.dup2, 1) := by decide +kernel
theorem dX10_goOutFrom_58 : decode cX10_goOutFrom 58 = .ok (.iaload, 1) := by decide +kernel
theorem dX10_goOutFrom_59 : decode cX10_goOutFrom 59 = .ok (.aload_n 1, 1) := by decide +kernel
theorem dX10_goOutFrom_60 : decode cX10_goOutFrom 60 = .ok (.iload 4, 2) := by decide +kernel
theorem dX10_goOutFrom_62 : decode cX10_goOutFrom 62 = .ok (.aload_n 0, 1) := by decide +kernel
theorem dX10_goOutFrom_63 : decode cX10_goOutFrom 63 = .ok (.getfield 15, 3) := by decide +kernel
theorem dX10_goOutFrom_66 : decode cX10_goOutFrom 66 = .ok (.iload 5, 2) := by decide +kernel
theorem dX10_goOutFrom_68 : decode cX10_goOutFrom 68 = .ok (.iaload, 1) := by decide +kernel
theorem dX10_goOutFrom_69 : decode cX10_goOutFrom 69 = .ok (.invokestatic 51, 3) := by decide +kernel
theorem dX10_goOutFrom_72 : decode cX10_goOutFrom 72 = .ok (.ior, 1) := by decide +kernel
theorem dX10_goOutFrom_73 : decode cX10_goOutFrom 73 = .ok (.iastore, 1) := by decide +kernel
theorem dX10_goOutFrom_74 : decode cX10_goOutFrom 74 = .ok (.iinc 4 1, 3) := by decide +kernel
theorem dX10_goOutFrom_77 : decode cX10_goOutFrom 77 = .ok (.goto (-50), 3) := by decide +kernel
theorem dX10_goOutFrom_80 : decode cX10_goOutFrom 80 = .ok (.iinc 3 1, 3) := by decide +kernel
theorem dX10_goOutFrom_83 : decode cX10_goOutFrom 83 = .ok (.goto (-72), 3) := by decide +kernel
theorem dX10_goOutFrom_86 : decode cX10_goOutFrom 86 = .ok (.return_, 1) := by decide +kernel
theorem dX10_across_0 : decode cX10_across 0 = .ok (.aload_n 0, 1) := by decide +kernel
theorem dX10_across_1 : decode cX10_across 1 = .ok (.getfield 28, 3) := by decide +kernel
theorem dX10_across_4 : decode cX10_across 4 = .ok (.iload_n 1, 1) := by decide +kernel
theorem dX10_across_5 : decode cX10_across 5 = .ok (.iaload, 1) := by decide +kernel
theorem dX10_across_6 : decode cX10_across 6 = .ok (.istore_n 3, 1) := by decide +kernel
theorem dX10_across_7 : decode cX10_across 7 = .ok (.aload_n 0, 1) := by decide +kernel
theorem dX10_across_8 : decode cX10_across 8 = .ok (.getfield 31, 3) := by decide +kernel
theorem dX10_across_11 : decode cX10_across 11 = .ok (.iload_n 1, 1) := by decide +kernel
theorem dX10_across_12 : decode cX10_across 12 = .ok (.iaload, 1) := by decide +kernel
theorem dX10_across_13 : decode cX10_across 13 = .ok (.istore 4, 2) := by decide +kernel
theorem dX10_across_15 : decode cX10_across 15 = .ok (.iload_n 2, 1) := by decide +kernel
theorem dX10_across_16 : decode cX10_across 16 = .ok (.iload_n 3, 1) := by decide +kernel
theorem dX10_across_17 : decode cX10_across 17 = .ok (.ishr, 1) := by decide +kernel
theorem dX10_across_18 : decode cX10_across 18 = .ok (.iconst 1, 1) := by decide +kernel
theorem dX10_across_19 : decode cX10_across 19 = .ok (.iand, 1) := by decide +kernel
theorem dX10_across_20 : decode cX10_across 20 = .ok (.iload 4, 2) := by decide +kernel
theorem dX10_across_22 : decode cX10_across 22 = .ok (.ishl, 1) := by decide +kernel
theorem dX10_across_23 : decode cX10_across 23 = .ok (.iload_n 2, 1) := by decide +kernel
theorem dX10_across_24 : decode cX10_across 24 = .ok (.iload 4, 2) := by decide +kernel
theorem dX10_across_26 : decode cX10_across 26 = .ok (.ishr, 1) := by decide +kernel
theorem dX10_across_27 : decode cX10_across 27 = .ok (.iconst 1, 1) := by decide +kernel
theorem dX10_across_28 : decode cX10_across 28 = .ok (.iand, 1) := by decide +kernel
theorem dX10_across_29 : decode cX10_across 29 = .ok (.iload_n 3, 1) := by decide +kernel
theorem dX10_across_30 : decode cX10_across 30 = .ok (.ishl, 1) := by decide +kernel
theorem dX10_across_31 : decode cX10_across 31 = .ok (.ior, 1) := by decide +kernel
theorem dX10_across_32 : decode cX10_across 32 = .ok (.ireturn, 1) := by decide +kernel
theorem dX10_canBeAt_0 : decode cX10_canBeAt 0 = .ok (.iload_n 2, 1) := by decide +kernel
theorem dX10_canBeAt_1 : decode cX10_canBeAt 1 = .ok (.ifCond .lt 27, 3) := by decide +kernel
theorem dX10_canBeAt_4 : decode cX10_canBeAt 4 = .ok (.iload_n 2, 1) := by decide +kernel
theorem dX10_canBeAt_5 : decode cX10_canBeAt 5 = .ok (.bipush 60, 2) := by decide +kernel
theorem dX10_canBeAt_7 : decode cX10_canBeAt 7 = .ok (.if_icmp .gt 21, 3) := by decide +kernel
theorem dX10_canBeAt_10 : decode cX10_canBeAt 10 = .ok (.aload_n 0, 1) := by decide +kernel
theorem dX10_canBeAt_11 : decode cX10_canBeAt 11 = .ok (.getfield 15, 3) := by decide +kernel
theorem dX10_canBeAt_14 : decode cX10_canBeAt 14 = .ok (.iload_n 2, 1) := by decide +kernel
theorem dX10_canBeAt_15 : decode cX10_canBeAt 15 = .ok (.iaload, 1) := by decide +kernel
theorem dX10_canBeAt_16 : decode cX10_canBeAt 16 = .ok (.iload_n 1, 1) := by decide +kernel
theorem dX10_canBeAt_17 : decode cX10_canBeAt 17 = .ok (.ishr, 1) := by decide +kernel
theorem dX10_canBeAt_18 : decode cX10_canBeAt 18 = .ok (.iconst 1, 1) := by decide +kernel
theorem dX10_canBeAt_19 : decode cX10_canBeAt 19 = .ok (.iand, 1) := by decide +kernel
theorem dX10_canBeAt_20 : decode cX10_canBeAt 20 = .ok (.iconst 1, 1) := by decide +kernel
theorem dX10_canBeAt_21 : decode cX10_canBeAt 21 = .ok (.if_icmp .ne 7, 3) := by decide +kernel
theorem dX10_canBeAt_24 : decode cX10_canBeAt 24 = .ok (.iconst 1, 1) := by decide +kernel
theorem dX10_canBeAt_25 : decode cX10_canBeAt 25 = .ok (.goto 4, 3) := by decide +kernel
theorem dX10_canBeAt_28 : decode cX10_canBeAt 28 = .ok (.iconst 0, 1) := by decide +kernel
theorem dX10_canBeAt_29 : decode cX10_canBeAt 29 = .ok (.ireturn, 1) := by decide +kernel
