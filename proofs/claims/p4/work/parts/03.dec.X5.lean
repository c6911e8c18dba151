theorem dX5_init_0 : decode cX5_init 0 = .ok (.aload_n 0, 1) := by decide +kernel
theorem dX5_init_1 : decode cX5_init 1 = .ok (.invokespecial 3, 3) := by decide +kernel
theorem dX5_init_4 : decode cX5_init 4 = .ok (.aload_n 0, 1) := by decide +kernel
theorem dX5_init_5 : decode cX5_init 5 = .ok (.iconst 0, 1) := by decide +kernel
theorem dX5_init_6 : decode cX5_init 6 = .ok (.putfield 9, 3) := by decide +kernel
theorem dX5_init_9 : decode cX5_init 9 = .ok (.aload_n 0, 1) := by decide +kernel
theorem dX5_init_10 : decode cX5_init 10 = .ok (.bipush 16, 2) := by decide +kernel
theorem dX5_init_12 : decode cX5_init 12 = .ok (.newarray .int, 2) := by decide +kernel
theorem dX5_init_14 : decode cX5_init 14 = .ok (.putfield 15, 3) := by decide +kernel
theorem dX5_init_17 : decode cX5_init 17 = .ok (.aload_n 0, 1) := by decide +kernel
theorem dX5_init_18 : decode cX5_init 18 = .ok (.bipush 16, 2) := by decide +kernel
theorem dX5_init_20 : decode cX5_init 20 = .ok (.newarray .int, 2) := by decide +kernel
theorem dX5_init_22 : decode cX5_init 22 = .ok (.putfield 19, 3) := by decide +kernel
theorem dX5_init_25 : decode cX5_init 25 = .ok (.aload_n 0, 1) := by decide +kernel
theorem dX5_init_26 : decode cX5_init 26 = .ok (.bipush 16, 2) := by decide +kernel
theorem dX5_init_28 : decode cX5_init 28 = .ok (.newarray .int, 2) := by decide +kernel
theorem dX5_init_30 : decode cX5_init 30 = .ok (.putfield 22, 3) := by decide +kernel
theorem dX5_init_33 : decode cX5_init 33 = .ok (.aload_n 0, 1) := by decide +kernel
theorem dX5_init_34 : decode cX5_init 34 = .ok (.bipush 7, 2) := by decide +kernel
theorem dX5_init_36 : decode cX5_init 36 = .ok (.bipush 41, 2) := by decide +kernel
theorem dX5_init_38 : decode cX5_init 38 = .ok (.multianewarray 25 2, 4) := by decide +kernel
theorem dX5_init_42 : decode cX5_init 42 = .ok (.putfield 27, 3) := by decide +kernel
theorem dX5_init_45 : decode cX5_init 45 = .ok (.return_, 1) := by decide +kernel
theorem dX5_read_0 : decode cX5_read 0 = .ok (.aload_n 1, 1) := by decide +kernel
theorem dX5_read_1 : decode cX5_read 1 = .ok (.getfield 30, 3) := by decide +kernel
theorem dX5_read_4 : decode cX5_read 4 = .ok (.iconst 3, 1) := by decide +kernel
theorem dX5_read_5 : decode cX5_read 5 = .ok (.idiv, 1) := by decide +kernel
theorem dX5_read_6 : decode cX5_read 6 = .ok (.istore_n 3, 1) := by decide +kernel
theorem dX5_read_7 : decode cX5_read 7 = .ok (.iload_n 3, 1) := by decide +kernel
theorem dX5_read_8 : decode cX5_read 8 = .ok (.iconst 1, 1) := by decide +kernel
theorem dX5_read_9 : decode cX5_read 9 = .ok (.if_icmp .lt 19, 3) := by decide +kernel
theorem dX5_read_12 : decode cX5_read 12 = .ok (.iload_n 3, 1) := by decide +kernel
theorem dX5_read_13 : decode cX5_read 13 = .ok (.bipush 16, 2) := by decide +kernel
theorem dX5_read_15 : decode cX5_read 15 = .ok (.if_icmp .gt 13, 3) := by decide +kernel
theorem dX5_read_18 : decode cX5_read 18 = .ok (.aload_n 1, 1) := by decide +kernel
theorem dX5_read_19 : decode cX5_read 19 = .ok (.getfield 30, 3) := by decide +kernel
theorem dX5_read_22 : decode cX5_read 22 = .ok (.iconst 3, 1) := by decide +kernel
theorem dX5_read_23 : decode cX5_read 23 = .ok (.iload_n 3, 1) := by decide +kernel
theorem dX5_read_24 : decode cX5_read 24 = .ok (.imul, 1) := by decide +kernel
theorem dX5_read_25 : decode cX5_read 25 = .ok (.if_icmp .eq 5, 3) := by decide +kernel
theorem dX5_read_28 : decode cX5_read 28 = .ok (.iconst 0, 1) := by decide +kernel
theorem dX5_read_29 : decode cX5_read 29 = .ok (.ireturn, 1) := by decide +kernel
theorem dX5_read_30 : decode cX5_read 30 = .ok (.iconst 0, 1) := by decide +kernel
theorem dX5_read_31 : decode cX5_read 31 = .ok (.istore 4, 2) := by decide +kernel
theorem dX5_read_33 : decode cX5_read 33 = .ok (.iload 4, 2) := by decide +kernel
theorem dX5_read_35 : decode cX5_read 35 = .ok (.iload_n 3, 1) := by decide +kernel
theorem dX5_read_36 : decode cX5_read 36 = .ok (.if_icmp .ge 68, 3) := by decide +kernel
theorem dX5_read_39 : decode cX5_read 39 = .ok (.aload_n 1, 1) := by decide +kernel
theorem dX5_read_40 : decode cX5_read 40 = .ok (.iconst 3, 1) := by decide +kernel
theorem dX5_read_41 : decode cX5_read 41 = .ok (.iload 4, 2) := by decide +kernel
theorem dX5_read_43 : decode cX5_read 43 = .ok (.imul, 1) := by decide +kernel
theorem dX5_read_44 : decode cX5_read 44 = .ok (.invokevirtual 35, 3) := by decide +kernel
theorem dX5_read_47 : decode cX5_read 47 = .ok (.bipush 40, 2) := by decide +kernel
theorem dX5_read_49 : decode cX5_read 49 = .ok (.if_icmp .gt 24, 3) := by decide +kernel
theorem dX5_read_52 : decode cX5_read 52 = .ok (.aload_n 2, 1) := by decide +kernel
theorem dX5_read_53 : decode cX5_read 53 = .ok (.aload_n 1, 1) := by decide +kernel
theorem dX5_read_54 : decode cX5_read 54 = .ok (.iconst 3, 1) := by decide +kernel
theorem dX5_read_55 : decode cX5_read 55 = .ok (.iload 4, 2) := by decide +kernel
theorem dX5_read_57 : decode cX5_read 57 = .ok (.imul, 1) := by decide +kernel
theorem dX5_read_58 : decode cX5_read 58 = .ok (.iconst 1, 1) := by decide +kernel
theorem dX5_read_59 : decode cX5_read 59 = .ok (.iadd, 1) := by decide +kernel
theorem dX5_read_60 : decode cX5_read 60 = .ok (.invokevirtual 35, 3) := by decide +kernel
theorem dX5_read_63 : decode cX5_read 63 = .ok (.invokevirtual 39, 3) := by decide +kernel
theorem dX5_read_66 : decode cX5_read 66 = .ok (.ifCond .eq 7, 3) := by decide +kernel
theorem dX5_read_69 : decode cX5_read 69 = .ok (.iconst 1, 1) := by decide +kernel
theorem dX5_read_70 : decode cX5_read 70 = .ok (.goto 4, 3) := by decide +kernel
theorem dX5_read_73 : decode cX5_read 73 = .ok (.iconst 0, 1) := by decide +kernel
theorem dX5_read_74 : decode cX5_read 74 = .ok (.istore 5, 2) := by decide +kernel
theorem dX5_read_76 : decode cX5_read 76 = .ok (.iload 5, 2) := by decide +kernel
theorem dX5_read_78 : decode cX5_read 78 = .ok (.ifCond .eq 18, 3) := by decide +kernel
theorem dX5_read_81 : decode cX5_read 81 = .ok (.aload_n 1, 1) := by decide +kernel
theorem dX5_read_82 : decode cX5_read 82 = .ok (.iconst 3, 1) := by decide +kernel
theorem dX5_read_83 : decode cX5_read 83 = .ok (.iload 4, 2) := by decide +kernel
theorem dX5_read_85 : decode cX5_read 85 = .ok (.imul, 1) := by decide +kernel
theorem dX5_read_86 : decode cX5_read 86 = .ok (.iconst 2, 1) := by decide +kernel
theorem dX5_read_87 : decode cX5_read 87 = .ok (.iadd, 1) := by decide +kernel
theorem dX5_read_88 : decode cX5_read 88 = .ok (.invokevirtual 35, 3) := by decide +kernel
theorem dX5_read_91 : decode cX5_read 91 = .ok (.bipush 23, 2) := by decide +kernel
theorem dX5_read_93 : decode cX5_read 93 = .ok (.if_icmp .le 5, 3) := by decide +kernel
theorem dX5_read_96 : decode cX5_read 96 = .ok (.iconst 0, 1) := by decide +kernel
theorem dX5_read_97 : decode cX5_read 97 = .ok (.ireturn, 1) := by decide +kernel
theorem dX5_read_98 : decode cX5_read 98 = .ok (.iinc 4 1, 3) := by decide +kernel
theorem dX5_read_101 : decode cX5_read 101 = .ok (.goto (-68), 3) := by decide +kernel
theorem dX5_read_104 : decode cX5_read 104 = .ok (.iconst 0, 1) := by decide +kernel
theorem dX5_read_105 : decode cX5_read 105 = .ok (.istore 4, 2) := by decide +kernel
theorem dX5_read_107 : decode cX5_read 107 = .ok (.iload 4, 2) := by decide +kernel
theorem dX5_read_109 : decode cX5_read 109 = .ok (.iload_n 3, 1) := by decide +kernel
theorem dX5_read_110 : decode cX5_read 110 = .ok (.if_icmp .ge 58, 3) := by decide +kernel
theorem dX5_read_113 : decode cX5_read 113 = .ok (.aload_n 0, 1) := by decide +kernel
theorem dX5_read_114 : decode cX5_read 114 = .ok (.getfield 15, 3) := by decide +kernel
theorem dX5_read_117 : decode cX5_read 117 = .ok (.iload 4, 2) := by decide +kernel
theorem dX5_read_119 : decode cX5_read 119 = .ok (.aload_n 1, 1) := by decide +kernel
theorem dX5_read_120 : decode cX5_read 120 = .ok (.iconst 3, 1) := by decide +kernel
theorem dX5_read_121 : decode cX5_read 121 = .ok (.iload 4, 2) := by decide +kernel
theorem dX5_read_123 : decode cX5_read 123 = .ok (.imul, 1) := by decide +kernel
theorem dX5_read_124 : decode cX5_read 124 = .ok (.invokevirtual 35, 3) := by decide +kernel
theorem dX5_read_127 : decode cX5_read 127 = .ok (.iastore, 1) := by decide +kernel
theorem dX5_read_128 : decode cX5_read 128 = .ok (.aload_n 0, 1) := by decide +kernel
theorem dX5_read_129 : decode cX5_read 129 = .ok (.getfield 19, 3) := by decide +kernel
theorem dX5_read_132 : decode cX5_read 132 = .ok (.iload 4, 2) := by decide +kernel
theorem dX5_read_134 : decode cX5_read 134 = .ok (.aload_n 1, 1) := by decide +kernel
theorem dX5_read_135 : decode cX5_read 135 = .ok (.iconst 3, 1) := by decide +kernel
theorem dX5_read_136 : decode cX5_read 136 = .ok (.iload 4, 2) := by decide +kernel
theorem dX5_read_138 : decode cX5_read 138 = .ok (.imul, 1) := by decide +kernel
theorem dX5_read_139 : decode cX5_read 139 = .ok (.iconst 1, 1) := by decide +kernel
theorem dX5_read_140 : decode cX5_read 140 = .ok (.iadd, 1) := by decide +kernel
theorem dX5_read_141 : decode cX5_read 141 = .ok (.invokevirtual 35, 3) := by decide +kernel
theorem dX5_read_144 : decode cX5_read 144 = .ok (.iastore, 1) := by decide +kernel
theorem dX5_read_145 : decode cX5_read 145 = .ok (.aload_n 0, 1) := by decide +kernel
theorem dX5_read_146 : decode cX5_read 146 = .ok (.getfield 22, 3) := by decide +kernel
theorem dX5_read_149 : decode cX5_read 149 = .ok (.iload 4, 2) := by decide +kernel
theorem dX5_read_151 : decode cX5_read 151 = .ok (.aload_n 1, 1) := by decide +kernel
theorem dX5_read_152 : decode cX5_read 152 = .ok (.iconst 3, 1) := by decide +kernel
theorem dX5_read_153 : decode cX5_read 153 = .ok (.iload 4, 2) := by decide +kernel
theorem dX5_read_155 : decode cX5_read 155 = .ok (.imul, 1) := by decide +kernel
theorem dX5_read_156 : decode cX5_read 156 = .ok (.iconst 2, 1) := by decide +kernel
theorem dX5_read_157 : decode cX5_read 157 = .ok (.iadd, 1) := by decide +kernel
theorem dX5_read_158 : decode cX5_read 158 = .ok (.invokevirtual 35, 3) := by decide +kernel
theorem dX5_read_161 : decode cX5_read 161 = .ok (.iastore, 1) := by decide +kernel
theorem dX5_read_162 : decode cX5_read 162 = .ok (.iinc 4 1, 3) := by decide +kernel
theorem dX5_read_165 : decode cX5_read 165 = .ok (.goto (-58), 3) := by decide +kernel
theorem dX5_read_168 : decode cX5_read 168 = .ok (.aload_n 0, 1) := by decide +kernel
theorem dX5_read_169 : decode cX5_read 169 = .ok (.iload_n 3, 1) := by decide +kernel
theorem dX5_read_170 : decode cX5_read 170 = .ok (.putfield 9, 3) := by decide +kernel
theorem dX5_read_173 : decode cX5_read 173 = .ok (.iconst 1, 1) := by decide +kernel
theorem dX5_read_174 : decode cX5_read 174 = .ok (.ireturn, 1) := by decide +kernel
theorem dX5_isAbout_0 : decode cX5_isAbout 0 = .ok (.iconst 0, 1) := by decide +kernel
theorem dX5_isAbout_1 : decode cX5_isAbout 1 = .ok (.istore_n 2, 1) := by decide +kernel
theorem dX5_isAbout_2 : decode cX5_isAbout 2 = .ok (.iload_n 2, 1) := by decide +kernel
theorem dX5_isAbout_3 : decode cX5_isAbout 3 = .ok (.aload_n 0, 1) := by decide +kernel
theorem dX5_isAbout_4 : decode cX5_isAbout 4 = .ok (.getfield 9, 3) := by decide +kernel
theorem dX5_isAbout_7 : decode cX5_isAbout 7 = .ok (.if_icmp .ge 21, 3) := by decide +kernel
theorem dX5_isAbout_10 : decode cX5_isAbout 10 = .ok (.aload_n 0, 1) := by decide +kernel
theorem dX5_isAbout_11 : decode cX5_isAbout 11 = .ok (.getfield 19, 3) := by decide +kernel
theorem dX5_isAbout_14 : decode cX5_isAbout 14 = .ok (.iload_n 2, 1) := by decide +kernel
theorem dX5_isAbout_15 : decode cX5_isAbout 15 = .ok (.iaload, 1) := by decide +kernel
theorem dX5_isAbout_16 : decode cX5_isAbout 16 = .ok (.iload_n 1, 1) := by decide +kernel
theorem dX5_isAbout_17 : decode cX5_isAbout 17 = .ok (.if_icmp .ne 5, 3) := by decide +kernel
theorem dX5_isAbout_20 : decode cX5_isAbout 20 = .ok (.iconst 1, 1) := by decide +kernel
theorem dX5_isAbout_21 : decode cX5_isAbout 21 = .ok (.ireturn, 1) := by decide +kernel
theorem dX5_isAbout_22 : decode cX5_isAbout 22 = .ok (.iinc 2 1, 3) := by decide +kernel
theorem dX5_isAbout_25 : decode cX5_isAbout 25 = .ok (.goto (-23), 3) := by decide +kernel
theorem dX5_isAbout_28 : decode cX5_isAbout 28 = .ok (.iconst 0, 1) := by decide +kernel
theorem dX5_isAbout_29 : decode cX5_isAbout 29 = .ok (.ireturn, 1) := by decide +kernel
theorem dX5_isSo_0 : decode cX5_isSo 0 = .ok (.iconst 0, 1) := by decide +kernel
theorem dX5_isSo_1 : decode cX5_isSo 1 = .ok (.istore 4, 2) := by decide +kernel
theorem dX5_isSo_3 : decode cX5_isSo 3 = .ok (.iload 4, 2) := by decide +kernel
theorem dX5_isSo_5 : decode cX5_isSo 5 = .ok (.aload_n 0, 1) := by decide +kernel
theorem dX5_isSo_6 : decode cX5_isSo 6 = .ok (.getfield 9, 3) := by decide +kernel
theorem dX5_isSo_9 : decode cX5_isSo 9 = .ok (.if_icmp .ge 76, 3) := by decide +kernel
theorem dX5_isSo_12 : decode cX5_isSo 12 = .ok (.aload_n 0, 1) := by decide +kernel
theorem dX5_isSo_13 : decode cX5_isSo 13 = .ok (.getfield 19, 3) := by decide +kernel
theorem dX5_isSo_16 : decode cX5_isSo 16 = .ok (.iload 4, 2) := by decide +kernel
theorem dX5_isSo_18 : decode cX5_isSo 18 = .ok (.iaload, 1) := by decide +kernel
theorem dX5_isSo_19 : decode cX5_isSo 19 = .ok (.iload_n 1, 1) := by decide +kernel
theorem dX5_isSo_20 : decode cX5_isSo 20 = .ok (.if_icmp .ne 59, 3) := by decide +kernel
theorem dX5_isSo_23 : decode cX5_isSo 23 = .ok (.aload_n 0, 1) := by decide +kernel
theorem dX5_isSo_24 : decode cX5_isSo 24 = .ok (.getfield 15, 3) := by decide +kernel
theorem dX5_isSo_27 : decode cX5_isSo 27 = .ok (.iload 4, 2) := by decide +kernel
theorem dX5_isSo_29 : decode cX5_isSo 29 = .ok (.iaload, 1) := by decide +kernel
theorem dX5_isSo_30 : decode cX5_isSo 30 = .ok (.iload_n 3, 1) := by decide +kernel
theorem dX5_isSo_31 : decode cX5_isSo 31 = .ok (.if_icmp .gt 19, 3) := by decide +kernel
theorem dX5_isSo_34 : decode cX5_isSo 34 = .ok (.aload_n 0, 1) := by decide +kernel
theorem dX5_isSo_35 : decode cX5_isSo 35 = .ok (.getfield 15, 3) := by decide +kernel
theorem dX5_isSo_38 : decode cX5_isSo 38 = .ok (.iload 4, 2) := by decide +kernel
theorem dX5_isSo_40 : decode cX5_isSo 40 = .ok (.iaload, 1) := by decide +kernel
theorem dX5_isSo_41 : decode cX5_isSo 41 = .ok (.aload_n 2, 1) := by decide +kernel
theorem dX5_isSo_42 : decode cX5_isSo 42 = .ok (.arraylength, 1) := by decide +kernel
theorem dX5_isSo_43 : decode cX5_isSo 43 = .ok (.if_icmp .ge 7, 3) := by decide +kernel
theorem dX5_isSo_46 : decode cX5_isSo 46 = .ok (.iconst 1, 1) := by decide +kernel
theorem dX5_isSo_47 : decode cX5_isSo 47 = .ok (.goto 4, 3) := by decide +kernel
theorem dX5_isSo_50 : decode cX5_isSo 50 = .ok (.iconst 0, 1) := by decide +kernel
theorem dX5_isSo_51 : decode cX5_isSo 51 = .ok (.istore 5, 2) := by decide +kernel
theorem dX5_isSo_53 : decode cX5_isSo 53 = .ok (.iload 5, 2) := by decide +kernel
theorem dX5_isSo_55 : decode cX5_isSo 55 = .ok (.ifCond .eq 22, 3) := by decide +kernel
theorem dX5_isSo_58 : decode cX5_isSo 58 = .ok (.aload_n 2, 1) := by decide +kernel
theorem dX5_isSo_59 : decode cX5_isSo 59 = .ok (.aload_n 0, 1) := by decide +kernel
theorem dX5_isSo_60 : decode cX5_isSo 60 = .ok (.getfield 15, 3) := by decide +kernel
theorem dX5_isSo_63 : decode cX5_isSo 63 = .ok (.iload 4, 2) := by decide +kernel
theorem dX5_isSo_65 : decode cX5_isSo 65 = .ok (.iaload, 1) := by decide +kernel
theorem dX5_isSo_66 : decode cX5_isSo 66 = .ok (.iaload, 1) := by decide +kernel
theorem dX5_isSo_67 : decode cX5_isSo 67 = .ok (.aload_n 0, 1) := by decide +kernel
theorem dX5_isSo_68 : decode cX5_isSo 68 = .ok (.getfield 22, 3) := by decide +kernel
theorem dX5_isSo_71 : decode cX5_isSo 71 = .ok (.iload 4, 2) := by decide +kernel
theorem dX5_isSo_73 : decode cX5_isSo 73 = .ok (.iaload, 1) := by decide +kernel
theorem dX5_isSo_74 : decode cX5_isSo 74 = .ok (.if_icmp .eq 5, 3) := by decide +kernel
theorem dX5_isSo_77 : decode cX5_isSo 77 = .ok (.iconst 0, 1) := by decide +kernel
theorem dX5_isSo_78 : decode cX5_isSo 78 = .ok (.ireturn, 1) := by decide +kernel
theorem dX5_isSo_79 : decode cX5_isSo 79 = .ok (.iinc 4 1, 3) := by decide +kernel
theorem dX5_isSo_82 : decode cX5_isSo 82 = .ok (.goto (-79), 3) := by decide +kernel
theorem dX5_isSo_85 : decode cX5_isSo 85 = .ok (.iconst 1, 1) := by decide +kernel
theorem dX5_isSo_86 : decode cX5_isSo 86 = .ok (.ireturn, 1) := by decide +kernel
theorem dX5_noteHours_0 : decode cX5_noteHours 0 = .ok (.iload_n 1, 1) := by decide +kernel
theorem dX5_noteHours_1 : decode cX5_noteHours 1 = .ok (.ifCond .lt 9, 3) := by decide +kernel
theorem dX5_noteHours_4 : decode cX5_noteHours 4 = .ok (.iload_n 1, 1) := by decide +kernel
theorem dX5_noteHours_5 : decode cX5_noteHours 5 = .ok (.bipush 7, 2) := by decide +kernel
theorem dX5_noteHours_7 : decode cX5_noteHours 7 = .ok (.if_icmp .lt 4, 3) := by decide +kernel
theorem dX5_noteHours_10 : decode cX5_noteHours 10 = .ok (.return_, 1) := by decide +kernel
theorem dX5_noteHours_11 : decode cX5_noteHours 11 = .ok (.iconst 0, 1) := by decide +kernel
theorem dX5_noteHours_12 : decode cX5_noteHours 12 = .ok (.istore 4, 2) := by decide +kernel
theorem dX5_noteHours_14 : decode cX5_noteHours 14 = .ok (.iload 4, 2) := by decide +kernel
theorem dX5_noteHours_16 : decode cX5_noteHours 16 = .ok (.iload_n 3, 1) := by decide +kernel
theorem dX5_noteHours_17 : decode cX5_noteHours 17 = .ok (.if_icmp .gt 36, 3) := by decide +kernel
theorem dX5_noteHours_20 : decode cX5_noteHours 20 = .ok (.iload 4, 2) := by decide +kernel
theorem dX5_noteHours_22 : decode cX5_noteHours 22 = .ok (.bipush 40, 2) := by decide +kernel
theorem dX5_noteHours_24 : decode cX5_noteHours 24 = .ok (.if_icmp .gt 29, 3) := by decide +kernel
theorem dX5_noteHours_27 : decode cX5_noteHours 27 = .ok (.iload 4, 2) := by decide +kernel
theorem dX5_noteHours_29 : decode cX5_noteHours 29 = .ok (.aload_n 2, 1) := by decide +kernel
theorem dX5_noteHours_30 : decode cX5_noteHours 30 = .ok (.arraylength, 1) := by decide +kernel
theorem dX5_noteHours_31 : decode cX5_noteHours 31 = .ok (.if_icmp .ge 22, 3) := by decide +kernel
theorem dX5_noteHours_34 : decode cX5_noteHours 34 = .ok (.aload_n 0, 1) := by decide +kernel
theorem dX5_noteHours_35 : decode cX5_noteHours 35 = .ok (.getfield 27, 3) := by decide +kernel
theorem dX5_noteHours_38 : decode cX5_noteHours 38 = .ok (.iload_n 1, 1) := by decide +kernel
theorem dX5_noteHours_39 : decode cX5_noteHours 39 = .ok (.aaload, 1) := by decide +kernel
theorem dX5_noteHours_40 : decode cX5_noteHours 40 = .ok (.iload 4, 2) := by decide +kernel
theorem dX5_noteHours_42 : decode cX5_noteHours 42 = .ok (.aload_n 2, 1) := by decide +kernel
theorem dX5_noteHours_43 : decode cX5_noteHours 43 = .ok (.iload 4, 2) := by decide +kernel
theorem dX5_noteHours_45 : decode cX5_noteHours 45 = .ok (.iaload, 1) := by decide +kernel
theorem dX5_noteHours_46 : decode cX5_noteHours 46 = .ok (.iastore, 1) := by decide +kernel
theorem dX5_noteHours_47 : decode cX5_noteHours 47 = .ok (.iinc 4 1, 3) := by decide +kernel
theorem dX5_noteHours_50 : decode cX5_noteHours 50 = .ok (.goto (-36), 3) := by decide +kernel
theorem dX5_noteHours_53 : decode cX5_noteHours 53 = .ok (.return_, 1) := by decide +kernel
theorem dX5_mostLeft_0 : decode cX5_mostLeft 0 = .ok (.iload_n 2, 1) := by decide +kernel
theorem dX5_mostLeft_1 : decode cX5_mostLeft 1 = .ok (.ifCond .lt 9, 3) := by decide +kernel
theorem dX5_mostLeft_4 : decode cX5_mostLeft 4 = .ok (.iload_n 2, 1) := by decide +kernel
theorem dX5_mostLeft_5 : decode cX5_mostLeft 5 = .ok (.bipush 40, 2) := by decide +kernel
theorem dX5_mostLeft_7 : decode cX5_mostLeft 7 = .ok (.if_icmp .le 5, 3) := by decide +kernel
theorem dX5_mostLeft_10 : decode cX5_mostLeft 10 = .ok (.iconst 0, 1) := by decide +kernel
theorem dX5_mostLeft_11 : decode cX5_mostLeft 11 = .ok (.ireturn, 1) := by decide +kernel
theorem dX5_mostLeft_12 : decode cX5_mostLeft 12 = .ok (.iconst 0, 1) := by decide +kernel
theorem dX5_mostLeft_13 : decode cX5_mostLeft 13 = .ok (.istore_n 3, 1) := by decide +kernel
theorem dX5_mostLeft_14 : decode cX5_mostLeft 14 = .ok (.iconst 0, 1) := by decide +kernel
theorem dX5_mostLeft_15 : decode cX5_mostLeft 15 = .ok (.istore 4, 2) := by decide +kernel
theorem dX5_mostLeft_17 : decode cX5_mostLeft 17 = .ok (.iload 4, 2) := by decide +kernel
theorem dX5_mostLeft_19 : decode cX5_mostLeft 19 = .ok (.bipush 7, 2) := by decide +kernel
theorem dX5_mostLeft_21 : decode cX5_mostLeft 21 = .ok (.if_icmp .ge 91, 3) := by decide +kernel
theorem dX5_mostLeft_24 : decode cX5_mostLeft 24 = .ok (.iconst 0, 1) := by decide +kernel
theorem dX5_mostLeft_25 : decode cX5_mostLeft 25 = .ok (.istore 5, 2) := by decide +kernel
theorem dX5_mostLeft_27 : decode cX5_mostLeft 27 = .ok (.iconst 0, 1) := by decide +kernel
theorem dX5_mostLeft_28 : decode cX5_mostLeft 28 = .ok (.istore 6, 2) := by decide +kernel
theorem dX5_mostLeft_30 : decode cX5_mostLeft 30 = .ok (.iload 6, 2) := by decide +kernel
theorem dX5_mostLeft_32 : decode cX5_mostLeft 32 = .ok (.bipush 7, 2) := by decide +kernel
theorem dX5_mostLeft_34 : decode cX5_mostLeft 34 = .ok (.if_icmp .ge 65, 3) := by decide +kernel
theorem dX5_mostLeft_37 : decode cX5_mostLeft 37 = .ok (.iload_n 1, 1) := by decide +kernel
theorem dX5_mostLeft_38 : decode cX5_mostLeft 38 = .ok (.iload 4, 2) := by decide +kernel
theorem dX5_mostLeft_40 : decode cX5_mostLeft 40 = .ok (.ishr, 1) := by decide +kernel
theorem dX5_mostLeft_41 : decode cX5_mostLeft 41 = .ok (.iconst 1, 1) := by decide +kernel
theorem dX5_mostLeft_42 : decode cX5_mostLeft 42 = .ok (.iand, 1) := by decide +kernel
theorem dX5_mostLeft_43 : decode cX5_mostLeft 43 = .ok (.iconst 1, 1) := by decide +kernel
theorem dX5_mostLeft_44 : decode cX5_mostLeft 44 = .ok (.if_icmp .ne 17, 3) := by decide +kernel
theorem dX5_mostLeft_47 : decode cX5_mostLeft 47 = .ok (.iload_n 1, 1) := by decide +kernel
theorem dX5_mostLeft_48 : decode cX5_mostLeft 48 = .ok (.iload 6, 2) := by decide +kernel
theorem dX5_mostLeft_50 : decode cX5_mostLeft 50 = .ok (.ishr, 1) := by decide +kernel
theorem dX5_mostLeft_51 : decode cX5_mostLeft 51 = .ok (.iconst 1, 1) := by decide +kernel
theorem dX5_mostLeft_52 : decode cX5_mostLeft 52 = .ok (.iand, 1) := by decide +kernel
theorem dX5_mostLeft_53 : decode cX5_mostLeft 53 = .ok (.iconst 1, 1) := by decide +kernel
theorem dX5_mostLeft_54 : decode cX5_mostLeft 54 = .ok (.if_icmp .ne 7, 3) := by decide +kernel
theorem dX5_mostLeft_57 : decode cX5_mostLeft 57 = .ok (.iconst 1, 1) := by decide +kernel
theorem dX5_mostLeft_58 : decode cX5_mostLeft 58 = .ok (.goto 4, 3) := by decide +kernel
theorem dX5_mostLeft_61 : decode cX5_mostLeft 61 = .ok (.iconst 0, 1) := by decide +kernel
theorem dX5_mostLeft_62 : decode cX5_mostLeft 62 = .ok (.istore 7, 2) := by decide +kernel
theorem dX5_mostLeft_64 : decode cX5_mostLeft 64 = .ok (.iload 7, 2) := by decide +kernel
theorem dX5_mostLeft_66 : decode cX5_mostLeft 66 = .ok (.ifCond .eq 27, 3) := by decide +kernel
theorem dX5_mostLeft_69 : decode cX5_mostLeft 69 = .ok (.aload_n 0, 1) := by decide +kernel
theorem dX5_mostLeft_70 : decode cX5_mostLeft 70 = .ok (.getfield 27, 3) := by decide +kernel
theorem dX5_mostLeft_73 : decode cX5_mostLeft 73 = .ok (.iload 4, 2) := by decide +kernel
theorem dX5_mostLeft_75 : decode cX5_mostLeft 75 = .ok (.aaload, 1) := by decide +kernel
theorem dX5_mostLeft_76 : decode cX5_mostLeft 76 = .ok (.iload_n 2, 1) := by decide +kernel
theorem dX5_mostLeft_77 : decode cX5_mostLeft 77 = .ok (.iaload, 1) := by decide +kernel
theorem dX5_mostLeft_78 : decode cX5_mostLeft 78 = .ok (.aload_n 0, 1) := by decide +kernel
theorem dX5_mostLeft_79 : decode cX5_mostLeft 79 = .ok (.getfield 27, 3) := by decide +kernel
theorem dX5_mostLeft_82 : decode cX5_mostLeft 82 = .ok (.iload 6, 2) := by decide +kernel
theorem dX5_mostLeft_84 : decode cX5_mostLeft 84 = .ok (.aaload, 1) := by decide +kernel
theorem dX5_mostLeft_85 : decode cX5_mostLeft 85 = .ok (.iload_n 2, 1) := by decide +kernel
theorem dX5_mostLeft_86 : decode cX5_mostLeft 86 = .ok (.iaload, 1) := by decide +kernel
theorem dX5_mostLeft_87 : decode cX5_mostLeft 87 = .ok (.if_icmp .ne 6, 3) := by decide +kernel
theorem dX5_mostLeft_90 : decode cX5_mostLeft 90 = .ok (.iinc 5 1, 3) := by decide +kernel
theorem dX5_mostLeft_93 : decode cX5_mostLeft 93 = .ok (.iinc 6 1, 3) := by decide +kernel
theorem dX5_mostLeft_96 : decode cX5_mostLeft 96 = .ok (.goto (-66), 3) := by decide +kernel
theorem dX5_mostLeft_99 : decode cX5_mostLeft 99 = .ok (.iload_n 3, 1) := by decide +kernel
theorem dX5_mostLeft_100 : decode cX5_mostLeft 100 = .ok (.iload 5, 2) := by decide +kernel
theorem dX5_mostLeft_102 : decode cX5_mostLeft 102 = .ok (.invokestatic 45, 3) := by decide +kernel
theorem dX5_mostLeft_105 : decode cX5_mostLeft 105 = .ok (.istore_n 3, 1) := by decide +kernel
theorem dX5_mostLeft_106 : decode cX5_mostLeft 106 = .ok (.iinc 4 1, 3) := by decide +kernel
theorem dX5_mostLeft_109 : decode cX5_mostLeft 109 = .ok (.goto (-92), 3) := by decide +kernel
theorem dX5_mostLeft_112 : decode cX5_mostLeft 112 = .ok (.iload_n 3, 1) := by decide +kernel
theorem dX5_mostLeft_113 : decode cX5_mostLeft 113 = .ok (.ireturn, 1) := by decide +kernel
