section
def ldX8_init_0 : List (Nat × ClassFile.Instr × Nat) := [(0, .aload_n 0, 1), (1, .invokespecial 3, 3), (4, .aload_n 0, 1), (5, .bipush 25, 2), (7, .newarray .int, 2), (9, .putfield 11, 3), (12, .aload_n 0, 1), (13, .sipush 259, 3), (16, .putfield 15, 3), (19, .aload_n 0, 1), (20, .iconst 0, 1), (21, .putfield 19, 3), (24, .aload_n 0, 1), (25, .iconst 0, 1), (26, .putfield 22, 3), (29, .aload_n 0, 1)]
theorem kdX8_init_0 : dkO cX8_init 0 ldX8_init_0 = true := by decide +kernel
theorem dX8_init_0 : decode cX8_init 0 = .ok (.aload_n 0, 1) := dk_i kdX8_init_0 0 rfl
theorem dX8_init_1 : decode cX8_init 1 = .ok (.invokespecial 3, 3) := dk_i kdX8_init_0 1 rfl
theorem dX8_init_4 : decode cX8_init 4 = .ok (.aload_n 0, 1) := dk_i kdX8_init_0 2 rfl
theorem dX8_init_5 : decode cX8_init 5 = .ok (.bipush 25, 2) := dk_i kdX8_init_0 3 rfl
theorem dX8_init_7 : decode cX8_init 7 = .ok (.newarray .int, 2) := dk_i kdX8_init_0 4 rfl
theorem dX8_init_9 : decode cX8_init 9 = .ok (.putfield 11, 3) := dk_i kdX8_init_0 5 rfl
theorem dX8_init_12 : decode cX8_init 12 = .ok (.aload_n 0, 1) := dk_i kdX8_init_0 6 rfl
theorem dX8_init_13 : decode cX8_init 13 = .ok (.sipush 259, 3) := dk_i kdX8_init_0 7 rfl
theorem dX8_init_16 : decode cX8_init 16 = .ok (.putfield 15, 3) := dk_i kdX8_init_0 8 rfl
theorem dX8_init_19 : decode cX8_init 19 = .ok (.aload_n 0, 1) := dk_i kdX8_init_0 9 rfl
theorem dX8_init_20 : decode cX8_init 20 = .ok (.iconst 0, 1) := dk_i kdX8_init_0 10 rfl
theorem dX8_init_21 : decode cX8_init 21 = .ok (.putfield 19, 3) := dk_i kdX8_init_0 11 rfl
theorem dX8_init_24 : decode cX8_init 24 = .ok (.aload_n 0, 1) := dk_i kdX8_init_0 12 rfl
theorem dX8_init_25 : decode cX8_init 25 = .ok (.iconst 0, 1) := dk_i kdX8_init_0 13 rfl
theorem dX8_init_26 : decode cX8_init 26 = .ok (.putfield 22, 3) := dk_i kdX8_init_0 14 rfl
theorem dX8_init_29 : decode cX8_init 29 = .ok (.aload_n 0, 1) := dk_i kdX8_init_0 15 rfl
def ldX8_init_30 : List (Nat × ClassFile.Instr × Nat) := [(30, .iconst 0, 1), (31, .putfield 25, 3), (34, .aload_n 0, 1), (35, .iconst 0, 1), (36, .putfield 28, 3), (39, .aload_n 0, 1), (40, .iconst 0, 1), (41, .putfield 31, 3), (44, .aload_n 0, 1), (45, .iconst (-1), 1), (46, .putfield 34, 3), (49, .aload_n 0, 1), (50, .aload_n 1, 1), (51, .putfield 37, 3), (54, .iconst 0, 1), (55, .istore_n 2, 1)]
theorem kdX8_init_30 : dkO cX8_init 30 ldX8_init_30 = true := by decide +kernel
theorem dX8_init_30 : decode cX8_init 30 = .ok (.iconst 0, 1) := dk_i kdX8_init_30 0 rfl
theorem dX8_init_31 : decode cX8_init 31 = .ok (.putfield 25, 3) := dk_i kdX8_init_30 1 rfl
theorem dX8_init_34 : decode cX8_init 34 = .ok (.aload_n 0, 1) := dk_i kdX8_init_30 2 rfl
theorem dX8_init_35 : decode cX8_init 35 = .ok (.iconst 0, 1) := dk_i kdX8_init_30 3 rfl
theorem dX8_init_36 : decode cX8_init 36 = .ok (.putfield 28, 3) := dk_i kdX8_init_30 4 rfl
theorem dX8_init_39 : decode cX8_init 39 = .ok (.aload_n 0, 1) := dk_i kdX8_init_30 5 rfl
theorem dX8_init_40 : decode cX8_init 40 = .ok (.iconst 0, 1) := dk_i kdX8_init_30 6 rfl
theorem dX8_init_41 : decode cX8_init 41 = .ok (.putfield 31, 3) := dk_i kdX8_init_30 7 rfl
theorem dX8_init_44 : decode cX8_init 44 = .ok (.aload_n 0, 1) := dk_i kdX8_init_30 8 rfl
theorem dX8_init_45 : decode cX8_init 45 = .ok (.iconst (-1), 1) := dk_i kdX8_init_30 9 rfl
theorem dX8_init_46 : decode cX8_init 46 = .ok (.putfield 34, 3) := dk_i kdX8_init_30 10 rfl
theorem dX8_init_49 : decode cX8_init 49 = .ok (.aload_n 0, 1) := dk_i kdX8_init_30 11 rfl
theorem dX8_init_50 : decode cX8_init 50 = .ok (.aload_n 1, 1) := dk_i kdX8_init_30 12 rfl
theorem dX8_init_51 : decode cX8_init 51 = .ok (.putfield 37, 3) := dk_i kdX8_init_30 13 rfl
theorem dX8_init_54 : decode cX8_init 54 = .ok (.iconst 0, 1) := dk_i kdX8_init_30 14 rfl
theorem dX8_init_55 : decode cX8_init 55 = .ok (.istore_n 2, 1) := dk_i kdX8_init_30 15 rfl
def ldX8_init_56 : List (Nat × ClassFile.Instr × Nat) := [(56, .iconst 0, 1), (57, .istore_n 3, 1), (58, .iconst 0, 1), (59, .istore 4, 2), (61, .iconst 0, 1), (62, .istore 5, 2), (64, .iload 5, 2), (66, .ldc 41, 2), (68, .invokevirtual 43, 3), (71, .if_icmp .ge 70, 3), (74, .ldc 41, 2), (76, .iload 5, 2), (78, .invokevirtual 49, 3), (81, .istore 6, 2), (83, .iload 6, 2), (85, .bipush 32, 2)]
theorem kdX8_init_56 : dkO cX8_init 56 ldX8_init_56 = true := by decide +kernel
theorem dX8_init_56 : decode cX8_init 56 = .ok (.iconst 0, 1) := dk_i kdX8_init_56 0 rfl
theorem dX8_init_57 : decode cX8_init 57 = .ok (.istore_n 3, 1) := dk_i kdX8_init_56 1 rfl
theorem dX8_init_58 : decode cX8_init 58 = .ok (.iconst 0, 1) := dk_i kdX8_init_56 2 rfl
theorem dX8_init_59 : decode cX8_init 59 = .ok (.istore 4, 2) := dk_i kdX8_init_56 3 rfl
theorem dX8_init_61 : decode cX8_init 61 = .ok (.iconst 0, 1) := dk_i kdX8_init_56 4 rfl
theorem dX8_init_62 : decode cX8_init 62 = .ok (.istore 5, 2) := dk_i kdX8_init_56 5 rfl
theorem dX8_init_64 : decode cX8_init 64 = .ok (.iload 5, 2) := dk_i kdX8_init_56 6 rfl
theorem dX8_init_66 : decode cX8_init 66 = .ok (.ldc 41, 2) := dk_i kdX8_init_56 7 rfl
theorem dX8_init_68 : decode cX8_init 68 = .ok (.invokevirtual 43, 3) := dk_i kdX8_init_56 8 rfl
theorem dX8_init_71 : decode cX8_init 71 = .ok (.if_icmp .ge 70, 3) := dk_i kdX8_init_56 9 rfl
theorem dX8_init_74 : decode cX8_init 74 = .ok (.ldc 41, 2) := dk_i kdX8_init_56 10 rfl
theorem dX8_init_76 : decode cX8_init 76 = .ok (.iload 5, 2) := dk_i kdX8_init_56 11 rfl
theorem dX8_init_78 : decode cX8_init 78 = .ok (.invokevirtual 49, 3) := dk_i kdX8_init_56 12 rfl
theorem dX8_init_81 : decode cX8_init 81 = .ok (.istore 6, 2) := dk_i kdX8_init_56 13 rfl
theorem dX8_init_83 : decode cX8_init 83 = .ok (.iload 6, 2) := dk_i kdX8_init_56 14 rfl
theorem dX8_init_85 : decode cX8_init 85 = .ok (.bipush 32, 2) := dk_i kdX8_init_56 15 rfl
def ldX8_init_87 : List (Nat × ClassFile.Instr × Nat) := [(87, .if_icmp .eq 22, 3), (90, .bipush 27, 2), (92, .iload_n 3, 1), (93, .imul, 1), (94, .iload 6, 2), (96, .iadd, 1), (97, .bipush 97, 2), (99, .isub, 1), (100, .iconst 1, 1), (101, .iadd, 1), (102, .istore_n 3, 1), (103, .iinc 4 1, 3), (106, .goto 29, 3), (109, .iload_n 2, 1), (110, .bipush 25, 2), (112, .if_icmp .ge 23, 3)]
theorem kdX8_init_87 : dkO cX8_init 87 ldX8_init_87 = true := by decide +kernel
theorem dX8_init_87 : decode cX8_init 87 = .ok (.if_icmp .eq 22, 3) := dk_i kdX8_init_87 0 rfl
theorem dX8_init_90 : decode cX8_init 90 = .ok (.bipush 27, 2) := dk_i kdX8_init_87 1 rfl
theorem dX8_init_92 : decode cX8_init 92 = .ok (.iload_n 3, 1) := dk_i kdX8_init_87 2 rfl
theorem dX8_init_93 : decode cX8_init 93 = .ok (.imul, 1) := dk_i kdX8_init_87 3 rfl
theorem dX8_init_94 : decode cX8_init 94 = .ok (.iload 6, 2) := dk_i kdX8_init_87 4 rfl
theorem dX8_init_96 : decode cX8_init 96 = .ok (.iadd, 1) := dk_i kdX8_init_87 5 rfl
theorem dX8_init_97 : decode cX8_init 97 = .ok (.bipush 97, 2) := dk_i kdX8_init_87 6 rfl
theorem dX8_init_99 : decode cX8_init 99 = .ok (.isub, 1) := dk_i kdX8_init_87 7 rfl
theorem dX8_init_100 : decode cX8_init 100 = .ok (.iconst 1, 1) := dk_i kdX8_init_87 8 rfl
theorem dX8_init_101 : decode cX8_init 101 = .ok (.iadd, 1) := dk_i kdX8_init_87 9 rfl
theorem dX8_init_102 : decode cX8_init 102 = .ok (.istore_n 3, 1) := dk_i kdX8_init_87 10 rfl
theorem dX8_init_103 : decode cX8_init 103 = .ok (.iinc 4 1, 3) := dk_i kdX8_init_87 11 rfl
theorem dX8_init_106 : decode cX8_init 106 = .ok (.goto 29, 3) := dk_i kdX8_init_87 12 rfl
theorem dX8_init_109 : decode cX8_init 109 = .ok (.iload_n 2, 1) := dk_i kdX8_init_87 13 rfl
theorem dX8_init_110 : decode cX8_init 110 = .ok (.bipush 25, 2) := dk_i kdX8_init_87 14 rfl
theorem dX8_init_112 : decode cX8_init 112 = .ok (.if_icmp .ge 23, 3) := dk_i kdX8_init_87 15 rfl
def ldX8_init_115 : List (Nat × ClassFile.Instr × Nat) := [(115, .aload_n 0, 1), (116, .getfield 11, 3), (119, .iload_n 2, 1), (120, .iload_n 3, 1), (121, .iload 4, 2), (123, .invokestatic 53, 3), (126, .iastore, 1), (127, .iinc 2 1, 3), (130, .iconst 0, 1), (131, .istore_n 3, 1), (132, .iconst 0, 1), (133, .istore 4, 2), (135, .iinc 5 1, 3), (138, .goto (-74), 3), (141, .return_, 1)]
theorem kdX8_init_115 : dkO cX8_init 115 ldX8_init_115 = true := by decide +kernel
theorem dX8_init_115 : decode cX8_init 115 = .ok (.aload_n 0, 1) := dk_i kdX8_init_115 0 rfl
theorem dX8_init_116 : decode cX8_init 116 = .ok (.getfield 11, 3) := dk_i kdX8_init_115 1 rfl
theorem dX8_init_119 : decode cX8_init 119 = .ok (.iload_n 2, 1) := dk_i kdX8_init_115 2 rfl
theorem dX8_init_120 : decode cX8_init 120 = .ok (.iload_n 3, 1) := dk_i kdX8_init_115 3 rfl
theorem dX8_init_121 : decode cX8_init 121 = .ok (.iload 4, 2) := dk_i kdX8_init_115 4 rfl
theorem dX8_init_123 : decode cX8_init 123 = .ok (.invokestatic 53, 3) := dk_i kdX8_init_115 5 rfl
theorem dX8_init_126 : decode cX8_init 126 = .ok (.iastore, 1) := dk_i kdX8_init_115 6 rfl
theorem dX8_init_127 : decode cX8_init 127 = .ok (.iinc 2 1, 3) := dk_i kdX8_init_115 7 rfl
theorem dX8_init_130 : decode cX8_init 130 = .ok (.iconst 0, 1) := dk_i kdX8_init_115 8 rfl
theorem dX8_init_131 : decode cX8_init 131 = .ok (.istore_n 3, 1) := dk_i kdX8_init_115 9 rfl
theorem dX8_init_132 : decode cX8_init 132 = .ok (.iconst 0, 1) := dk_i kdX8_init_115 10 rfl
theorem dX8_init_133 : decode cX8_init 133 = .ok (.istore 4, 2) := dk_i kdX8_init_115 11 rfl
theorem dX8_init_135 : decode cX8_init 135 = .ok (.iinc 5 1, 3) := dk_i kdX8_init_115 12 rfl
theorem dX8_init_138 : decode cX8_init 138 = .ok (.goto (-74), 3) := dk_i kdX8_init_115 13 rfl
theorem dX8_init_141 : decode cX8_init 141 = .ok (.return_, 1) := dk_i kdX8_init_115 14 rfl
def ldX8_letterOf_0 : List (Nat × ClassFile.Instr × Nat) := [(0, .iload_n 0, 1), (1, .istore_n 2, 1), (2, .iconst 5, 1), (3, .istore_n 3, 1), (4, .iload_n 3, 1), (5, .iload_n 1, 1), (6, .if_icmp .le 14, 3), (9, .iload_n 2, 1), (10, .bipush 27, 2), (12, .idiv, 1), (13, .istore_n 2, 1), (14, .iinc 3 (-1), 3), (17, .goto (-13), 3), (20, .iload_n 2, 1), (21, .bipush 27, 2), (23, .irem, 1)]
theorem kdX8_letterOf_0 : dkO cX8_letterOf 0 ldX8_letterOf_0 = true := by decide +kernel
theorem dX8_letterOf_0 : decode cX8_letterOf 0 = .ok (.iload_n 0, 1) := dk_i kdX8_letterOf_0 0 rfl
theorem dX8_letterOf_1 : decode cX8_letterOf 1 = .ok (.istore_n 2, 1) := dk_i kdX8_letterOf_0 1 rfl
theorem dX8_letterOf_2 : decode cX8_letterOf 2 = .ok (.iconst 5, 1) := dk_i kdX8_letterOf_0 2 rfl
theorem dX8_letterOf_3 : decode cX8_letterOf 3 = .ok (.istore_n 3, 1) := dk_i kdX8_letterOf_0 3 rfl
theorem dX8_letterOf_4 : decode cX8_letterOf 4 = .ok (.iload_n 3, 1) := dk_i kdX8_letterOf_0 4 rfl
theorem dX8_letterOf_5 : decode cX8_letterOf 5 = .ok (.iload_n 1, 1) := dk_i kdX8_letterOf_0 5 rfl
theorem dX8_letterOf_6 : decode cX8_letterOf 6 = .ok (.if_icmp .le 14, 3) := dk_i kdX8_letterOf_0 6 rfl
theorem dX8_letterOf_9 : decode cX8_letterOf 9 = .ok (.iload_n 2, 1) := dk_i kdX8_letterOf_0 7 rfl
theorem dX8_letterOf_10 : decode cX8_letterOf 10 = .ok (.bipush 27, 2) := dk_i kdX8_letterOf_0 8 rfl
theorem dX8_letterOf_12 : decode cX8_letterOf 12 = .ok (.idiv, 1) := dk_i kdX8_letterOf_0 9 rfl
theorem dX8_letterOf_13 : decode cX8_letterOf 13 = .ok (.istore_n 2, 1) := dk_i kdX8_letterOf_0 10 rfl
theorem dX8_letterOf_14 : decode cX8_letterOf 14 = .ok (.iinc 3 (-1), 3) := dk_i kdX8_letterOf_0 11 rfl
theorem dX8_letterOf_17 : decode cX8_letterOf 17 = .ok (.goto (-13), 3) := dk_i kdX8_letterOf_0 12 rfl
theorem dX8_letterOf_20 : decode cX8_letterOf 20 = .ok (.iload_n 2, 1) := dk_i kdX8_letterOf_0 13 rfl
theorem dX8_letterOf_21 : decode cX8_letterOf 21 = .ok (.bipush 27, 2) := dk_i kdX8_letterOf_0 14 rfl
theorem dX8_letterOf_23 : decode cX8_letterOf 23 = .ok (.irem, 1) := dk_i kdX8_letterOf_0 15 rfl
def ldX8_letterOf_24 : List (Nat × ClassFile.Instr × Nat) := [(24, .ireturn, 1)]
theorem kdX8_letterOf_24 : dkO cX8_letterOf 24 ldX8_letterOf_24 = true := by decide +kernel
theorem dX8_letterOf_24 : decode cX8_letterOf 24 = .ok (.ireturn, 1) := dk_i kdX8_letterOf_24 0 rfl
def ldX8_fillUp_0 : List (Nat × ClassFile.Instr × Nat) := [(0, .iload_n 0, 1), (1, .istore_n 2, 1), (2, .iload_n 1, 1), (3, .istore_n 3, 1), (4, .iload_n 3, 1), (5, .bipush 6, 2), (7, .if_icmp .ge 14, 3), (10, .iload_n 2, 1), (11, .bipush 27, 2), (13, .imul, 1), (14, .istore_n 2, 1), (15, .iinc 3 1, 3), (18, .goto (-14), 3), (21, .iload_n 2, 1), (22, .ireturn, 1)]
theorem kdX8_fillUp_0 : dkO cX8_fillUp 0 ldX8_fillUp_0 = true := by decide +kernel
theorem dX8_fillUp_0 : decode cX8_fillUp 0 = .ok (.iload_n 0, 1) := dk_i kdX8_fillUp_0 0 rfl
theorem dX8_fillUp_1 : decode cX8_fillUp 1 = .ok (.istore_n 2, 1) := dk_i kdX8_fillUp_0 1 rfl
theorem dX8_fillUp_2 : decode cX8_fillUp 2 = .ok (.iload_n 1, 1) := dk_i kdX8_fillUp_0 2 rfl
theorem dX8_fillUp_3 : decode cX8_fillUp 3 = .ok (.istore_n 3, 1) := dk_i kdX8_fillUp_0 3 rfl
theorem dX8_fillUp_4 : decode cX8_fillUp 4 = .ok (.iload_n 3, 1) := dk_i kdX8_fillUp_0 4 rfl
theorem dX8_fillUp_5 : decode cX8_fillUp 5 = .ok (.bipush 6, 2) := dk_i kdX8_fillUp_0 5 rfl
theorem dX8_fillUp_7 : decode cX8_fillUp 7 = .ok (.if_icmp .ge 14, 3) := dk_i kdX8_fillUp_0 6 rfl
theorem dX8_fillUp_10 : decode cX8_fillUp 10 = .ok (.iload_n 2, 1) := dk_i kdX8_fillUp_0 7 rfl
theorem dX8_fillUp_11 : decode cX8_fillUp 11 = .ok (.bipush 27, 2) := dk_i kdX8_fillUp_0 8 rfl
theorem dX8_fillUp_13 : decode cX8_fillUp 13 = .ok (.imul, 1) := dk_i kdX8_fillUp_0 9 rfl
theorem dX8_fillUp_14 : decode cX8_fillUp 14 = .ok (.istore_n 2, 1) := dk_i kdX8_fillUp_0 10 rfl
theorem dX8_fillUp_15 : decode cX8_fillUp 15 = .ok (.iinc 3 1, 3) := dk_i kdX8_fillUp_0 11 rfl
theorem dX8_fillUp_18 : decode cX8_fillUp 18 = .ok (.goto (-14), 3) := dk_i kdX8_fillUp_0 12 rfl
theorem dX8_fillUp_21 : decode cX8_fillUp 21 = .ok (.iload_n 2, 1) := dk_i kdX8_fillUp_0 13 rfl
theorem dX8_fillUp_22 : decode cX8_fillUp 22 = .ok (.ireturn, 1) := dk_i kdX8_fillUp_0 14 rfl
def ldX8_begin_0 : List (Nat × ClassFile.Instr × Nat) := [(0, .aload_n 0, 1), (1, .iconst 0, 1), (2, .putfield 31, 3), (5, .aload_n 0, 1), (6, .iconst (-1), 1), (7, .putfield 34, 3), (10, .aload_n 0, 1), (11, .sipush 259, 3), (14, .putfield 15, 3), (17, .aload_n 0, 1), (18, .iconst 0, 1), (19, .putfield 28, 3), (22, .aload_n 0, 1), (23, .invokevirtual 57, 3), (26, .return_, 1)]
theorem kdX8_begin_0 : dkO cX8_begin 0 ldX8_begin_0 = true := by decide +kernel
theorem dX8_begin_0 : decode cX8_begin 0 = .ok (.aload_n 0, 1) := dk_i kdX8_begin_0 0 rfl
theorem dX8_begin_1 : decode cX8_begin 1 = .ok (.iconst 0, 1) := dk_i kdX8_begin_0 1 rfl
theorem dX8_begin_2 : decode cX8_begin 2 = .ok (.putfield 31, 3) := dk_i kdX8_begin_0 2 rfl
theorem dX8_begin_5 : decode cX8_begin 5 = .ok (.aload_n 0, 1) := dk_i kdX8_begin_0 3 rfl
theorem dX8_begin_6 : decode cX8_begin 6 = .ok (.iconst (-1), 1) := dk_i kdX8_begin_0 4 rfl
theorem dX8_begin_7 : decode cX8_begin 7 = .ok (.putfield 34, 3) := dk_i kdX8_begin_0 5 rfl
theorem dX8_begin_10 : decode cX8_begin 10 = .ok (.aload_n 0, 1) := dk_i kdX8_begin_0 6 rfl
theorem dX8_begin_11 : decode cX8_begin 11 = .ok (.sipush 259, 3) := dk_i kdX8_begin_0 7 rfl
theorem dX8_begin_14 : decode cX8_begin 14 = .ok (.putfield 15, 3) := dk_i kdX8_begin_0 8 rfl
theorem dX8_begin_17 : decode cX8_begin 17 = .ok (.aload_n 0, 1) := dk_i kdX8_begin_0 9 rfl
theorem dX8_begin_18 : decode cX8_begin 18 = .ok (.iconst 0, 1) := dk_i kdX8_begin_0 10 rfl
theorem dX8_begin_19 : decode cX8_begin 19 = .ok (.putfield 28, 3) := dk_i kdX8_begin_0 11 rfl
theorem dX8_begin_22 : decode cX8_begin 22 = .ok (.aload_n 0, 1) := dk_i kdX8_begin_0 12 rfl
theorem dX8_begin_23 : decode cX8_begin 23 = .ok (.invokevirtual 57, 3) := dk_i kdX8_begin_0 13 rfl
theorem dX8_begin_26 : decode cX8_begin 26 = .ok (.return_, 1) := dk_i kdX8_begin_0 14 rfl
def ldX8_fail_0 : List (Nat × ClassFile.Instr × Nat) := [(0, .aload_n 0, 1), (1, .iload_n 1, 1), (2, .putfield 31, 3), (5, .aload_n 0, 1), (6, .iload_n 2, 1), (7, .putfield 34, 3), (10, .iconst 0, 1), (11, .ireturn, 1)]
theorem kdX8_fail_0 : dkO cX8_fail 0 ldX8_fail_0 = true := by decide +kernel
theorem dX8_fail_0 : decode cX8_fail 0 = .ok (.aload_n 0, 1) := dk_i kdX8_fail_0 0 rfl
theorem dX8_fail_1 : decode cX8_fail 1 = .ok (.iload_n 1, 1) := dk_i kdX8_fail_0 1 rfl
theorem dX8_fail_2 : decode cX8_fail 2 = .ok (.putfield 31, 3) := dk_i kdX8_fail_0 2 rfl
theorem dX8_fail_5 : decode cX8_fail 5 = .ok (.aload_n 0, 1) := dk_i kdX8_fail_0 3 rfl
theorem dX8_fail_6 : decode cX8_fail 6 = .ok (.iload_n 2, 1) := dk_i kdX8_fail_0 4 rfl
theorem dX8_fail_7 : decode cX8_fail 7 = .ok (.putfield 34, 3) := dk_i kdX8_fail_0 5 rfl
theorem dX8_fail_10 : decode cX8_fail 10 = .ok (.iconst 0, 1) := dk_i kdX8_fail_0 6 rfl
theorem dX8_fail_11 : decode cX8_fail 11 = .ok (.ireturn, 1) := dk_i kdX8_fail_0 7 rfl
def ldX8_failHere_0 : List (Nat × ClassFile.Instr × Nat) := [(0, .aload_n 0, 1), (1, .iconst 1, 1), (2, .aload_n 0, 1), (3, .getfield 22, 3), (6, .invokevirtual 60, 3), (9, .ireturn, 1)]
theorem kdX8_failHere_0 : dkO cX8_failHere 0 ldX8_failHere_0 = true := by decide +kernel
theorem dX8_failHere_0 : decode cX8_failHere 0 = .ok (.aload_n 0, 1) := dk_i kdX8_failHere_0 0 rfl
theorem dX8_failHere_1 : decode cX8_failHere 1 = .ok (.iconst 1, 1) := dk_i kdX8_failHere_0 1 rfl
theorem dX8_failHere_2 : decode cX8_failHere 2 = .ok (.aload_n 0, 1) := dk_i kdX8_failHere_0 2 rfl
theorem dX8_failHere_3 : decode cX8_failHere 3 = .ok (.getfield 22, 3) := dk_i kdX8_failHere_0 3 rfl
theorem dX8_failHere_6 : decode cX8_failHere 6 = .ok (.invokevirtual 60, 3) := dk_i kdX8_failHere_0 4 rfl
theorem dX8_failHere_9 : decode cX8_failHere 9 = .ok (.ireturn, 1) := dk_i kdX8_failHere_0 5 rfl
def ldX8_skip_0 : List (Nat × ClassFile.Instr × Nat) := [(0, .aload_n 0, 1), (1, .getfield 15, 3), (4, .iload_n 1, 1), (5, .if_icmp .eq 8, 3), (8, .aload_n 0, 1), (9, .invokevirtual 64, 3), (12, .ireturn, 1), (13, .aload_n 0, 1), (14, .invokevirtual 57, 3), (17, .iconst 1, 1), (18, .ireturn, 1)]
theorem kdX8_skip_0 : dkO cX8_skip 0 ldX8_skip_0 = true := by decide +kernel
theorem dX8_skip_0 : decode cX8_skip 0 = .ok (.aload_n 0, 1) := dk_i kdX8_skip_0 0 rfl
theorem dX8_skip_1 : decode cX8_skip 1 = .ok (.getfield 15, 3) := dk_i kdX8_skip_0 1 rfl
theorem dX8_skip_4 : decode cX8_skip 4 = .ok (.iload_n 1, 1) := dk_i kdX8_skip_0 2 rfl
theorem dX8_skip_5 : decode cX8_skip 5 = .ok (.if_icmp .eq 8, 3) := dk_i kdX8_skip_0 3 rfl
theorem dX8_skip_8 : decode cX8_skip 8 = .ok (.aload_n 0, 1) := dk_i kdX8_skip_0 4 rfl
theorem dX8_skip_9 : decode cX8_skip 9 = .ok (.invokevirtual 64, 3) := dk_i kdX8_skip_0 5 rfl
theorem dX8_skip_12 : decode cX8_skip 12 = .ok (.ireturn, 1) := dk_i kdX8_skip_0 6 rfl
theorem dX8_skip_13 : decode cX8_skip 13 = .ok (.aload_n 0, 1) := dk_i kdX8_skip_0 7 rfl
theorem dX8_skip_14 : decode cX8_skip 14 = .ok (.invokevirtual 57, 3) := dk_i kdX8_skip_0 8 rfl
theorem dX8_skip_17 : decode cX8_skip 17 = .ok (.iconst 1, 1) := dk_i kdX8_skip_0 9 rfl
theorem dX8_skip_18 : decode cX8_skip 18 = .ok (.ireturn, 1) := dk_i kdX8_skip_0 10 rfl
def ldX8_advance_0 : List (Nat × ClassFile.Instr × Nat) := [(0, .aload_n 0, 1), (1, .invokevirtual 68, 3), (4, .istore_n 1, 1), (5, .aload_n 0, 1), (6, .getfield 28, 3), (9, .istore_n 2, 1), (10, .aload_n 0, 1), (11, .invokevirtual 71, 3), (14, .aload_n 0, 1), (15, .aload_n 0, 1), (16, .getfield 28, 3), (19, .putfield 19, 3), (22, .aload_n 0, 1), (23, .aload_n 0, 1), (24, .getfield 28, 3), (27, .putfield 22, 3)]
theorem kdX8_advance_0 : dkO cX8_advance 0 ldX8_advance_0 = true := by decide +kernel
theorem dX8_advance_0 : decode cX8_advance 0 = .ok (.aload_n 0, 1) := dk_i kdX8_advance_0 0 rfl
theorem dX8_advance_1 : decode cX8_advance 1 = .ok (.invokevirtual 68, 3) := dk_i kdX8_advance_0 1 rfl
theorem dX8_advance_4 : decode cX8_advance 4 = .ok (.istore_n 1, 1) := dk_i kdX8_advance_0 2 rfl
theorem dX8_advance_5 : decode cX8_advance 5 = .ok (.aload_n 0, 1) := dk_i kdX8_advance_0 3 rfl
theorem dX8_advance_6 : decode cX8_advance 6 = .ok (.getfield 28, 3) := dk_i kdX8_advance_0 4 rfl
theorem dX8_advance_9 : decode cX8_advance 9 = .ok (.istore_n 2, 1) := dk_i kdX8_advance_0 5 rfl
theorem dX8_advance_10 : decode cX8_advance 10 = .ok (.aload_n 0, 1) := dk_i kdX8_advance_0 6 rfl
theorem dX8_advance_11 : decode cX8_advance 11 = .ok (.invokevirtual 71, 3) := dk_i kdX8_advance_0 7 rfl
theorem dX8_advance_14 : decode cX8_advance 14 = .ok (.aload_n 0, 1) := dk_i kdX8_advance_0 8 rfl
theorem dX8_advance_15 : decode cX8_advance 15 = .ok (.aload_n 0, 1) := dk_i kdX8_advance_0 9 rfl
theorem dX8_advance_16 : decode cX8_advance 16 = .ok (.getfield 28, 3) := dk_i kdX8_advance_0 10 rfl
theorem dX8_advance_19 : decode cX8_advance 19 = .ok (.putfield 19, 3) := dk_i kdX8_advance_0 11 rfl
theorem dX8_advance_22 : decode cX8_advance 22 = .ok (.aload_n 0, 1) := dk_i kdX8_advance_0 12 rfl
theorem dX8_advance_23 : decode cX8_advance 23 = .ok (.aload_n 0, 1) := dk_i kdX8_advance_0 13 rfl
theorem dX8_advance_24 : decode cX8_advance 24 = .ok (.getfield 28, 3) := dk_i kdX8_advance_0 14 rfl
theorem dX8_advance_27 : decode cX8_advance 27 = .ok (.putfield 22, 3) := dk_i kdX8_advance_0 15 rfl
def ldX8_advance_30 : List (Nat × ClassFile.Instr × Nat) := [(30, .aload_n 0, 1), (31, .getfield 37, 3), (34, .aload_n 0, 1), (35, .getfield 28, 3), (38, .invokevirtual 74, 3), (41, .istore_n 3, 1), (42, .iload_n 3, 1), (43, .invokestatic 80, 3), (46, .ifCond .eq 10, 3), (49, .aload_n 0, 1), (50, .invokevirtual 84, 3), (53, .goto 47, 3), (56, .iload_n 3, 1), (57, .invokestatic 87, 3), (60, .ifCond .eq 10, 3), (63, .aload_n 0, 1)]
theorem kdX8_advance_30 : dkO cX8_advance 30 ldX8_advance_30 = true := by decide +kernel
theorem dX8_advance_30 : decode cX8_advance 30 = .ok (.aload_n 0, 1) := dk_i kdX8_advance_30 0 rfl
theorem dX8_advance_31 : decode cX8_advance 31 = .ok (.getfield 37, 3) := dk_i kdX8_advance_30 1 rfl
theorem dX8_advance_34 : decode cX8_advance 34 = .ok (.aload_n 0, 1) := dk_i kdX8_advance_30 2 rfl
theorem dX8_advance_35 : decode cX8_advance 35 = .ok (.getfield 28, 3) := dk_i kdX8_advance_30 3 rfl
theorem dX8_advance_38 : decode cX8_advance 38 = .ok (.invokevirtual 74, 3) := dk_i kdX8_advance_30 4 rfl
theorem dX8_advance_41 : decode cX8_advance 41 = .ok (.istore_n 3, 1) := dk_i kdX8_advance_30 5 rfl
theorem dX8_advance_42 : decode cX8_advance 42 = .ok (.iload_n 3, 1) := dk_i kdX8_advance_30 6 rfl
theorem dX8_advance_43 : decode cX8_advance 43 = .ok (.invokestatic 80, 3) := dk_i kdX8_advance_30 7 rfl
theorem dX8_advance_46 : decode cX8_advance 46 = .ok (.ifCond .eq 10, 3) := dk_i kdX8_advance_30 8 rfl
theorem dX8_advance_49 : decode cX8_advance 49 = .ok (.aload_n 0, 1) := dk_i kdX8_advance_30 9 rfl
theorem dX8_advance_50 : decode cX8_advance 50 = .ok (.invokevirtual 84, 3) := dk_i kdX8_advance_30 10 rfl
theorem dX8_advance_53 : decode cX8_advance 53 = .ok (.goto 47, 3) := dk_i kdX8_advance_30 11 rfl
theorem dX8_advance_56 : decode cX8_advance 56 = .ok (.iload_n 3, 1) := dk_i kdX8_advance_30 12 rfl
theorem dX8_advance_57 : decode cX8_advance 57 = .ok (.invokestatic 87, 3) := dk_i kdX8_advance_30 13 rfl
theorem dX8_advance_60 : decode cX8_advance 60 = .ok (.ifCond .eq 10, 3) := dk_i kdX8_advance_30 14 rfl
theorem dX8_advance_63 : decode cX8_advance 63 = .ok (.aload_n 0, 1) := dk_i kdX8_advance_30 15 rfl
def ldX8_advance_64 : List (Nat × ClassFile.Instr × Nat) := [(64, .invokevirtual 90, 3), (67, .goto 33, 3), (70, .iload_n 3, 1), (71, .iconst (-1), 1), (72, .if_icmp .ne 13, 3), (75, .aload_n 0, 1), (76, .sipush 259, 3), (79, .putfield 15, 3), (82, .goto 18, 3), (85, .aload_n 0, 1), (86, .iload_n 3, 1), (87, .putfield 15, 3), (90, .aload_n 0, 1), (91, .dup, 1), (92, .getfield 28, 3), (95, .iconst 1, 1)]
theorem kdX8_advance_64 : dkO cX8_advance 64 ldX8_advance_64 = true := by decide +kernel
theorem dX8_advance_64 : decode cX8_advance 64 = .ok (.invokevirtual 90, 3) := dk_i kdX8_advance_64 0 rfl
theorem dX8_advance_67 : decode cX8_advance 67 = .ok (.goto 33, 3) := dk_i kdX8_advance_64 1 rfl
theorem dX8_advance_70 : decode cX8_advance 70 = .ok (.iload_n 3, 1) := dk_i kdX8_advance_64 2 rfl
theorem dX8_advance_71 : decode cX8_advance 71 = .ok (.iconst (-1), 1) := dk_i kdX8_advance_64 3 rfl
theorem dX8_advance_72 : decode cX8_advance 72 = .ok (.if_icmp .ne 13, 3) := dk_i kdX8_advance_64 4 rfl
theorem dX8_advance_75 : decode cX8_advance 75 = .ok (.aload_n 0, 1) := dk_i kdX8_advance_64 5 rfl
theorem dX8_advance_76 : decode cX8_advance 76 = .ok (.sipush 259, 3) := dk_i kdX8_advance_64 6 rfl
theorem dX8_advance_79 : decode cX8_advance 79 = .ok (.putfield 15, 3) := dk_i kdX8_advance_64 7 rfl
theorem dX8_advance_82 : decode cX8_advance 82 = .ok (.goto 18, 3) := dk_i kdX8_advance_64 8 rfl
theorem dX8_advance_85 : decode cX8_advance 85 = .ok (.aload_n 0, 1) := dk_i kdX8_advance_64 9 rfl
theorem dX8_advance_86 : decode cX8_advance 86 = .ok (.iload_n 3, 1) := dk_i kdX8_advance_64 10 rfl
theorem dX8_advance_87 : decode cX8_advance 87 = .ok (.putfield 15, 3) := dk_i kdX8_advance_64 11 rfl
theorem dX8_advance_90 : decode cX8_advance 90 = .ok (.aload_n 0, 1) := dk_i kdX8_advance_64 12 rfl
theorem dX8_advance_91 : decode cX8_advance 91 = .ok (.dup, 1) := dk_i kdX8_advance_64 13 rfl
theorem dX8_advance_92 : decode cX8_advance 92 = .ok (.getfield 28, 3) := dk_i kdX8_advance_64 14 rfl
theorem dX8_advance_95 : decode cX8_advance 95 = .ok (.iconst 1, 1) := dk_i kdX8_advance_64 15 rfl
def ldX8_advance_96 : List (Nat × ClassFile.Instr × Nat) := [(96, .iadd, 1), (97, .putfield 28, 3), (100, .iload_n 1, 1), (101, .ifCond .eq 33, 3), (104, .aload_n 0, 1), (105, .getfield 19, 3), (108, .iload_n 2, 1), (109, .if_icmp .ne 25, 3), (112, .aload_n 0, 1), (113, .invokevirtual 68, 3), (116, .ifCond .eq 18, 3), (119, .aload_n 0, 1), (120, .sipush 258, 3), (123, .putfield 15, 3), (126, .aload_n 0, 1), (127, .aload_n 0, 1)]
theorem kdX8_advance_96 : dkO cX8_advance 96 ldX8_advance_96 = true := by decide +kernel
theorem dX8_advance_96 : decode cX8_advance 96 = .ok (.iadd, 1) := dk_i kdX8_advance_96 0 rfl
theorem dX8_advance_97 : decode cX8_advance 97 = .ok (.putfield 28, 3) := dk_i kdX8_advance_96 1 rfl
theorem dX8_advance_100 : decode cX8_advance 100 = .ok (.iload_n 1, 1) := dk_i kdX8_advance_96 2 rfl
theorem dX8_advance_101 : decode cX8_advance 101 = .ok (.ifCond .eq 33, 3) := dk_i kdX8_advance_96 3 rfl
theorem dX8_advance_104 : decode cX8_advance 104 = .ok (.aload_n 0, 1) := dk_i kdX8_advance_96 4 rfl
theorem dX8_advance_105 : decode cX8_advance 105 = .ok (.getfield 19, 3) := dk_i kdX8_advance_96 5 rfl
theorem dX8_advance_108 : decode cX8_advance 108 = .ok (.iload_n 2, 1) := dk_i kdX8_advance_96 6 rfl
theorem dX8_advance_109 : decode cX8_advance 109 = .ok (.if_icmp .ne 25, 3) := dk_i kdX8_advance_96 7 rfl
theorem dX8_advance_112 : decode cX8_advance 112 = .ok (.aload_n 0, 1) := dk_i kdX8_advance_96 8 rfl
theorem dX8_advance_113 : decode cX8_advance 113 = .ok (.invokevirtual 68, 3) := dk_i kdX8_advance_96 9 rfl
theorem dX8_advance_116 : decode cX8_advance 116 = .ok (.ifCond .eq 18, 3) := dk_i kdX8_advance_96 10 rfl
theorem dX8_advance_119 : decode cX8_advance 119 = .ok (.aload_n 0, 1) := dk_i kdX8_advance_96 11 rfl
theorem dX8_advance_120 : decode cX8_advance 120 = .ok (.sipush 258, 3) := dk_i kdX8_advance_96 12 rfl
theorem dX8_advance_123 : decode cX8_advance 123 = .ok (.putfield 15, 3) := dk_i kdX8_advance_96 13 rfl
theorem dX8_advance_126 : decode cX8_advance 126 = .ok (.aload_n 0, 1) := dk_i kdX8_advance_96 14 rfl
theorem dX8_advance_127 : decode cX8_advance 127 = .ok (.aload_n 0, 1) := dk_i kdX8_advance_96 15 rfl
def ldX8_advance_128 : List (Nat × ClassFile.Instr × Nat) := [(128, .getfield 19, 3), (131, .putfield 22, 3), (134, .return_, 1)]
theorem kdX8_advance_128 : dkO cX8_advance 128 ldX8_advance_128 = true := by decide +kernel
theorem dX8_advance_128 : decode cX8_advance 128 = .ok (.getfield 19, 3) := dk_i kdX8_advance_128 0 rfl
theorem dX8_advance_131 : decode cX8_advance 131 = .ok (.putfield 22, 3) := dk_i kdX8_advance_128 1 rfl
theorem dX8_advance_134 : decode cX8_advance 134 = .ok (.return_, 1) := dk_i kdX8_advance_128 2 rfl
def ldX8_isWordOrNumber_0 : List (Nat × ClassFile.Instr × Nat) := [(0, .aload_n 0, 1), (1, .getfield 15, 3), (4, .sipush 256, 3), (7, .if_icmp .lt 17, 3), (10, .aload_n 0, 1), (11, .getfield 15, 3), (14, .sipush 259, 3), (17, .if_icmp .eq 7, 3), (20, .iconst 1, 1), (21, .goto 4, 3), (24, .iconst 0, 1), (25, .ireturn, 1)]
theorem kdX8_isWordOrNumber_0 : dkO cX8_isWordOrNumber 0 ldX8_isWordOrNumber_0 = true := by decide +kernel
theorem dX8_isWordOrNumber_0 : decode cX8_isWordOrNumber 0 = .ok (.aload_n 0, 1) := dk_i kdX8_isWordOrNumber_0 0 rfl
theorem dX8_isWordOrNumber_1 : decode cX8_isWordOrNumber 1 = .ok (.getfield 15, 3) := dk_i kdX8_isWordOrNumber_0 1 rfl
theorem dX8_isWordOrNumber_4 : decode cX8_isWordOrNumber 4 = .ok (.sipush 256, 3) := dk_i kdX8_isWordOrNumber_0 2 rfl
theorem dX8_isWordOrNumber_7 : decode cX8_isWordOrNumber 7 = .ok (.if_icmp .lt 17, 3) := dk_i kdX8_isWordOrNumber_0 3 rfl
theorem dX8_isWordOrNumber_10 : decode cX8_isWordOrNumber 10 = .ok (.aload_n 0, 1) := dk_i kdX8_isWordOrNumber_0 4 rfl
theorem dX8_isWordOrNumber_11 : decode cX8_isWordOrNumber 11 = .ok (.getfield 15, 3) := dk_i kdX8_isWordOrNumber_0 5 rfl
theorem dX8_isWordOrNumber_14 : decode cX8_isWordOrNumber 14 = .ok (.sipush 259, 3) := dk_i kdX8_isWordOrNumber_0 6 rfl
theorem dX8_isWordOrNumber_17 : decode cX8_isWordOrNumber 17 = .ok (.if_icmp .eq 7, 3) := dk_i kdX8_isWordOrNumber_0 7 rfl
theorem dX8_isWordOrNumber_20 : decode cX8_isWordOrNumber 20 = .ok (.iconst 1, 1) := dk_i kdX8_isWordOrNumber_0 8 rfl
theorem dX8_isWordOrNumber_21 : decode cX8_isWordOrNumber 21 = .ok (.goto 4, 3) := dk_i kdX8_isWordOrNumber_0 9 rfl
theorem dX8_isWordOrNumber_24 : decode cX8_isWordOrNumber 24 = .ok (.iconst 0, 1) := dk_i kdX8_isWordOrNumber_0 10 rfl
theorem dX8_isWordOrNumber_25 : decode cX8_isWordOrNumber 25 = .ok (.ireturn, 1) := dk_i kdX8_isWordOrNumber_0 11 rfl
def ldX8_skipBlanks_0 : List (Nat × ClassFile.Instr × Nat) := [(0, .aload_n 0, 1), (1, .getfield 28, 3), (4, .istore_n 1, 1), (5, .iload_n 1, 1), (6, .aload_n 0, 1), (7, .getfield 37, 3), (10, .getfield 93, 3), (13, .if_icmp .ge 42, 3), (16, .aload_n 0, 1), (17, .getfield 37, 3), (20, .iload_n 1, 1), (21, .invokevirtual 74, 3), (24, .bipush 32, 2), (26, .if_icmp .eq 16, 3), (29, .aload_n 0, 1), (30, .getfield 37, 3)]
theorem kdX8_skipBlanks_0 : dkO cX8_skipBlanks 0 ldX8_skipBlanks_0 = true := by decide +kernel
theorem dX8_skipBlanks_0 : decode cX8_skipBlanks 0 = .ok (.aload_n 0, 1) := dk_i kdX8_skipBlanks_0 0 rfl
theorem dX8_skipBlanks_1 : decode cX8_skipBlanks 1 = .ok (.getfield 28, 3) := dk_i kdX8_skipBlanks_0 1 rfl
theorem dX8_skipBlanks_4 : decode cX8_skipBlanks 4 = .ok (.istore_n 1, 1) := dk_i kdX8_skipBlanks_0 2 rfl
theorem dX8_skipBlanks_5 : decode cX8_skipBlanks 5 = .ok (.iload_n 1, 1) := dk_i kdX8_skipBlanks_0 3 rfl
theorem dX8_skipBlanks_6 : decode cX8_skipBlanks 6 = .ok (.aload_n 0, 1) := dk_i kdX8_skipBlanks_0 4 rfl
theorem dX8_skipBlanks_7 : decode cX8_skipBlanks 7 = .ok (.getfield 37, 3) := dk_i kdX8_skipBlanks_0 5 rfl
theorem dX8_skipBlanks_10 : decode cX8_skipBlanks 10 = .ok (.getfield 93, 3) := dk_i kdX8_skipBlanks_0 6 rfl
theorem dX8_skipBlanks_13 : decode cX8_skipBlanks 13 = .ok (.if_icmp .ge 42, 3) := dk_i kdX8_skipBlanks_0 7 rfl
theorem dX8_skipBlanks_16 : decode cX8_skipBlanks 16 = .ok (.aload_n 0, 1) := dk_i kdX8_skipBlanks_0 8 rfl
theorem dX8_skipBlanks_17 : decode cX8_skipBlanks 17 = .ok (.getfield 37, 3) := dk_i kdX8_skipBlanks_0 9 rfl
theorem dX8_skipBlanks_20 : decode cX8_skipBlanks 20 = .ok (.iload_n 1, 1) := dk_i kdX8_skipBlanks_0 10 rfl
theorem dX8_skipBlanks_21 : decode cX8_skipBlanks 21 = .ok (.invokevirtual 74, 3) := dk_i kdX8_skipBlanks_0 11 rfl
theorem dX8_skipBlanks_24 : decode cX8_skipBlanks 24 = .ok (.bipush 32, 2) := dk_i kdX8_skipBlanks_0 12 rfl
theorem dX8_skipBlanks_26 : decode cX8_skipBlanks 26 = .ok (.if_icmp .eq 16, 3) := dk_i kdX8_skipBlanks_0 13 rfl
theorem dX8_skipBlanks_29 : decode cX8_skipBlanks 29 = .ok (.aload_n 0, 1) := dk_i kdX8_skipBlanks_0 14 rfl
theorem dX8_skipBlanks_30 : decode cX8_skipBlanks 30 = .ok (.getfield 37, 3) := dk_i kdX8_skipBlanks_0 15 rfl
def ldX8_skipBlanks_33 : List (Nat × ClassFile.Instr × Nat) := [(33, .iload_n 1, 1), (34, .invokevirtual 74, 3), (37, .bipush 10, 2), (39, .if_icmp .ne 16, 3), (42, .aload_n 0, 1), (43, .iload_n 1, 1), (44, .iconst 1, 1), (45, .iadd, 1), (46, .putfield 28, 3), (49, .iinc 1 1, 3), (52, .goto (-47), 3), (55, .return_, 1)]
theorem kdX8_skipBlanks_33 : dkO cX8_skipBlanks 33 ldX8_skipBlanks_33 = true := by decide +kernel
theorem dX8_skipBlanks_33 : decode cX8_skipBlanks 33 = .ok (.iload_n 1, 1) := dk_i kdX8_skipBlanks_33 0 rfl
theorem dX8_skipBlanks_34 : decode cX8_skipBlanks 34 = .ok (.invokevirtual 74, 3) := dk_i kdX8_skipBlanks_33 1 rfl
theorem dX8_skipBlanks_37 : decode cX8_skipBlanks 37 = .ok (.bipush 10, 2) := dk_i kdX8_skipBlanks_33 2 rfl
theorem dX8_skipBlanks_39 : decode cX8_skipBlanks 39 = .ok (.if_icmp .ne 16, 3) := dk_i kdX8_skipBlanks_33 3 rfl
theorem dX8_skipBlanks_42 : decode cX8_skipBlanks 42 = .ok (.aload_n 0, 1) := dk_i kdX8_skipBlanks_33 4 rfl
theorem dX8_skipBlanks_43 : decode cX8_skipBlanks 43 = .ok (.iload_n 1, 1) := dk_i kdX8_skipBlanks_33 5 rfl
theorem dX8_skipBlanks_44 : decode cX8_skipBlanks 44 = .ok (.iconst 1, 1) := dk_i kdX8_skipBlanks_33 6 rfl
theorem dX8_skipBlanks_45 : decode cX8_skipBlanks 45 = .ok (.iadd, 1) := dk_i kdX8_skipBlanks_33 7 rfl
theorem dX8_skipBlanks_46 : decode cX8_skipBlanks 46 = .ok (.putfield 28, 3) := dk_i kdX8_skipBlanks_33 8 rfl
theorem dX8_skipBlanks_49 : decode cX8_skipBlanks 49 = .ok (.iinc 1 1, 3) := dk_i kdX8_skipBlanks_33 9 rfl
theorem dX8_skipBlanks_52 : decode cX8_skipBlanks 52 = .ok (.goto (-47), 3) := dk_i kdX8_skipBlanks_33 10 rfl
theorem dX8_skipBlanks_55 : decode cX8_skipBlanks 55 = .ok (.return_, 1) := dk_i kdX8_skipBlanks_33 11 rfl
def ldX8_isLetter_0 : List (Nat × ClassFile.Instr × Nat) := [(0, .iload_n 0, 1), (1, .bipush 97, 2), (3, .if_icmp .lt 13, 3), (6, .iload_n 0, 1), (7, .bipush 122, 2), (9, .if_icmp .gt 7, 3), (12, .iconst 1, 1), (13, .goto 4, 3), (16, .iconst 0, 1), (17, .ireturn, 1)]
theorem kdX8_isLetter_0 : dkO cX8_isLetter 0 ldX8_isLetter_0 = true := by decide +kernel
theorem dX8_isLetter_0 : decode cX8_isLetter 0 = .ok (.iload_n 0, 1) := dk_i kdX8_isLetter_0 0 rfl
theorem dX8_isLetter_1 : decode cX8_isLetter 1 = .ok (.bipush 97, 2) := dk_i kdX8_isLetter_0 1 rfl
theorem dX8_isLetter_3 : decode cX8_isLetter 3 = .ok (.if_icmp .lt 13, 3) := dk_i kdX8_isLetter_0 2 rfl
theorem dX8_isLetter_6 : decode cX8_isLetter 6 = .ok (.iload_n 0, 1) := dk_i kdX8_isLetter_0 3 rfl
theorem dX8_isLetter_7 : decode cX8_isLetter 7 = .ok (.bipush 122, 2) := dk_i kdX8_isLetter_0 4 rfl
theorem dX8_isLetter_9 : decode cX8_isLetter 9 = .ok (.if_icmp .gt 7, 3) := dk_i kdX8_isLetter_0 5 rfl
theorem dX8_isLetter_12 : decode cX8_isLetter 12 = .ok (.iconst 1, 1) := dk_i kdX8_isLetter_0 6 rfl
theorem dX8_isLetter_13 : decode cX8_isLetter 13 = .ok (.goto 4, 3) := dk_i kdX8_isLetter_0 7 rfl
theorem dX8_isLetter_16 : decode cX8_isLetter 16 = .ok (.iconst 0, 1) := dk_i kdX8_isLetter_0 8 rfl
theorem dX8_isLetter_17 : decode cX8_isLetter 17 = .ok (.ireturn, 1) := dk_i kdX8_isLetter_0 9 rfl
def ldX8_isDigit_0 : List (Nat × ClassFile.Instr × Nat) := [(0, .iload_n 0, 1), (1, .bipush 48, 2), (3, .if_icmp .lt 13, 3), (6, .iload_n 0, 1), (7, .bipush 57, 2), (9, .if_icmp .gt 7, 3), (12, .iconst 1, 1), (13, .goto 4, 3), (16, .iconst 0, 1), (17, .ireturn, 1)]
theorem kdX8_isDigit_0 : dkO cX8_isDigit 0 ldX8_isDigit_0 = true := by decide +kernel
theorem dX8_isDigit_0 : decode cX8_isDigit 0 = .ok (.iload_n 0, 1) := dk_i kdX8_isDigit_0 0 rfl
theorem dX8_isDigit_1 : decode cX8_isDigit 1 = .ok (.bipush 48, 2) := dk_i kdX8_isDigit_0 1 rfl
theorem dX8_isDigit_3 : decode cX8_isDigit 3 = .ok (.if_icmp .lt 13, 3) := dk_i kdX8_isDigit_0 2 rfl
theorem dX8_isDigit_6 : decode cX8_isDigit 6 = .ok (.iload_n 0, 1) := dk_i kdX8_isDigit_0 3 rfl
theorem dX8_isDigit_7 : decode cX8_isDigit 7 = .ok (.bipush 57, 2) := dk_i kdX8_isDigit_0 4 rfl
theorem dX8_isDigit_9 : decode cX8_isDigit 9 = .ok (.if_icmp .gt 7, 3) := dk_i kdX8_isDigit_0 5 rfl
theorem dX8_isDigit_12 : decode cX8_isDigit 12 = .ok (.iconst 1, 1) := dk_i kdX8_isDigit_0 6 rfl
theorem dX8_isDigit_13 : decode cX8_isDigit 13 = .ok (.goto 4, 3) := dk_i kdX8_isDigit_0 7 rfl
theorem dX8_isDigit_16 : decode cX8_isDigit 16 = .ok (.iconst 0, 1) := dk_i kdX8_isDigit_0 8 rfl
theorem dX8_isDigit_17 : decode cX8_isDigit 17 = .ok (.ireturn, 1) := dk_i kdX8_isDigit_0 9 rfl
def ldX8_readWord_0 : List (Nat × ClassFile.Instr × Nat) := [(0, .iconst 0, 1), (1, .istore_n 1, 1), (2, .aload_n 0, 1), (3, .getfield 19, 3), (6, .istore_n 2, 1), (7, .iload_n 2, 1), (8, .aload_n 0, 1), (9, .getfield 37, 3), (12, .getfield 93, 3), (15, .if_icmp .ge 60, 3), (18, .aload_n 0, 1), (19, .getfield 37, 3), (22, .iload_n 2, 1), (23, .invokevirtual 74, 3), (26, .invokestatic 80, 3), (29, .ifCond .eq 46, 3)]
theorem kdX8_readWord_0 : dkO cX8_readWord 0 ldX8_readWord_0 = true := by decide +kernel
theorem dX8_readWord_0 : decode cX8_readWord 0 = .ok (.iconst 0, 1) := dk_i kdX8_readWord_0 0 rfl
theorem dX8_readWord_1 : decode cX8_readWord 1 = .ok (.istore_n 1, 1) := dk_i kdX8_readWord_0 1 rfl
theorem dX8_readWord_2 : decode cX8_readWord 2 = .ok (.aload_n 0, 1) := dk_i kdX8_readWord_0 2 rfl
theorem dX8_readWord_3 : decode cX8_readWord 3 = .ok (.getfield 19, 3) := dk_i kdX8_readWord_0 3 rfl
theorem dX8_readWord_6 : decode cX8_readWord 6 = .ok (.istore_n 2, 1) := dk_i kdX8_readWord_0 4 rfl
theorem dX8_readWord_7 : decode cX8_readWord 7 = .ok (.iload_n 2, 1) := dk_i kdX8_readWord_0 5 rfl
theorem dX8_readWord_8 : decode cX8_readWord 8 = .ok (.aload_n 0, 1) := dk_i kdX8_readWord_0 6 rfl
theorem dX8_readWord_9 : decode cX8_readWord 9 = .ok (.getfield 37, 3) := dk_i kdX8_readWord_0 7 rfl
theorem dX8_readWord_12 : decode cX8_readWord 12 = .ok (.getfield 93, 3) := dk_i kdX8_readWord_0 8 rfl
theorem dX8_readWord_15 : decode cX8_readWord 15 = .ok (.if_icmp .ge 60, 3) := dk_i kdX8_readWord_0 9 rfl
theorem dX8_readWord_18 : decode cX8_readWord 18 = .ok (.aload_n 0, 1) := dk_i kdX8_readWord_0 10 rfl
theorem dX8_readWord_19 : decode cX8_readWord 19 = .ok (.getfield 37, 3) := dk_i kdX8_readWord_0 11 rfl
theorem dX8_readWord_22 : decode cX8_readWord 22 = .ok (.iload_n 2, 1) := dk_i kdX8_readWord_0 12 rfl
theorem dX8_readWord_23 : decode cX8_readWord 23 = .ok (.invokevirtual 74, 3) := dk_i kdX8_readWord_0 13 rfl
theorem dX8_readWord_26 : decode cX8_readWord 26 = .ok (.invokestatic 80, 3) := dk_i kdX8_readWord_0 14 rfl
theorem dX8_readWord_29 : decode cX8_readWord 29 = .ok (.ifCond .eq 46, 3) := dk_i kdX8_readWord_0 15 rfl
def ldX8_readWord_32 : List (Nat × ClassFile.Instr × Nat) := [(32, .iload_n 2, 1), (33, .aload_n 0, 1), (34, .getfield 19, 3), (37, .isub, 1), (38, .bipush 6, 2), (40, .if_icmp .ge 22, 3), (43, .bipush 27, 2), (45, .iload_n 1, 1), (46, .imul, 1), (47, .aload_n 0, 1), (48, .getfield 37, 3), (51, .iload_n 2, 1), (52, .invokevirtual 74, 3), (55, .iadd, 1), (56, .bipush 97, 2), (58, .isub, 1)]
theorem kdX8_readWord_32 : dkO cX8_readWord 32 ldX8_readWord_32 = true := by decide +kernel
theorem dX8_readWord_32 : decode cX8_readWord 32 = .ok (.iload_n 2, 1) := dk_i kdX8_readWord_32 0 rfl
theorem dX8_readWord_33 : decode cX8_readWord 33 = .ok (.aload_n 0, 1) := dk_i kdX8_readWord_32 1 rfl
theorem dX8_readWord_34 : decode cX8_readWord 34 = .ok (.getfield 19, 3) := dk_i kdX8_readWord_32 2 rfl
theorem dX8_readWord_37 : decode cX8_readWord 37 = .ok (.isub, 1) := dk_i kdX8_readWord_32 3 rfl
theorem dX8_readWord_38 : decode cX8_readWord 38 = .ok (.bipush 6, 2) := dk_i kdX8_readWord_32 4 rfl
theorem dX8_readWord_40 : decode cX8_readWord 40 = .ok (.if_icmp .ge 22, 3) := dk_i kdX8_readWord_32 5 rfl
theorem dX8_readWord_43 : decode cX8_readWord 43 = .ok (.bipush 27, 2) := dk_i kdX8_readWord_32 6 rfl
theorem dX8_readWord_45 : decode cX8_readWord 45 = .ok (.iload_n 1, 1) := dk_i kdX8_readWord_32 7 rfl
theorem dX8_readWord_46 : decode cX8_readWord 46 = .ok (.imul, 1) := dk_i kdX8_readWord_32 8 rfl
theorem dX8_readWord_47 : decode cX8_readWord 47 = .ok (.aload_n 0, 1) := dk_i kdX8_readWord_32 9 rfl
theorem dX8_readWord_48 : decode cX8_readWord 48 = .ok (.getfield 37, 3) := dk_i kdX8_readWord_32 10 rfl
theorem dX8_readWord_51 : decode cX8_readWord 51 = .ok (.iload_n 2, 1) := dk_i kdX8_readWord_32 11 rfl
theorem dX8_readWord_52 : decode cX8_readWord 52 = .ok (.invokevirtual 74, 3) := dk_i kdX8_readWord_32 12 rfl
theorem dX8_readWord_55 : decode cX8_readWord 55 = .ok (.iadd, 1) := dk_i kdX8_readWord_32 13 rfl
theorem dX8_readWord_56 : decode cX8_readWord 56 = .ok (.bipush 97, 2) := dk_i kdX8_readWord_32 14 rfl
theorem dX8_readWord_58 : decode cX8_readWord 58 = .ok (.isub, 1) := dk_i kdX8_readWord_32 15 rfl
def ldX8_readWord_59 : List (Nat × ClassFile.Instr × Nat) := [(59, .iconst 1, 1), (60, .iadd, 1), (61, .istore_n 1, 1), (62, .aload_n 0, 1), (63, .iload_n 2, 1), (64, .iconst 1, 1), (65, .iadd, 1), (66, .putfield 28, 3), (69, .iinc 2 1, 3), (72, .goto (-65), 3), (75, .aload_n 0, 1), (76, .getfield 28, 3), (79, .aload_n 0, 1), (80, .getfield 19, 3), (83, .isub, 1), (84, .bipush 6, 2)]
theorem kdX8_readWord_59 : dkO cX8_readWord 59 ldX8_readWord_59 = true := by decide +kernel
theorem dX8_readWord_59 : decode cX8_readWord 59 = .ok (.iconst 1, 1) := dk_i kdX8_readWord_59 0 rfl
theorem dX8_readWord_60 : decode cX8_readWord 60 = .ok (.iadd, 1) := dk_i kdX8_readWord_59 1 rfl
theorem dX8_readWord_61 : decode cX8_readWord 61 = .ok (.istore_n 1, 1) := dk_i kdX8_readWord_59 2 rfl
theorem dX8_readWord_62 : decode cX8_readWord 62 = .ok (.aload_n 0, 1) := dk_i kdX8_readWord_59 3 rfl
theorem dX8_readWord_63 : decode cX8_readWord 63 = .ok (.iload_n 2, 1) := dk_i kdX8_readWord_59 4 rfl
theorem dX8_readWord_64 : decode cX8_readWord 64 = .ok (.iconst 1, 1) := dk_i kdX8_readWord_59 5 rfl
theorem dX8_readWord_65 : decode cX8_readWord 65 = .ok (.iadd, 1) := dk_i kdX8_readWord_59 6 rfl
theorem dX8_readWord_66 : decode cX8_readWord 66 = .ok (.putfield 28, 3) := dk_i kdX8_readWord_59 7 rfl
theorem dX8_readWord_69 : decode cX8_readWord 69 = .ok (.iinc 2 1, 3) := dk_i kdX8_readWord_59 8 rfl
theorem dX8_readWord_72 : decode cX8_readWord 72 = .ok (.goto (-65), 3) := dk_i kdX8_readWord_59 9 rfl
theorem dX8_readWord_75 : decode cX8_readWord 75 = .ok (.aload_n 0, 1) := dk_i kdX8_readWord_59 10 rfl
theorem dX8_readWord_76 : decode cX8_readWord 76 = .ok (.getfield 28, 3) := dk_i kdX8_readWord_59 11 rfl
theorem dX8_readWord_79 : decode cX8_readWord 79 = .ok (.aload_n 0, 1) := dk_i kdX8_readWord_59 12 rfl
theorem dX8_readWord_80 : decode cX8_readWord 80 = .ok (.getfield 19, 3) := dk_i kdX8_readWord_59 13 rfl
theorem dX8_readWord_83 : decode cX8_readWord 83 = .ok (.isub, 1) := dk_i kdX8_readWord_59 14 rfl
theorem dX8_readWord_84 : decode cX8_readWord 84 = .ok (.bipush 6, 2) := dk_i kdX8_readWord_59 15 rfl
def ldX8_readWord_86 : List (Nat × ClassFile.Instr × Nat) := [(86, .if_icmp .le 22, 3), (89, .aload_n 0, 1), (90, .sipush 258, 3), (93, .putfield 15, 3), (96, .aload_n 0, 1), (97, .aload_n 0, 1), (98, .getfield 19, 3), (101, .bipush 6, 2), (103, .iadd, 1), (104, .putfield 22, 3), (107, .return_, 1), (108, .aload_n 0, 1), (109, .iload_n 1, 1), (110, .aload_n 0, 1), (111, .getfield 28, 3), (114, .aload_n 0, 1)]
theorem kdX8_readWord_86 : dkO cX8_readWord 86 ldX8_readWord_86 = true := by decide +kernel
theorem dX8_readWord_86 : decode cX8_readWord 86 = .ok (.if_icmp .le 22, 3) := dk_i kdX8_readWord_86 0 rfl
theorem dX8_readWord_89 : decode cX8_readWord 89 = .ok (.aload_n 0, 1) := dk_i kdX8_readWord_86 1 rfl
theorem dX8_readWord_90 : decode cX8_readWord 90 = .ok (.sipush 258, 3) := dk_i kdX8_readWord_86 2 rfl
theorem dX8_readWord_93 : decode cX8_readWord 93 = .ok (.putfield 15, 3) := dk_i kdX8_readWord_86 3 rfl
theorem dX8_readWord_96 : decode cX8_readWord 96 = .ok (.aload_n 0, 1) := dk_i kdX8_readWord_86 4 rfl
theorem dX8_readWord_97 : decode cX8_readWord 97 = .ok (.aload_n 0, 1) := dk_i kdX8_readWord_86 5 rfl
theorem dX8_readWord_98 : decode cX8_readWord 98 = .ok (.getfield 19, 3) := dk_i kdX8_readWord_86 6 rfl
theorem dX8_readWord_101 : decode cX8_readWord 101 = .ok (.bipush 6, 2) := dk_i kdX8_readWord_86 7 rfl
theorem dX8_readWord_103 : decode cX8_readWord 103 = .ok (.iadd, 1) := dk_i kdX8_readWord_86 8 rfl
theorem dX8_readWord_104 : decode cX8_readWord 104 = .ok (.putfield 22, 3) := dk_i kdX8_readWord_86 9 rfl
theorem dX8_readWord_107 : decode cX8_readWord 107 = .ok (.return_, 1) := dk_i kdX8_readWord_86 10 rfl
theorem dX8_readWord_108 : decode cX8_readWord 108 = .ok (.aload_n 0, 1) := dk_i kdX8_readWord_86 11 rfl
theorem dX8_readWord_109 : decode cX8_readWord 109 = .ok (.iload_n 1, 1) := dk_i kdX8_readWord_86 12 rfl
theorem dX8_readWord_110 : decode cX8_readWord 110 = .ok (.aload_n 0, 1) := dk_i kdX8_readWord_86 13 rfl
theorem dX8_readWord_111 : decode cX8_readWord 111 = .ok (.getfield 28, 3) := dk_i kdX8_readWord_86 14 rfl
theorem dX8_readWord_114 : decode cX8_readWord 114 = .ok (.aload_n 0, 1) := dk_i kdX8_readWord_86 15 rfl
def ldX8_readWord_115 : List (Nat × ClassFile.Instr × Nat) := [(115, .getfield 19, 3), (118, .isub, 1), (119, .invokestatic 53, 3), (122, .putfield 25, 3), (125, .aload_n 0, 1), (126, .aload_n 0, 1), (127, .aload_n 0, 1), (128, .getfield 25, 3), (131, .invokevirtual 95, 3), (134, .putfield 15, 3), (137, .return_, 1)]
theorem kdX8_readWord_115 : dkO cX8_readWord 115 ldX8_readWord_115 = true := by decide +kernel
theorem dX8_readWord_115 : decode cX8_readWord 115 = .ok (.getfield 19, 3) := dk_i kdX8_readWord_115 0 rfl
theorem dX8_readWord_118 : decode cX8_readWord 118 = .ok (.isub, 1) := dk_i kdX8_readWord_115 1 rfl
theorem dX8_readWord_119 : decode cX8_readWord 119 = .ok (.invokestatic 53, 3) := dk_i kdX8_readWord_115 2 rfl
theorem dX8_readWord_122 : decode cX8_readWord 122 = .ok (.putfield 25, 3) := dk_i kdX8_readWord_115 3 rfl
theorem dX8_readWord_125 : decode cX8_readWord 125 = .ok (.aload_n 0, 1) := dk_i kdX8_readWord_115 4 rfl
theorem dX8_readWord_126 : decode cX8_readWord 126 = .ok (.aload_n 0, 1) := dk_i kdX8_readWord_115 5 rfl
theorem dX8_readWord_127 : decode cX8_readWord 127 = .ok (.aload_n 0, 1) := dk_i kdX8_readWord_115 6 rfl
theorem dX8_readWord_128 : decode cX8_readWord 128 = .ok (.getfield 25, 3) := dk_i kdX8_readWord_115 7 rfl
theorem dX8_readWord_131 : decode cX8_readWord 131 = .ok (.invokevirtual 95, 3) := dk_i kdX8_readWord_115 8 rfl
theorem dX8_readWord_134 : decode cX8_readWord 134 = .ok (.putfield 15, 3) := dk_i kdX8_readWord_115 9 rfl
theorem dX8_readWord_137 : decode cX8_readWord 137 = .ok (.return_, 1) := dk_i kdX8_readWord_115 10 rfl
def ldX8_kindOf_0 : List (Nat × ClassFile.Instr × Nat) := [(0, .iconst 0, 1), (1, .istore_n 2, 1), (2, .iload_n 2, 1), (3, .bipush 25, 2), (5, .if_icmp .ge 25, 3), (8, .aload_n 0, 1), (9, .getfield 11, 3), (12, .iload_n 2, 1), (13, .iaload, 1), (14, .iload_n 1, 1), (15, .if_icmp .ne 9, 3), (18, .sipush 260, 3), (21, .iload_n 2, 1), (22, .iadd, 1), (23, .ireturn, 1), (24, .iinc 2 1, 3)]
theorem kdX8_kindOf_0 : dkO cX8_kindOf 0 ldX8_kindOf_0 = true := by decide +kernel
theorem dX8_kindOf_0 : decode cX8_kindOf 0 = .ok (.iconst 0, 1) := dk_i kdX8_kindOf_0 0 rfl
theorem dX8_kindOf_1 : decode cX8_kindOf 1 = .ok (.istore_n 2, 1) := dk_i kdX8_kindOf_0 1 rfl
theorem dX8_kindOf_2 : decode cX8_kindOf 2 = .ok (.iload_n 2, 1) := dk_i kdX8_kindOf_0 2 rfl
theorem dX8_kindOf_3 : decode cX8_kindOf 3 = .ok (.bipush 25, 2) := dk_i kdX8_kindOf_0 3 rfl
theorem dX8_kindOf_5 : decode cX8_kindOf 5 = .ok (.if_icmp .ge 25, 3) := dk_i kdX8_kindOf_0 4 rfl
theorem dX8_kindOf_8 : decode cX8_kindOf 8 = .ok (.aload_n 0, 1) := dk_i kdX8_kindOf_0 5 rfl
theorem dX8_kindOf_9 : decode cX8_kindOf 9 = .ok (.getfield 11, 3) := dk_i kdX8_kindOf_0 6 rfl
theorem dX8_kindOf_12 : decode cX8_kindOf 12 = .ok (.iload_n 2, 1) := dk_i kdX8_kindOf_0 7 rfl
theorem dX8_kindOf_13 : decode cX8_kindOf 13 = .ok (.iaload, 1) := dk_i kdX8_kindOf_0 8 rfl
theorem dX8_kindOf_14 : decode cX8_kindOf 14 = .ok (.iload_n 1, 1) := dk_i kdX8_kindOf_0 9 rfl
theorem dX8_kindOf_15 : decode cX8_kindOf 15 = .ok (.if_icmp .ne 9, 3) := dk_i kdX8_kindOf_0 10 rfl
theorem dX8_kindOf_18 : decode cX8_kindOf 18 = .ok (.sipush 260, 3) := dk_i kdX8_kindOf_0 11 rfl
theorem dX8_kindOf_21 : decode cX8_kindOf 21 = .ok (.iload_n 2, 1) := dk_i kdX8_kindOf_0 12 rfl
theorem dX8_kindOf_22 : decode cX8_kindOf 22 = .ok (.iadd, 1) := dk_i kdX8_kindOf_0 13 rfl
theorem dX8_kindOf_23 : decode cX8_kindOf 23 = .ok (.ireturn, 1) := dk_i kdX8_kindOf_0 14 rfl
theorem dX8_kindOf_24 : decode cX8_kindOf 24 = .ok (.iinc 2 1, 3) := dk_i kdX8_kindOf_0 15 rfl
def ldX8_kindOf_27 : List (Nat × ClassFile.Instr × Nat) := [(27, .goto (-25), 3), (30, .sipush 257, 3), (33, .ireturn, 1)]
theorem kdX8_kindOf_27 : dkO cX8_kindOf 27 ldX8_kindOf_27 = true := by decide +kernel
theorem dX8_kindOf_27 : decode cX8_kindOf 27 = .ok (.goto (-25), 3) := dk_i kdX8_kindOf_27 0 rfl
theorem dX8_kindOf_30 : decode cX8_kindOf 30 = .ok (.sipush 257, 3) := dk_i kdX8_kindOf_27 1 rfl
theorem dX8_kindOf_33 : decode cX8_kindOf 33 = .ok (.ireturn, 1) := dk_i kdX8_kindOf_27 2 rfl
def ldX8_readNumber_0 : List (Nat × ClassFile.Instr × Nat) := [(0, .iconst 0, 1), (1, .istore_n 1, 1), (2, .aload_n 0, 1), (3, .getfield 19, 3), (6, .istore_n 2, 1), (7, .iload_n 2, 1), (8, .aload_n 0, 1), (9, .getfield 37, 3), (12, .getfield 93, 3), (15, .if_icmp .ge 57, 3), (18, .aload_n 0, 1), (19, .getfield 37, 3), (22, .iload_n 2, 1), (23, .invokevirtual 74, 3), (26, .invokestatic 87, 3), (29, .ifCond .eq 43, 3)]
theorem kdX8_readNumber_0 : dkO cX8_readNumber 0 ldX8_readNumber_0 = true := by decide +kernel
theorem dX8_readNumber_0 : decode cX8_readNumber 0 = .ok (.iconst 0, 1) := dk_i kdX8_readNumber_0 0 rfl
theorem dX8_readNumber_1 : decode cX8_readNumber 1 = .ok (.istore_n 1, 1) := dk_i kdX8_readNumber_0 1 rfl
theorem dX8_readNumber_2 : decode cX8_readNumber 2 = .ok (.aload_n 0, 1) := dk_i kdX8_readNumber_0 2 rfl
theorem dX8_readNumber_3 : decode cX8_readNumber 3 = .ok (.getfield 19, 3) := dk_i kdX8_readNumber_0 3 rfl
theorem dX8_readNumber_6 : decode cX8_readNumber 6 = .ok (.istore_n 2, 1) := dk_i kdX8_readNumber_0 4 rfl
theorem dX8_readNumber_7 : decode cX8_readNumber 7 = .ok (.iload_n 2, 1) := dk_i kdX8_readNumber_0 5 rfl
theorem dX8_readNumber_8 : decode cX8_readNumber 8 = .ok (.aload_n 0, 1) := dk_i kdX8_readNumber_0 6 rfl
theorem dX8_readNumber_9 : decode cX8_readNumber 9 = .ok (.getfield 37, 3) := dk_i kdX8_readNumber_0 7 rfl
theorem dX8_readNumber_12 : decode cX8_readNumber 12 = .ok (.getfield 93, 3) := dk_i kdX8_readNumber_0 8 rfl
theorem dX8_readNumber_15 : decode cX8_readNumber 15 = .ok (.if_icmp .ge 57, 3) := dk_i kdX8_readNumber_0 9 rfl
theorem dX8_readNumber_18 : decode cX8_readNumber 18 = .ok (.aload_n 0, 1) := dk_i kdX8_readNumber_0 10 rfl
theorem dX8_readNumber_19 : decode cX8_readNumber 19 = .ok (.getfield 37, 3) := dk_i kdX8_readNumber_0 11 rfl
theorem dX8_readNumber_22 : decode cX8_readNumber 22 = .ok (.iload_n 2, 1) := dk_i kdX8_readNumber_0 12 rfl
theorem dX8_readNumber_23 : decode cX8_readNumber 23 = .ok (.invokevirtual 74, 3) := dk_i kdX8_readNumber_0 13 rfl
theorem dX8_readNumber_26 : decode cX8_readNumber 26 = .ok (.invokestatic 87, 3) := dk_i kdX8_readNumber_0 14 rfl
theorem dX8_readNumber_29 : decode cX8_readNumber 29 = .ok (.ifCond .eq 43, 3) := dk_i kdX8_readNumber_0 15 rfl
def ldX8_readNumber_32 : List (Nat × ClassFile.Instr × Nat) := [(32, .iload_n 2, 1), (33, .aload_n 0, 1), (34, .getfield 19, 3), (37, .isub, 1), (38, .iconst 4, 1), (39, .if_icmp .ge 20, 3), (42, .bipush 10, 2), (44, .iload_n 1, 1), (45, .imul, 1), (46, .aload_n 0, 1), (47, .getfield 37, 3), (50, .iload_n 2, 1), (51, .invokevirtual 74, 3), (54, .iadd, 1), (55, .bipush 48, 2), (57, .isub, 1)]
theorem kdX8_readNumber_32 : dkO cX8_readNumber 32 ldX8_readNumber_32 = true := by decide +kernel
theorem dX8_readNumber_32 : decode cX8_readNumber 32 = .ok (.iload_n 2, 1) := dk_i kdX8_readNumber_32 0 rfl
theorem dX8_readNumber_33 : decode cX8_readNumber 33 = .ok (.aload_n 0, 1) := dk_i kdX8_readNumber_32 1 rfl
theorem dX8_readNumber_34 : decode cX8_readNumber 34 = .ok (.getfield 19, 3) := dk_i kdX8_readNumber_32 2 rfl
theorem dX8_readNumber_37 : decode cX8_readNumber 37 = .ok (.isub, 1) := dk_i kdX8_readNumber_32 3 rfl
theorem dX8_readNumber_38 : decode cX8_readNumber 38 = .ok (.iconst 4, 1) := dk_i kdX8_readNumber_32 4 rfl
theorem dX8_readNumber_39 : decode cX8_readNumber 39 = .ok (.if_icmp .ge 20, 3) := dk_i kdX8_readNumber_32 5 rfl
theorem dX8_readNumber_42 : decode cX8_readNumber 42 = .ok (.bipush 10, 2) := dk_i kdX8_readNumber_32 6 rfl
theorem dX8_readNumber_44 : decode cX8_readNumber 44 = .ok (.iload_n 1, 1) := dk_i kdX8_readNumber_32 7 rfl
theorem dX8_readNumber_45 : decode cX8_readNumber 45 = .ok (.imul, 1) := dk_i kdX8_readNumber_32 8 rfl
theorem dX8_readNumber_46 : decode cX8_readNumber 46 = .ok (.aload_n 0, 1) := dk_i kdX8_readNumber_32 9 rfl
theorem dX8_readNumber_47 : decode cX8_readNumber 47 = .ok (.getfield 37, 3) := dk_i kdX8_readNumber_32 10 rfl
theorem dX8_readNumber_50 : decode cX8_readNumber 50 = .ok (.iload_n 2, 1) := dk_i kdX8_readNumber_32 11 rfl
theorem dX8_readNumber_51 : decode cX8_readNumber 51 = .ok (.invokevirtual 74, 3) := dk_i kdX8_readNumber_32 12 rfl
theorem dX8_readNumber_54 : decode cX8_readNumber 54 = .ok (.iadd, 1) := dk_i kdX8_readNumber_32 13 rfl
theorem dX8_readNumber_55 : decode cX8_readNumber 55 = .ok (.bipush 48, 2) := dk_i kdX8_readNumber_32 14 rfl
theorem dX8_readNumber_57 : decode cX8_readNumber 57 = .ok (.isub, 1) := dk_i kdX8_readNumber_32 15 rfl
def ldX8_readNumber_58 : List (Nat × ClassFile.Instr × Nat) := [(58, .istore_n 1, 1), (59, .aload_n 0, 1), (60, .iload_n 2, 1), (61, .iconst 1, 1), (62, .iadd, 1), (63, .putfield 28, 3), (66, .iinc 2 1, 3), (69, .goto (-62), 3), (72, .aload_n 0, 1), (73, .iload_n 1, 1), (74, .putfield 25, 3), (77, .aload_n 0, 1), (78, .sipush 256, 3), (81, .putfield 15, 3), (84, .aload_n 0, 1), (85, .getfield 28, 3)]
theorem kdX8_readNumber_58 : dkO cX8_readNumber 58 ldX8_readNumber_58 = true := by decide +kernel
theorem dX8_readNumber_58 : decode cX8_readNumber 58 = .ok (.istore_n 1, 1) := dk_i kdX8_readNumber_58 0 rfl
theorem dX8_readNumber_59 : decode cX8_readNumber 59 = .ok (.aload_n 0, 1) := dk_i kdX8_readNumber_58 1 rfl
theorem dX8_readNumber_60 : decode cX8_readNumber 60 = .ok (.iload_n 2, 1) := dk_i kdX8_readNumber_58 2 rfl
theorem dX8_readNumber_61 : decode cX8_readNumber 61 = .ok (.iconst 1, 1) := dk_i kdX8_readNumber_58 3 rfl
theorem dX8_readNumber_62 : decode cX8_readNumber 62 = .ok (.iadd, 1) := dk_i kdX8_readNumber_58 4 rfl
theorem dX8_readNumber_63 : decode cX8_readNumber 63 = .ok (.putfield 28, 3) := dk_i kdX8_readNumber_58 5 rfl
theorem dX8_readNumber_66 : decode cX8_readNumber 66 = .ok (.iinc 2 1, 3) := dk_i kdX8_readNumber_58 6 rfl
theorem dX8_readNumber_69 : decode cX8_readNumber 69 = .ok (.goto (-62), 3) := dk_i kdX8_readNumber_58 7 rfl
theorem dX8_readNumber_72 : decode cX8_readNumber 72 = .ok (.aload_n 0, 1) := dk_i kdX8_readNumber_58 8 rfl
theorem dX8_readNumber_73 : decode cX8_readNumber 73 = .ok (.iload_n 1, 1) := dk_i kdX8_readNumber_58 9 rfl
theorem dX8_readNumber_74 : decode cX8_readNumber 74 = .ok (.putfield 25, 3) := dk_i kdX8_readNumber_58 10 rfl
theorem dX8_readNumber_77 : decode cX8_readNumber 77 = .ok (.aload_n 0, 1) := dk_i kdX8_readNumber_58 11 rfl
theorem dX8_readNumber_78 : decode cX8_readNumber 78 = .ok (.sipush 256, 3) := dk_i kdX8_readNumber_58 12 rfl
theorem dX8_readNumber_81 : decode cX8_readNumber 81 = .ok (.putfield 15, 3) := dk_i kdX8_readNumber_58 13 rfl
theorem dX8_readNumber_84 : decode cX8_readNumber 84 = .ok (.aload_n 0, 1) := dk_i kdX8_readNumber_58 14 rfl
theorem dX8_readNumber_85 : decode cX8_readNumber 85 = .ok (.getfield 28, 3) := dk_i kdX8_readNumber_58 15 rfl
def ldX8_readNumber_88 : List (Nat × ClassFile.Instr × Nat) := [(88, .aload_n 0, 1), (89, .getfield 19, 3), (92, .isub, 1), (93, .iconst 4, 1), (94, .if_icmp .le 20, 3), (97, .aload_n 0, 1), (98, .sipush 258, 3), (101, .putfield 15, 3), (104, .aload_n 0, 1), (105, .aload_n 0, 1), (106, .getfield 19, 3), (109, .iconst 4, 1), (110, .iadd, 1), (111, .putfield 22, 3), (114, .return_, 1)]
theorem kdX8_readNumber_88 : dkO cX8_readNumber 88 ldX8_readNumber_88 = true := by decide +kernel
theorem dX8_readNumber_88 : decode cX8_readNumber 88 = .ok (.aload_n 0, 1) := dk_i kdX8_readNumber_88 0 rfl
theorem dX8_readNumber_89 : decode cX8_readNumber 89 = .ok (.getfield 19, 3) := dk_i kdX8_readNumber_88 1 rfl
theorem dX8_readNumber_92 : decode cX8_readNumber 92 = .ok (.isub, 1) := dk_i kdX8_readNumber_88 2 rfl
theorem dX8_readNumber_93 : decode cX8_readNumber 93 = .ok (.iconst 4, 1) := dk_i kdX8_readNumber_88 3 rfl
theorem dX8_readNumber_94 : decode cX8_readNumber 94 = .ok (.if_icmp .le 20, 3) := dk_i kdX8_readNumber_88 4 rfl
theorem dX8_readNumber_97 : decode cX8_readNumber 97 = .ok (.aload_n 0, 1) := dk_i kdX8_readNumber_88 5 rfl
theorem dX8_readNumber_98 : decode cX8_readNumber 98 = .ok (.sipush 258, 3) := dk_i kdX8_readNumber_88 6 rfl
theorem dX8_readNumber_101 : decode cX8_readNumber 101 = .ok (.putfield 15, 3) := dk_i kdX8_readNumber_88 7 rfl
theorem dX8_readNumber_104 : decode cX8_readNumber 104 = .ok (.aload_n 0, 1) := dk_i kdX8_readNumber_88 8 rfl
theorem dX8_readNumber_105 : decode cX8_readNumber 105 = .ok (.aload_n 0, 1) := dk_i kdX8_readNumber_88 9 rfl
theorem dX8_readNumber_106 : decode cX8_readNumber 106 = .ok (.getfield 19, 3) := dk_i kdX8_readNumber_88 10 rfl
theorem dX8_readNumber_109 : decode cX8_readNumber 109 = .ok (.iconst 4, 1) := dk_i kdX8_readNumber_88 11 rfl
theorem dX8_readNumber_110 : decode cX8_readNumber 110 = .ok (.iadd, 1) := dk_i kdX8_readNumber_88 12 rfl
theorem dX8_readNumber_111 : decode cX8_readNumber 111 = .ok (.putfield 22, 3) := dk_i kdX8_readNumber_88 13 rfl
theorem dX8_readNumber_114 : decode cX8_readNumber 114 = .ok (.return_, 1) := dk_i kdX8_readNumber_88 14 rfl
end
section
def ldX9_init_0 : List (Nat × ClassFile.Instr × Nat) := [(0, .aload_n 0, 1), (1, .invokespecial 3, 3), (4, .aload_n 0, 1), (5, .iconst 0, 1), (6, .putfield 9, 3), (9, .aload_n 0, 1), (10, .iconst 0, 1), (11, .putfield 15, 3), (14, .aload_n 0, 1), (15, .bipush 6, 2), (17, .newarray .int, 2), (19, .putfield 18, 3), (22, .aload_n 0, 1), (23, .bipush 6, 2), (25, .newarray .int, 2), (27, .putfield 22, 3)]
theorem kdX9_init_0 : dkO cX9_init 0 ldX9_init_0 = true := by decide +kernel
theorem dX9_init_0 : decode cX9_init 0 = .ok (.aload_n 0, 1) := dk_i kdX9_init_0 0 rfl
theorem dX9_init_1 : decode cX9_init 1 = .ok (.invokespecial 3, 3) := dk_i kdX9_init_0 1 rfl
theorem dX9_init_4 : decode cX9_init 4 = .ok (.aload_n 0, 1) := dk_i kdX9_init_0 2 rfl
theorem dX9_init_5 : decode cX9_init 5 = .ok (.iconst 0, 1) := dk_i kdX9_init_0 3 rfl
theorem dX9_init_6 : decode cX9_init 6 = .ok (.putfield 9, 3) := dk_i kdX9_init_0 4 rfl
theorem dX9_init_9 : decode cX9_init 9 = .ok (.aload_n 0, 1) := dk_i kdX9_init_0 5 rfl
theorem dX9_init_10 : decode cX9_init 10 = .ok (.iconst 0, 1) := dk_i kdX9_init_0 6 rfl
theorem dX9_init_11 : decode cX9_init 11 = .ok (.putfield 15, 3) := dk_i kdX9_init_0 7 rfl
theorem dX9_init_14 : decode cX9_init 14 = .ok (.aload_n 0, 1) := dk_i kdX9_init_0 8 rfl
theorem dX9_init_15 : decode cX9_init 15 = .ok (.bipush 6, 2) := dk_i kdX9_init_0 9 rfl
theorem dX9_init_17 : decode cX9_init 17 = .ok (.newarray .int, 2) := dk_i kdX9_init_0 10 rfl
theorem dX9_init_19 : decode cX9_init 19 = .ok (.putfield 18, 3) := dk_i kdX9_init_0 11 rfl
theorem dX9_init_22 : decode cX9_init 22 = .ok (.aload_n 0, 1) := dk_i kdX9_init_0 12 rfl
theorem dX9_init_23 : decode cX9_init 23 = .ok (.bipush 6, 2) := dk_i kdX9_init_0 13 rfl
theorem dX9_init_25 : decode cX9_init 25 = .ok (.newarray .int, 2) := dk_i kdX9_init_0 14 rfl
theorem dX9_init_27 : decode cX9_init 27 = .ok (.putfield 22, 3) := dk_i kdX9_init_0 15 rfl
def ldX9_init_30 : List (Nat × ClassFile.Instr × Nat) := [(30, .aload_n 0, 1), (31, .bipush 6, 2), (33, .newarray .int, 2), (35, .putfield 25, 3), (38, .aload_n 0, 1), (39, .iconst 0, 1), (40, .putfield 28, 3), (43, .aload_n 0, 1), (44, .iconst 5, 1), (45, .newarray .int, 2), (47, .putfield 31, 3), (50, .aload_n 0, 1), (51, .iconst 5, 1), (52, .newarray .int, 2), (54, .putfield 34, 3), (57, .aload_n 0, 1)]
theorem kdX9_init_30 : dkO cX9_init 30 ldX9_init_30 = true := by decide +kernel
theorem dX9_init_30 : decode cX9_init 30 = .ok (.aload_n 0, 1) := dk_i kdX9_init_30 0 rfl
theorem dX9_init_31 : decode cX9_init 31 = .ok (.bipush 6, 2) := dk_i kdX9_init_30 1 rfl
theorem dX9_init_33 : decode cX9_init 33 = .ok (.newarray .int, 2) := dk_i kdX9_init_30 2 rfl
theorem dX9_init_35 : decode cX9_init 35 = .ok (.putfield 25, 3) := dk_i kdX9_init_30 3 rfl
theorem dX9_init_38 : decode cX9_init 38 = .ok (.aload_n 0, 1) := dk_i kdX9_init_30 4 rfl
theorem dX9_init_39 : decode cX9_init 39 = .ok (.iconst 0, 1) := dk_i kdX9_init_30 5 rfl
theorem dX9_init_40 : decode cX9_init 40 = .ok (.putfield 28, 3) := dk_i kdX9_init_30 6 rfl
theorem dX9_init_43 : decode cX9_init 43 = .ok (.aload_n 0, 1) := dk_i kdX9_init_30 7 rfl
theorem dX9_init_44 : decode cX9_init 44 = .ok (.iconst 5, 1) := dk_i kdX9_init_30 8 rfl
theorem dX9_init_45 : decode cX9_init 45 = .ok (.newarray .int, 2) := dk_i kdX9_init_30 9 rfl
theorem dX9_init_47 : decode cX9_init 47 = .ok (.putfield 31, 3) := dk_i kdX9_init_30 10 rfl
theorem dX9_init_50 : decode cX9_init 50 = .ok (.aload_n 0, 1) := dk_i kdX9_init_30 11 rfl
theorem dX9_init_51 : decode cX9_init 51 = .ok (.iconst 5, 1) := dk_i kdX9_init_30 12 rfl
theorem dX9_init_52 : decode cX9_init 52 = .ok (.newarray .int, 2) := dk_i kdX9_init_30 13 rfl
theorem dX9_init_54 : decode cX9_init 54 = .ok (.putfield 34, 3) := dk_i kdX9_init_30 14 rfl
theorem dX9_init_57 : decode cX9_init 57 = .ok (.aload_n 0, 1) := dk_i kdX9_init_30 15 rfl
def ldX9_init_58 : List (Nat × ClassFile.Instr × Nat) := [(58, .iconst 0, 1), (59, .putfield 37, 3), (62, .aload_n 0, 1), (63, .bipush 10, 2), (65, .newarray .int, 2), (67, .putfield 40, 3), (70, .aload_n 0, 1), (71, .bipush 10, 2), (73, .newarray .int, 2), (75, .putfield 43, 3), (78, .aload_n 0, 1), (79, .bipush 10, 2), (81, .newarray .int, 2), (83, .putfield 46, 3), (86, .aload_n 0, 1), (87, .iconst 0, 1)]
theorem kdX9_init_58 : dkO cX9_init 58 ldX9_init_58 = true := by decide +kernel
theorem dX9_init_58 : decode cX9_init 58 = .ok (.iconst 0, 1) := dk_i kdX9_init_58 0 rfl
theorem dX9_init_59 : decode cX9_init 59 = .ok (.putfield 37, 3) := dk_i kdX9_init_58 1 rfl
theorem dX9_init_62 : decode cX9_init 62 = .ok (.aload_n 0, 1) := dk_i kdX9_init_58 2 rfl
theorem dX9_init_63 : decode cX9_init 63 = .ok (.bipush 10, 2) := dk_i kdX9_init_58 3 rfl
theorem dX9_init_65 : decode cX9_init 65 = .ok (.newarray .int, 2) := dk_i kdX9_init_58 4 rfl
theorem dX9_init_67 : decode cX9_init 67 = .ok (.putfield 40, 3) := dk_i kdX9_init_58 5 rfl
theorem dX9_init_70 : decode cX9_init 70 = .ok (.aload_n 0, 1) := dk_i kdX9_init_58 6 rfl
theorem dX9_init_71 : decode cX9_init 71 = .ok (.bipush 10, 2) := dk_i kdX9_init_58 7 rfl
theorem dX9_init_73 : decode cX9_init 73 = .ok (.newarray .int, 2) := dk_i kdX9_init_58 8 rfl
theorem dX9_init_75 : decode cX9_init 75 = .ok (.putfield 43, 3) := dk_i kdX9_init_58 9 rfl
theorem dX9_init_78 : decode cX9_init 78 = .ok (.aload_n 0, 1) := dk_i kdX9_init_58 10 rfl
theorem dX9_init_79 : decode cX9_init 79 = .ok (.bipush 10, 2) := dk_i kdX9_init_58 11 rfl
theorem dX9_init_81 : decode cX9_init 81 = .ok (.newarray .int, 2) := dk_i kdX9_init_58 12 rfl
theorem dX9_init_83 : decode cX9_init 83 = .ok (.putfield 46, 3) := dk_i kdX9_init_58 13 rfl
theorem dX9_init_86 : decode cX9_init 86 = .ok (.aload_n 0, 1) := dk_i kdX9_init_58 14 rfl
theorem dX9_init_87 : decode cX9_init 87 = .ok (.iconst 0, 1) := dk_i kdX9_init_58 15 rfl
def ldX9_init_88 : List (Nat × ClassFile.Instr × Nat) := [(88, .putfield 49, 3), (91, .aload_n 0, 1), (92, .bipush 6, 2), (94, .newarray .int, 2), (96, .putfield 52, 3), (99, .aload_n 0, 1), (100, .bipush 6, 2), (102, .newarray .int, 2), (104, .putfield 55, 3), (107, .aload_n 0, 1), (108, .bipush 6, 2), (110, .newarray .int, 2), (112, .putfield 58, 3), (115, .aload_n 0, 1), (116, .iconst 0, 1), (117, .putfield 61, 3)]
theorem kdX9_init_88 : dkO cX9_init 88 ldX9_init_88 = true := by decide +kernel
theorem dX9_init_88 : decode cX9_init 88 = .ok (.putfield 49, 3) := dk_i kdX9_init_88 0 rfl
theorem dX9_init_91 : decode cX9_init 91 = .ok (.aload_n 0, 1) := dk_i kdX9_init_88 1 rfl
theorem dX9_init_92 : decode cX9_init 92 = .ok (.bipush 6, 2) := dk_i kdX9_init_88 2 rfl
theorem dX9_init_94 : decode cX9_init 94 = .ok (.newarray .int, 2) := dk_i kdX9_init_88 3 rfl
theorem dX9_init_96 : decode cX9_init 96 = .ok (.putfield 52, 3) := dk_i kdX9_init_88 4 rfl
theorem dX9_init_99 : decode cX9_init 99 = .ok (.aload_n 0, 1) := dk_i kdX9_init_88 5 rfl
theorem dX9_init_100 : decode cX9_init 100 = .ok (.bipush 6, 2) := dk_i kdX9_init_88 6 rfl
theorem dX9_init_102 : decode cX9_init 102 = .ok (.newarray .int, 2) := dk_i kdX9_init_88 7 rfl
theorem dX9_init_104 : decode cX9_init 104 = .ok (.putfield 55, 3) := dk_i kdX9_init_88 8 rfl
theorem dX9_init_107 : decode cX9_init 107 = .ok (.aload_n 0, 1) := dk_i kdX9_init_88 9 rfl
theorem dX9_init_108 : decode cX9_init 108 = .ok (.bipush 6, 2) := dk_i kdX9_init_88 10 rfl
theorem dX9_init_110 : decode cX9_init 110 = .ok (.newarray .int, 2) := dk_i kdX9_init_88 11 rfl
theorem dX9_init_112 : decode cX9_init 112 = .ok (.putfield 58, 3) := dk_i kdX9_init_88 12 rfl
theorem dX9_init_115 : decode cX9_init 115 = .ok (.aload_n 0, 1) := dk_i kdX9_init_88 13 rfl
theorem dX9_init_116 : decode cX9_init 116 = .ok (.iconst 0, 1) := dk_i kdX9_init_88 14 rfl
theorem dX9_init_117 : decode cX9_init 117 = .ok (.putfield 61, 3) := dk_i kdX9_init_88 15 rfl
def ldX9_init_120 : List (Nat × ClassFile.Instr × Nat) := [(120, .aload_n 0, 1), (121, .new 64, 3), (124, .dup, 1), (125, .invokespecial 66, 3), (128, .putfield 67, 3), (131, .aload_n 0, 1), (132, .new 64, 3), (135, .dup, 1), (136, .invokespecial 66, 3), (139, .putfield 71, 3), (142, .return_, 1)]
theorem kdX9_init_120 : dkO cX9_init 120 ldX9_init_120 = true := by decide +kernel
theorem dX9_init_120 : decode cX9_init 120 = .ok (.aload_n 0, 1) := dk_i kdX9_init_120 0 rfl
theorem dX9_init_121 : decode cX9_init 121 = .ok (.new 64, 3) := dk_i kdX9_init_120 1 rfl
theorem dX9_init_124 : decode cX9_init 124 = .ok (.dup, 1) := dk_i kdX9_init_120 2 rfl
theorem dX9_init_125 : decode cX9_init 125 = .ok (.invokespecial 66, 3) := dk_i kdX9_init_120 3 rfl
theorem dX9_init_128 : decode cX9_init 128 = .ok (.putfield 67, 3) := dk_i kdX9_init_120 4 rfl
theorem dX9_init_131 : decode cX9_init 131 = .ok (.aload_n 0, 1) := dk_i kdX9_init_120 5 rfl
theorem dX9_init_132 : decode cX9_init 132 = .ok (.new 64, 3) := dk_i kdX9_init_120 6 rfl
theorem dX9_init_135 : decode cX9_init 135 = .ok (.dup, 1) := dk_i kdX9_init_120 7 rfl
theorem dX9_init_136 : decode cX9_init 136 = .ok (.invokespecial 66, 3) := dk_i kdX9_init_120 8 rfl
theorem dX9_init_139 : decode cX9_init 139 = .ok (.putfield 71, 3) := dk_i kdX9_init_120 9 rfl
theorem dX9_init_142 : decode cX9_init 142 = .ok (.return_, 1) := dk_i kdX9_init_120 10 rfl
def ldX9_clear_0 : List (Nat × ClassFile.Instr × Nat) := [(0, .aload_n 0, 1), (1, .iconst 0, 1), (2, .putfield 9, 3), (5, .aload_n 0, 1), (6, .iconst 0, 1), (7, .putfield 15, 3), (10, .aload_n 0, 1), (11, .iconst 0, 1), (12, .putfield 28, 3), (15, .aload_n 0, 1), (16, .iconst 0, 1), (17, .putfield 37, 3), (20, .aload_n 0, 1), (21, .iconst 0, 1), (22, .putfield 49, 3), (25, .aload_n 0, 1)]
theorem kdX9_clear_0 : dkO cX9_clear 0 ldX9_clear_0 = true := by decide +kernel
theorem dX9_clear_0 : decode cX9_clear 0 = .ok (.aload_n 0, 1) := dk_i kdX9_clear_0 0 rfl
theorem dX9_clear_1 : decode cX9_clear 1 = .ok (.iconst 0, 1) := dk_i kdX9_clear_0 1 rfl
theorem dX9_clear_2 : decode cX9_clear 2 = .ok (.putfield 9, 3) := dk_i kdX9_clear_0 2 rfl
theorem dX9_clear_5 : decode cX9_clear 5 = .ok (.aload_n 0, 1) := dk_i kdX9_clear_0 3 rfl
theorem dX9_clear_6 : decode cX9_clear 6 = .ok (.iconst 0, 1) := dk_i kdX9_clear_0 4 rfl
theorem dX9_clear_7 : decode cX9_clear 7 = .ok (.putfield 15, 3) := dk_i kdX9_clear_0 5 rfl
theorem dX9_clear_10 : decode cX9_clear 10 = .ok (.aload_n 0, 1) := dk_i kdX9_clear_0 6 rfl
theorem dX9_clear_11 : decode cX9_clear 11 = .ok (.iconst 0, 1) := dk_i kdX9_clear_0 7 rfl
theorem dX9_clear_12 : decode cX9_clear 12 = .ok (.putfield 28, 3) := dk_i kdX9_clear_0 8 rfl
theorem dX9_clear_15 : decode cX9_clear 15 = .ok (.aload_n 0, 1) := dk_i kdX9_clear_0 9 rfl
theorem dX9_clear_16 : decode cX9_clear 16 = .ok (.iconst 0, 1) := dk_i kdX9_clear_0 10 rfl
theorem dX9_clear_17 : decode cX9_clear 17 = .ok (.putfield 37, 3) := dk_i kdX9_clear_0 11 rfl
theorem dX9_clear_20 : decode cX9_clear 20 = .ok (.aload_n 0, 1) := dk_i kdX9_clear_0 12 rfl
theorem dX9_clear_21 : decode cX9_clear 21 = .ok (.iconst 0, 1) := dk_i kdX9_clear_0 13 rfl
theorem dX9_clear_22 : decode cX9_clear 22 = .ok (.putfield 49, 3) := dk_i kdX9_clear_0 14 rfl
theorem dX9_clear_25 : decode cX9_clear 25 = .ok (.aload_n 0, 1) := dk_i kdX9_clear_0 15 rfl
def ldX9_clear_26 : List (Nat × ClassFile.Instr × Nat) := [(26, .iconst 0, 1), (27, .putfield 61, 3), (30, .aload_n 0, 1), (31, .getfield 67, 3), (34, .iconst 0, 1), (35, .putfield 74, 3), (38, .aload_n 0, 1), (39, .getfield 71, 3), (42, .iconst 0, 1), (43, .putfield 74, 3), (46, .return_, 1)]
theorem kdX9_clear_26 : dkO cX9_clear 26 ldX9_clear_26 = true := by decide +kernel
theorem dX9_clear_26 : decode cX9_clear 26 = .ok (.iconst 0, 1) := dk_i kdX9_clear_26 0 rfl
theorem dX9_clear_27 : decode cX9_clear 27 = .ok (.putfield 61, 3) := dk_i kdX9_clear_26 1 rfl
theorem dX9_clear_30 : decode cX9_clear 30 = .ok (.aload_n 0, 1) := dk_i kdX9_clear_26 2 rfl
theorem dX9_clear_31 : decode cX9_clear 31 = .ok (.getfield 67, 3) := dk_i kdX9_clear_26 3 rfl
theorem dX9_clear_34 : decode cX9_clear 34 = .ok (.iconst 0, 1) := dk_i kdX9_clear_26 4 rfl
theorem dX9_clear_35 : decode cX9_clear 35 = .ok (.putfield 74, 3) := dk_i kdX9_clear_26 5 rfl
theorem dX9_clear_38 : decode cX9_clear 38 = .ok (.aload_n 0, 1) := dk_i kdX9_clear_26 6 rfl
theorem dX9_clear_39 : decode cX9_clear 39 = .ok (.getfield 71, 3) := dk_i kdX9_clear_26 7 rfl
theorem dX9_clear_42 : decode cX9_clear 42 = .ok (.iconst 0, 1) := dk_i kdX9_clear_26 8 rfl
theorem dX9_clear_43 : decode cX9_clear 43 = .ok (.putfield 74, 3) := dk_i kdX9_clear_26 9 rfl
theorem dX9_clear_46 : decode cX9_clear 46 = .ok (.return_, 1) := dk_i kdX9_clear_26 10 rfl
def ldX9_isThing_0 : List (Nat × ClassFile.Instr × Nat) := [(0, .iload_n 1, 1), (1, .ifCond .lt 15, 3), (4, .iload_n 1, 1), (5, .aload_n 0, 1), (6, .getfield 15, 3), (9, .if_icmp .ge 7, 3), (12, .iconst 1, 1), (13, .goto 4, 3), (16, .iconst 0, 1), (17, .ireturn, 1)]
theorem kdX9_isThing_0 : dkO cX9_isThing 0 ldX9_isThing_0 = true := by decide +kernel
theorem dX9_isThing_0 : decode cX9_isThing 0 = .ok (.iload_n 1, 1) := dk_i kdX9_isThing_0 0 rfl
theorem dX9_isThing_1 : decode cX9_isThing 1 = .ok (.ifCond .lt 15, 3) := dk_i kdX9_isThing_0 1 rfl
theorem dX9_isThing_4 : decode cX9_isThing 4 = .ok (.iload_n 1, 1) := dk_i kdX9_isThing_0 2 rfl
theorem dX9_isThing_5 : decode cX9_isThing 5 = .ok (.aload_n 0, 1) := dk_i kdX9_isThing_0 3 rfl
theorem dX9_isThing_6 : decode cX9_isThing 6 = .ok (.getfield 15, 3) := dk_i kdX9_isThing_0 4 rfl
theorem dX9_isThing_9 : decode cX9_isThing 9 = .ok (.if_icmp .ge 7, 3) := dk_i kdX9_isThing_0 5 rfl
theorem dX9_isThing_12 : decode cX9_isThing 12 = .ok (.iconst 1, 1) := dk_i kdX9_isThing_0 6 rfl
theorem dX9_isThing_13 : decode cX9_isThing 13 = .ok (.goto 4, 3) := dk_i kdX9_isThing_0 7 rfl
theorem dX9_isThing_16 : decode cX9_isThing 16 = .ok (.iconst 0, 1) := dk_i kdX9_isThing_0 8 rfl
theorem dX9_isThing_17 : decode cX9_isThing 17 = .ok (.ireturn, 1) := dk_i kdX9_isThing_0 9 rfl
def ldX9_isCorner_0 : List (Nat × ClassFile.Instr × Nat) := [(0, .iload_n 1, 1), (1, .ifCond .lt 15, 3), (4, .iload_n 1, 1), (5, .aload_n 0, 1), (6, .getfield 28, 3), (9, .if_icmp .ge 7, 3), (12, .iconst 1, 1), (13, .goto 4, 3), (16, .iconst 0, 1), (17, .ireturn, 1)]
theorem kdX9_isCorner_0 : dkO cX9_isCorner 0 ldX9_isCorner_0 = true := by decide +kernel
theorem dX9_isCorner_0 : decode cX9_isCorner 0 = .ok (.iload_n 1, 1) := dk_i kdX9_isCorner_0 0 rfl
theorem dX9_isCorner_1 : decode cX9_isCorner 1 = .ok (.ifCond .lt 15, 3) := dk_i kdX9_isCorner_0 1 rfl
theorem dX9_isCorner_4 : decode cX9_isCorner 4 = .ok (.iload_n 1, 1) := dk_i kdX9_isCorner_0 2 rfl
theorem dX9_isCorner_5 : decode cX9_isCorner 5 = .ok (.aload_n 0, 1) := dk_i kdX9_isCorner_0 3 rfl
theorem dX9_isCorner_6 : decode cX9_isCorner 6 = .ok (.getfield 28, 3) := dk_i kdX9_isCorner_0 4 rfl
theorem dX9_isCorner_9 : decode cX9_isCorner 9 = .ok (.if_icmp .ge 7, 3) := dk_i kdX9_isCorner_0 5 rfl
theorem dX9_isCorner_12 : decode cX9_isCorner 12 = .ok (.iconst 1, 1) := dk_i kdX9_isCorner_0 6 rfl
theorem dX9_isCorner_13 : decode cX9_isCorner 13 = .ok (.goto 4, 3) := dk_i kdX9_isCorner_0 7 rfl
theorem dX9_isCorner_16 : decode cX9_isCorner 16 = .ok (.iconst 0, 1) := dk_i kdX9_isCorner_0 8 rfl
theorem dX9_isCorner_17 : decode cX9_isCorner 17 = .ok (.ireturn, 1) := dk_i kdX9_isCorner_0 9 rfl
def ldX9_isDoing_0 : List (Nat × ClassFile.Instr × Nat) := [(0, .iload_n 1, 1), (1, .ifCond .lt 15, 3), (4, .iload_n 1, 1), (5, .aload_n 0, 1), (6, .getfield 49, 3), (9, .if_icmp .ge 7, 3), (12, .iconst 1, 1), (13, .goto 4, 3), (16, .iconst 0, 1), (17, .ireturn, 1)]
theorem kdX9_isDoing_0 : dkO cX9_isDoing 0 ldX9_isDoing_0 = true := by decide +kernel
theorem dX9_isDoing_0 : decode cX9_isDoing 0 = .ok (.iload_n 1, 1) := dk_i kdX9_isDoing_0 0 rfl
theorem dX9_isDoing_1 : decode cX9_isDoing 1 = .ok (.ifCond .lt 15, 3) := dk_i kdX9_isDoing_0 1 rfl
theorem dX9_isDoing_4 : decode cX9_isDoing 4 = .ok (.iload_n 1, 1) := dk_i kdX9_isDoing_0 2 rfl
theorem dX9_isDoing_5 : decode cX9_isDoing 5 = .ok (.aload_n 0, 1) := dk_i kdX9_isDoing_0 3 rfl
theorem dX9_isDoing_6 : decode cX9_isDoing 6 = .ok (.getfield 49, 3) := dk_i kdX9_isDoing_0 4 rfl
theorem dX9_isDoing_9 : decode cX9_isDoing 9 = .ok (.if_icmp .ge 7, 3) := dk_i kdX9_isDoing_0 5 rfl
theorem dX9_isDoing_12 : decode cX9_isDoing 12 = .ok (.iconst 1, 1) := dk_i kdX9_isDoing_0 6 rfl
theorem dX9_isDoing_13 : decode cX9_isDoing 13 = .ok (.goto 4, 3) := dk_i kdX9_isDoing_0 7 rfl
theorem dX9_isDoing_16 : decode cX9_isDoing 16 = .ok (.iconst 0, 1) := dk_i kdX9_isDoing_0 8 rfl
theorem dX9_isDoing_17 : decode cX9_isDoing 17 = .ok (.ireturn, 1) := dk_i kdX9_isDoing_0 9 rfl
def ldX9_findThing_0 : List (Nat × ClassFile.Instr × Nat) := [(0, .aload_n 0, 1), (1, .getfield 18, 3), (4, .aload_n 0, 1), (5, .getfield 15, 3), (8, .iload_n 1, 1), (9, .invokestatic 77, 3), (12, .ireturn, 1)]
theorem kdX9_findThing_0 : dkO cX9_findThing 0 ldX9_findThing_0 = true := by decide +kernel
theorem dX9_findThing_0 : decode cX9_findThing 0 = .ok (.aload_n 0, 1) := dk_i kdX9_findThing_0 0 rfl
theorem dX9_findThing_1 : decode cX9_findThing 1 = .ok (.getfield 18, 3) := dk_i kdX9_findThing_0 1 rfl
theorem dX9_findThing_4 : decode cX9_findThing 4 = .ok (.aload_n 0, 1) := dk_i kdX9_findThing_0 2 rfl
theorem dX9_findThing_5 : decode cX9_findThing 5 = .ok (.getfield 15, 3) := dk_i kdX9_findThing_0 3 rfl
theorem dX9_findThing_8 : decode cX9_findThing 8 = .ok (.iload_n 1, 1) := dk_i kdX9_findThing_0 4 rfl
theorem dX9_findThing_9 : decode cX9_findThing 9 = .ok (.invokestatic 77, 3) := dk_i kdX9_findThing_0 5 rfl
theorem dX9_findThing_12 : decode cX9_findThing 12 = .ok (.ireturn, 1) := dk_i kdX9_findThing_0 6 rfl
def ldX9_findCorner_0 : List (Nat × ClassFile.Instr × Nat) := [(0, .aload_n 0, 1), (1, .getfield 31, 3), (4, .aload_n 0, 1), (5, .getfield 28, 3), (8, .iload_n 1, 1), (9, .invokestatic 77, 3), (12, .ireturn, 1)]
theorem kdX9_findCorner_0 : dkO cX9_findCorner 0 ldX9_findCorner_0 = true := by decide +kernel
theorem dX9_findCorner_0 : decode cX9_findCorner 0 = .ok (.aload_n 0, 1) := dk_i kdX9_findCorner_0 0 rfl
theorem dX9_findCorner_1 : decode cX9_findCorner 1 = .ok (.getfield 31, 3) := dk_i kdX9_findCorner_0 1 rfl
theorem dX9_findCorner_4 : decode cX9_findCorner 4 = .ok (.aload_n 0, 1) := dk_i kdX9_findCorner_0 2 rfl
theorem dX9_findCorner_5 : decode cX9_findCorner 5 = .ok (.getfield 28, 3) := dk_i kdX9_findCorner_0 3 rfl
theorem dX9_findCorner_8 : decode cX9_findCorner 8 = .ok (.iload_n 1, 1) := dk_i kdX9_findCorner_0 4 rfl
theorem dX9_findCorner_9 : decode cX9_findCorner 9 = .ok (.invokestatic 77, 3) := dk_i kdX9_findCorner_0 5 rfl
theorem dX9_findCorner_12 : decode cX9_findCorner 12 = .ok (.ireturn, 1) := dk_i kdX9_findCorner_0 6 rfl
def ldX9_findDoing_0 : List (Nat × ClassFile.Instr × Nat) := [(0, .aload_n 0, 1), (1, .getfield 52, 3), (4, .aload_n 0, 1), (5, .getfield 49, 3), (8, .iload_n 1, 1), (9, .invokestatic 77, 3), (12, .ireturn, 1)]
theorem kdX9_findDoing_0 : dkO cX9_findDoing 0 ldX9_findDoing_0 = true := by decide +kernel
theorem dX9_findDoing_0 : decode cX9_findDoing 0 = .ok (.aload_n 0, 1) := dk_i kdX9_findDoing_0 0 rfl
theorem dX9_findDoing_1 : decode cX9_findDoing 1 = .ok (.getfield 52, 3) := dk_i kdX9_findDoing_0 1 rfl
theorem dX9_findDoing_4 : decode cX9_findDoing 4 = .ok (.aload_n 0, 1) := dk_i kdX9_findDoing_0 2 rfl
theorem dX9_findDoing_5 : decode cX9_findDoing 5 = .ok (.getfield 49, 3) := dk_i kdX9_findDoing_0 3 rfl
theorem dX9_findDoing_8 : decode cX9_findDoing 8 = .ok (.iload_n 1, 1) := dk_i kdX9_findDoing_0 4 rfl
theorem dX9_findDoing_9 : decode cX9_findDoing 9 = .ok (.invokestatic 77, 3) := dk_i kdX9_findDoing_0 5 rfl
theorem dX9_findDoing_12 : decode cX9_findDoing 12 = .ok (.ireturn, 1) := dk_i kdX9_findDoing_0 6 rfl
def ldX9_find_0 : List (Nat × ClassFile.Instr × Nat) := [(0, .iconst 0, 1), (1, .istore_n 3, 1), (2, .iload_n 3, 1), (3, .iload_n 1, 1), (4, .if_icmp .ge 24, 3), (7, .iload_n 3, 1), (8, .aload_n 0, 1), (9, .arraylength, 1), (10, .if_icmp .ge 18, 3), (13, .aload_n 0, 1), (14, .iload_n 3, 1), (15, .iaload, 1), (16, .iload_n 2, 1), (17, .if_icmp .ne 5, 3), (20, .iload_n 3, 1), (21, .ireturn, 1)]
theorem kdX9_find_0 : dkO cX9_find 0 ldX9_find_0 = true := by decide +kernel
theorem dX9_find_0 : decode cX9_find 0 = .ok (.iconst 0, 1) := dk_i kdX9_find_0 0 rfl
theorem dX9_find_1 : decode cX9_find 1 = .ok (.istore_n 3, 1) := dk_i kdX9_find_0 1 rfl
theorem dX9_find_2 : decode cX9_find 2 = .ok (.iload_n 3, 1) := dk_i kdX9_find_0 2 rfl
theorem dX9_find_3 : decode cX9_find 3 = .ok (.iload_n 1, 1) := dk_i kdX9_find_0 3 rfl
theorem dX9_find_4 : decode cX9_find 4 = .ok (.if_icmp .ge 24, 3) := dk_i kdX9_find_0 4 rfl
theorem dX9_find_7 : decode cX9_find 7 = .ok (.iload_n 3, 1) := dk_i kdX9_find_0 5 rfl
theorem dX9_find_8 : decode cX9_find 8 = .ok (.aload_n 0, 1) := dk_i kdX9_find_0 6 rfl
theorem dX9_find_9 : decode cX9_find 9 = .ok (.arraylength, 1) := dk_i kdX9_find_0 7 rfl
theorem dX9_find_10 : decode cX9_find 10 = .ok (.if_icmp .ge 18, 3) := dk_i kdX9_find_0 8 rfl
theorem dX9_find_13 : decode cX9_find 13 = .ok (.aload_n 0, 1) := dk_i kdX9_find_0 9 rfl
theorem dX9_find_14 : decode cX9_find 14 = .ok (.iload_n 3, 1) := dk_i kdX9_find_0 10 rfl
theorem dX9_find_15 : decode cX9_find 15 = .ok (.iaload, 1) := dk_i kdX9_find_0 11 rfl
theorem dX9_find_16 : decode cX9_find 16 = .ok (.iload_n 2, 1) := dk_i kdX9_find_0 12 rfl
theorem dX9_find_17 : decode cX9_find 17 = .ok (.if_icmp .ne 5, 3) := dk_i kdX9_find_0 13 rfl
theorem dX9_find_20 : decode cX9_find 20 = .ok (.iload_n 3, 1) := dk_i kdX9_find_0 14 rfl
theorem dX9_find_21 : decode cX9_find 21 = .ok (.ireturn, 1) := dk_i kdX9_find_0 15 rfl
def ldX9_find_22 : List (Nat × ClassFile.Instr × Nat) := [(22, .iinc 3 1, 3), (25, .goto (-23), 3), (28, .iconst (-1), 1), (29, .ireturn, 1)]
theorem kdX9_find_22 : dkO cX9_find 22 ldX9_find_22 = true := by decide +kernel
theorem dX9_find_22 : decode cX9_find 22 = .ok (.iinc 3 1, 3) := dk_i kdX9_find_22 0 rfl
theorem dX9_find_25 : decode cX9_find 25 = .ok (.goto (-23), 3) := dk_i kdX9_find_22 1 rfl
theorem dX9_find_28 : decode cX9_find 28 = .ok (.iconst (-1), 1) := dk_i kdX9_find_22 2 rfl
theorem dX9_find_29 : decode cX9_find 29 = .ok (.ireturn, 1) := dk_i kdX9_find_22 3 rfl
def ldX9_hasRoad_0 : List (Nat × ClassFile.Instr × Nat) := [(0, .iconst 0, 1), (1, .istore_n 3, 1), (2, .iload_n 3, 1), (3, .aload_n 0, 1), (4, .getfield 37, 3), (7, .if_icmp .ge 75, 3), (10, .aload_n 0, 1), (11, .getfield 40, 3), (14, .iload_n 3, 1), (15, .iaload, 1), (16, .iload_n 1, 1), (17, .if_icmp .ne 17, 3), (20, .aload_n 0, 1), (21, .getfield 43, 3), (24, .iload_n 3, 1), (25, .iaload, 1)]
theorem kdX9_hasRoad_0 : dkO cX9_hasRoad 0 ldX9_hasRoad_0 = true := by decide +kernel
theorem dX9_hasRoad_0 : decode cX9_hasRoad 0 = .ok (.iconst 0, 1) := dk_i kdX9_hasRoad_0 0 rfl
theorem dX9_hasRoad_1 : decode cX9_hasRoad 1 = .ok (.istore_n 3, 1) := dk_i kdX9_hasRoad_0 1 rfl
theorem dX9_hasRoad_2 : decode cX9_hasRoad 2 = .ok (.iload_n 3, 1) := dk_i kdX9_hasRoad_0 2 rfl
theorem dX9_hasRoad_3 : decode cX9_hasRoad 3 = .ok (.aload_n 0, 1) := dk_i kdX9_hasRoad_0 3 rfl
theorem dX9_hasRoad_4 : decode cX9_hasRoad 4 = .ok (.getfield 37, 3) := dk_i kdX9_hasRoad_0 4 rfl
theorem dX9_hasRoad_7 : decode cX9_hasRoad 7 = .ok (.if_icmp .ge 75, 3) := dk_i kdX9_hasRoad_0 5 rfl
theorem dX9_hasRoad_10 : decode cX9_hasRoad 10 = .ok (.aload_n 0, 1) := dk_i kdX9_hasRoad_0 6 rfl
theorem dX9_hasRoad_11 : decode cX9_hasRoad 11 = .ok (.getfield 40, 3) := dk_i kdX9_hasRoad_0 7 rfl
theorem dX9_hasRoad_14 : decode cX9_hasRoad 14 = .ok (.iload_n 3, 1) := dk_i kdX9_hasRoad_0 8 rfl
theorem dX9_hasRoad_15 : decode cX9_hasRoad 15 = .ok (.iaload, 1) := dk_i kdX9_hasRoad_0 9 rfl
theorem dX9_hasRoad_16 : decode cX9_hasRoad 16 = .ok (.iload_n 1, 1) := dk_i kdX9_hasRoad_0 10 rfl
theorem dX9_hasRoad_17 : decode cX9_hasRoad 17 = .ok (.if_icmp .ne 17, 3) := dk_i kdX9_hasRoad_0 11 rfl
theorem dX9_hasRoad_20 : decode cX9_hasRoad 20 = .ok (.aload_n 0, 1) := dk_i kdX9_hasRoad_0 12 rfl
theorem dX9_hasRoad_21 : decode cX9_hasRoad 21 = .ok (.getfield 43, 3) := dk_i kdX9_hasRoad_0 13 rfl
theorem dX9_hasRoad_24 : decode cX9_hasRoad 24 = .ok (.iload_n 3, 1) := dk_i kdX9_hasRoad_0 14 rfl
theorem dX9_hasRoad_25 : decode cX9_hasRoad 25 = .ok (.iaload, 1) := dk_i kdX9_hasRoad_0 15 rfl
def ldX9_hasRoad_26 : List (Nat × ClassFile.Instr × Nat) := [(26, .iload_n 2, 1), (27, .if_icmp .ne 7, 3), (30, .iconst 1, 1), (31, .goto 4, 3), (34, .iconst 0, 1), (35, .istore 4, 2), (37, .aload_n 0, 1), (38, .getfield 40, 3), (41, .iload_n 3, 1), (42, .iaload, 1), (43, .iload_n 2, 1), (44, .if_icmp .ne 17, 3), (47, .aload_n 0, 1), (48, .getfield 43, 3), (51, .iload_n 3, 1), (52, .iaload, 1)]
theorem kdX9_hasRoad_26 : dkO cX9_hasRoad 26 ldX9_hasRoad_26 = true := by decide +kernel
theorem dX9_hasRoad_26 : decode cX9_hasRoad 26 = .ok (.iload_n 2, 1) := dk_i kdX9_hasRoad_26 0 rfl
theorem dX9_hasRoad_27 : decode cX9_hasRoad 27 = .ok (.if_icmp .ne 7, 3) := dk_i kdX9_hasRoad_26 1 rfl
theorem dX9_hasRoad_30 : decode cX9_hasRoad 30 = .ok (.iconst 1, 1) := dk_i kdX9_hasRoad_26 2 rfl
theorem dX9_hasRoad_31 : decode cX9_hasRoad 31 = .ok (.goto 4, 3) := dk_i kdX9_hasRoad_26 3 rfl
theorem dX9_hasRoad_34 : decode cX9_hasRoad 34 = .ok (.iconst 0, 1) := dk_i kdX9_hasRoad_26 4 rfl
theorem dX9_hasRoad_35 : decode cX9_hasRoad 35 = .ok (.istore 4, 2) := dk_i kdX9_hasRoad_26 5 rfl
theorem dX9_hasRoad_37 : decode cX9_hasRoad 37 = .ok (.aload_n 0, 1) := dk_i kdX9_hasRoad_26 6 rfl
theorem dX9_hasRoad_38 : decode cX9_hasRoad 38 = .ok (.getfield 40, 3) := dk_i kdX9_hasRoad_26 7 rfl
theorem dX9_hasRoad_41 : decode cX9_hasRoad 41 = .ok (.iload_n 3, 1) := dk_i kdX9_hasRoad_26 8 rfl
theorem dX9_hasRoad_42 : decode cX9_hasRoad 42 = .ok (.iaload, 1) := dk_i kdX9_hasRoad_26 9 rfl
theorem dX9_hasRoad_43 : decode cX9_hasRoad 43 = .ok (.iload_n 2, 1) := dk_i kdX9_hasRoad_26 10 rfl
theorem dX9_hasRoad_44 : decode cX9_hasRoad 44 = .ok (.if_icmp .ne 17, 3) := dk_i kdX9_hasRoad_26 11 rfl
theorem dX9_hasRoad_47 : decode cX9_hasRoad 47 = .ok (.aload_n 0, 1) := dk_i kdX9_hasRoad_26 12 rfl
theorem dX9_hasRoad_48 : decode cX9_hasRoad 48 = .ok (.getfield 43, 3) := dk_i kdX9_hasRoad_26 13 rfl
theorem dX9_hasRoad_51 : decode cX9_hasRoad 51 = .ok (.iload_n 3, 1) := dk_i kdX9_hasRoad_26 14 rfl
theorem dX9_hasRoad_52 : decode cX9_hasRoad 52 = .ok (.iaload, 1) := dk_i kdX9_hasRoad_26 15 rfl
def ldX9_hasRoad_53 : List (Nat × ClassFile.Instr × Nat) := [(53, .iload_n 1, 1), (54, .if_icmp .ne 7, 3), (57, .iconst 1, 1), (58, .goto 4, 3), (61, .iconst 0, 1), (62, .istore 5, 2), (64, .iload 4, 2), (66, .ifCond .ne 8, 3), (69, .iload 5, 2), (71, .ifCond .eq 5, 3), (74, .iconst 1, 1), (75, .ireturn, 1), (76, .iinc 3 1, 3), (79, .goto (-77), 3), (82, .iconst 0, 1), (83, .ireturn, 1)]
theorem kdX9_hasRoad_53 : dkO cX9_hasRoad 53 ldX9_hasRoad_53 = true := by decide +kernel
theorem dX9_hasRoad_53 : decode cX9_hasRoad 53 = .ok (.iload_n 1, 1) := dk_i kdX9_hasRoad_53 0 rfl
theorem dX9_hasRoad_54 : decode cX9_hasRoad 54 = .ok (.if_icmp .ne 7, 3) := dk_i kdX9_hasRoad_53 1 rfl
theorem dX9_hasRoad_57 : decode cX9_hasRoad 57 = .ok (.iconst 1, 1) := dk_i kdX9_hasRoad_53 2 rfl
theorem dX9_hasRoad_58 : decode cX9_hasRoad 58 = .ok (.goto 4, 3) := dk_i kdX9_hasRoad_53 3 rfl
theorem dX9_hasRoad_61 : decode cX9_hasRoad 61 = .ok (.iconst 0, 1) := dk_i kdX9_hasRoad_53 4 rfl
theorem dX9_hasRoad_62 : decode cX9_hasRoad 62 = .ok (.istore 5, 2) := dk_i kdX9_hasRoad_53 5 rfl
theorem dX9_hasRoad_64 : decode cX9_hasRoad 64 = .ok (.iload 4, 2) := dk_i kdX9_hasRoad_53 6 rfl
theorem dX9_hasRoad_66 : decode cX9_hasRoad 66 = .ok (.ifCond .ne 8, 3) := dk_i kdX9_hasRoad_53 7 rfl
theorem dX9_hasRoad_69 : decode cX9_hasRoad 69 = .ok (.iload 5, 2) := dk_i kdX9_hasRoad_53 8 rfl
theorem dX9_hasRoad_71 : decode cX9_hasRoad 71 = .ok (.ifCond .eq 5, 3) := dk_i kdX9_hasRoad_53 9 rfl
theorem dX9_hasRoad_74 : decode cX9_hasRoad 74 = .ok (.iconst 1, 1) := dk_i kdX9_hasRoad_53 10 rfl
theorem dX9_hasRoad_75 : decode cX9_hasRoad 75 = .ok (.ireturn, 1) := dk_i kdX9_hasRoad_53 11 rfl
theorem dX9_hasRoad_76 : decode cX9_hasRoad 76 = .ok (.iinc 3 1, 3) := dk_i kdX9_hasRoad_53 12 rfl
theorem dX9_hasRoad_79 : decode cX9_hasRoad 79 = .ok (.goto (-77), 3) := dk_i kdX9_hasRoad_53 13 rfl
theorem dX9_hasRoad_82 : decode cX9_hasRoad 82 = .ok (.iconst 0, 1) := dk_i kdX9_hasRoad_53 14 rfl
theorem dX9_hasRoad_83 : decode cX9_hasRoad 83 = .ok (.ireturn, 1) := dk_i kdX9_hasRoad_53 15 rfl
def ldX9_addThing_0 : List (Nat × ClassFile.Instr × Nat) := [(0, .aload_n 0, 1), (1, .getfield 15, 3), (4, .bipush 6, 2), (6, .if_icmp .ge 43, 3), (9, .aload_n 0, 1), (10, .getfield 18, 3), (13, .aload_n 0, 1), (14, .getfield 15, 3), (17, .iload_n 1, 1), (18, .iastore, 1), (19, .aload_n 0, 1), (20, .getfield 22, 3), (23, .aload_n 0, 1), (24, .getfield 15, 3), (27, .iload_n 2, 1), (28, .iastore, 1)]
theorem kdX9_addThing_0 : dkO cX9_addThing 0 ldX9_addThing_0 = true := by decide +kernel
theorem dX9_addThing_0 : decode cX9_addThing 0 = .ok (.aload_n 0, 1) := dk_i kdX9_addThing_0 0 rfl
theorem dX9_addThing_1 : decode cX9_addThing 1 = .ok (.getfield 15, 3) := dk_i kdX9_addThing_0 1 rfl
theorem dX9_addThing_4 : decode cX9_addThing 4 = .ok (.bipush 6, 2) := dk_i kdX9_addThing_0 2 rfl
theorem dX9_addThing_6 : decode cX9_addThing 6 = .ok (.if_icmp .ge 43, 3) := dk_i kdX9_addThing_0 3 rfl
theorem dX9_addThing_9 : decode cX9_addThing 9 = .ok (.aload_n 0, 1) := dk_i kdX9_addThing_0 4 rfl
theorem dX9_addThing_10 : decode cX9_addThing 10 = .ok (.getfield 18, 3) := dk_i kdX9_addThing_0 5 rfl
theorem dX9_addThing_13 : decode cX9_addThing 13 = .ok (.aload_n 0, 1) := dk_i kdX9_addThing_0 6 rfl
theorem dX9_addThing_14 : decode cX9_addThing 14 = .ok (.getfield 15, 3) := dk_i kdX9_addThing_0 7 rfl
theorem dX9_addThing_17 : decode cX9_addThing 17 = .ok (.iload_n 1, 1) := dk_i kdX9_addThing_0 8 rfl
theorem dX9_addThing_18 : decode cX9_addThing 18 = .ok (.iastore, 1) := dk_i kdX9_addThing_0 9 rfl
theorem dX9_addThing_19 : decode cX9_addThing 19 = .ok (.aload_n 0, 1) := dk_i kdX9_addThing_0 10 rfl
theorem dX9_addThing_20 : decode cX9_addThing 20 = .ok (.getfield 22, 3) := dk_i kdX9_addThing_0 11 rfl
theorem dX9_addThing_23 : decode cX9_addThing 23 = .ok (.aload_n 0, 1) := dk_i kdX9_addThing_0 12 rfl
theorem dX9_addThing_24 : decode cX9_addThing 24 = .ok (.getfield 15, 3) := dk_i kdX9_addThing_0 13 rfl
theorem dX9_addThing_27 : decode cX9_addThing 27 = .ok (.iload_n 2, 1) := dk_i kdX9_addThing_0 14 rfl
theorem dX9_addThing_28 : decode cX9_addThing 28 = .ok (.iastore, 1) := dk_i kdX9_addThing_0 15 rfl
def ldX9_addThing_29 : List (Nat × ClassFile.Instr × Nat) := [(29, .aload_n 0, 1), (30, .getfield 25, 3), (33, .aload_n 0, 1), (34, .getfield 15, 3), (37, .iload_n 3, 1), (38, .iastore, 1), (39, .aload_n 0, 1), (40, .dup, 1), (41, .getfield 15, 3), (44, .iconst 1, 1), (45, .iadd, 1), (46, .putfield 15, 3), (49, .return_, 1)]
theorem kdX9_addThing_29 : dkO cX9_addThing 29 ldX9_addThing_29 = true := by decide +kernel
theorem dX9_addThing_29 : decode cX9_addThing 29 = .ok (.aload_n 0, 1) := dk_i kdX9_addThing_29 0 rfl
theorem dX9_addThing_30 : decode cX9_addThing 30 = .ok (.getfield 25, 3) := dk_i kdX9_addThing_29 1 rfl
theorem dX9_addThing_33 : decode cX9_addThing 33 = .ok (.aload_n 0, 1) := dk_i kdX9_addThing_29 2 rfl
theorem dX9_addThing_34 : decode cX9_addThing 34 = .ok (.getfield 15, 3) := dk_i kdX9_addThing_29 3 rfl
theorem dX9_addThing_37 : decode cX9_addThing 37 = .ok (.iload_n 3, 1) := dk_i kdX9_addThing_29 4 rfl
theorem dX9_addThing_38 : decode cX9_addThing 38 = .ok (.iastore, 1) := dk_i kdX9_addThing_29 5 rfl
theorem dX9_addThing_39 : decode cX9_addThing 39 = .ok (.aload_n 0, 1) := dk_i kdX9_addThing_29 6 rfl
theorem dX9_addThing_40 : decode cX9_addThing 40 = .ok (.dup, 1) := dk_i kdX9_addThing_29 7 rfl
theorem dX9_addThing_41 : decode cX9_addThing 41 = .ok (.getfield 15, 3) := dk_i kdX9_addThing_29 8 rfl
theorem dX9_addThing_44 : decode cX9_addThing 44 = .ok (.iconst 1, 1) := dk_i kdX9_addThing_29 9 rfl
theorem dX9_addThing_45 : decode cX9_addThing 45 = .ok (.iadd, 1) := dk_i kdX9_addThing_29 10 rfl
theorem dX9_addThing_46 : decode cX9_addThing 46 = .ok (.putfield 15, 3) := dk_i kdX9_addThing_29 11 rfl
theorem dX9_addThing_49 : decode cX9_addThing 49 = .ok (.return_, 1) := dk_i kdX9_addThing_29 12 rfl
def ldX9_addCorner_0 : List (Nat × ClassFile.Instr × Nat) := [(0, .aload_n 0, 1), (1, .getfield 28, 3), (4, .iconst 5, 1), (5, .if_icmp .ge 33, 3), (8, .aload_n 0, 1), (9, .getfield 31, 3), (12, .aload_n 0, 1), (13, .getfield 28, 3), (16, .iload_n 1, 1), (17, .iastore, 1), (18, .aload_n 0, 1), (19, .getfield 34, 3), (22, .aload_n 0, 1), (23, .getfield 28, 3), (26, .iconst (-1), 1), (27, .iastore, 1)]
theorem kdX9_addCorner_0 : dkO cX9_addCorner 0 ldX9_addCorner_0 = true := by decide +kernel
theorem dX9_addCorner_0 : decode cX9_addCorner 0 = .ok (.aload_n 0, 1) := dk_i kdX9_addCorner_0 0 rfl
theorem dX9_addCorner_1 : decode cX9_addCorner 1 = .ok (.getfield 28, 3) := dk_i kdX9_addCorner_0 1 rfl
theorem dX9_addCorner_4 : decode cX9_addCorner 4 = .ok (.iconst 5, 1) := dk_i kdX9_addCorner_0 2 rfl
theorem dX9_addCorner_5 : decode cX9_addCorner 5 = .ok (.if_icmp .ge 33, 3) := dk_i kdX9_addCorner_0 3 rfl
theorem dX9_addCorner_8 : decode cX9_addCorner 8 = .ok (.aload_n 0, 1) := dk_i kdX9_addCorner_0 4 rfl
theorem dX9_addCorner_9 : decode cX9_addCorner 9 = .ok (.getfield 31, 3) := dk_i kdX9_addCorner_0 5 rfl
theorem dX9_addCorner_12 : decode cX9_addCorner 12 = .ok (.aload_n 0, 1) := dk_i kdX9_addCorner_0 6 rfl
theorem dX9_addCorner_13 : decode cX9_addCorner 13 = .ok (.getfield 28, 3) := dk_i kdX9_addCorner_0 7 rfl
theorem dX9_addCorner_16 : decode cX9_addCorner 16 = .ok (.iload_n 1, 1) := dk_i kdX9_addCorner_0 8 rfl
theorem dX9_addCorner_17 : decode cX9_addCorner 17 = .ok (.iastore, 1) := dk_i kdX9_addCorner_0 9 rfl
theorem dX9_addCorner_18 : decode cX9_addCorner 18 = .ok (.aload_n 0, 1) := dk_i kdX9_addCorner_0 10 rfl
theorem dX9_addCorner_19 : decode cX9_addCorner 19 = .ok (.getfield 34, 3) := dk_i kdX9_addCorner_0 11 rfl
theorem dX9_addCorner_22 : decode cX9_addCorner 22 = .ok (.aload_n 0, 1) := dk_i kdX9_addCorner_0 12 rfl
theorem dX9_addCorner_23 : decode cX9_addCorner 23 = .ok (.getfield 28, 3) := dk_i kdX9_addCorner_0 13 rfl
theorem dX9_addCorner_26 : decode cX9_addCorner 26 = .ok (.iconst (-1), 1) := dk_i kdX9_addCorner_0 14 rfl
theorem dX9_addCorner_27 : decode cX9_addCorner 27 = .ok (.iastore, 1) := dk_i kdX9_addCorner_0 15 rfl
def ldX9_addCorner_28 : List (Nat × ClassFile.Instr × Nat) := [(28, .aload_n 0, 1), (29, .dup, 1), (30, .getfield 28, 3), (33, .iconst 1, 1), (34, .iadd, 1), (35, .putfield 28, 3), (38, .return_, 1)]
theorem kdX9_addCorner_28 : dkO cX9_addCorner 28 ldX9_addCorner_28 = true := by decide +kernel
theorem dX9_addCorner_28 : decode cX9_addCorner 28 = .ok (.aload_n 0, 1) := dk_i kdX9_addCorner_28 0 rfl
theorem dX9_addCorner_29 : decode cX9_addCorner 29 = .ok (.dup, 1) := dk_i kdX9_addCorner_28 1 rfl
theorem dX9_addCorner_30 : decode cX9_addCorner 30 = .ok (.getfield 28, 3) := dk_i kdX9_addCorner_28 2 rfl
theorem dX9_addCorner_33 : decode cX9_addCorner 33 = .ok (.iconst 1, 1) := dk_i kdX9_addCorner_28 3 rfl
theorem dX9_addCorner_34 : decode cX9_addCorner 34 = .ok (.iadd, 1) := dk_i kdX9_addCorner_28 4 rfl
theorem dX9_addCorner_35 : decode cX9_addCorner 35 = .ok (.putfield 28, 3) := dk_i kdX9_addCorner_28 5 rfl
theorem dX9_addCorner_38 : decode cX9_addCorner 38 = .ok (.return_, 1) := dk_i kdX9_addCorner_28 6 rfl
def ldX9_addRoad_0 : List (Nat × ClassFile.Instr × Nat) := [(0, .aload_n 0, 1), (1, .getfield 37, 3), (4, .bipush 10, 2), (6, .if_icmp .ge 43, 3), (9, .aload_n 0, 1), (10, .getfield 40, 3), (13, .aload_n 0, 1), (14, .getfield 37, 3), (17, .iload_n 1, 1), (18, .iastore, 1), (19, .aload_n 0, 1), (20, .getfield 43, 3), (23, .aload_n 0, 1), (24, .getfield 37, 3), (27, .iload_n 2, 1), (28, .iastore, 1)]
theorem kdX9_addRoad_0 : dkO cX9_addRoad 0 ldX9_addRoad_0 = true := by decide +kernel
theorem dX9_addRoad_0 : decode cX9_addRoad 0 = .ok (.aload_n 0, 1) := dk_i kdX9_addRoad_0 0 rfl
theorem dX9_addRoad_1 : decode cX9_addRoad 1 = .ok (.getfield 37, 3) := dk_i kdX9_addRoad_0 1 rfl
theorem dX9_addRoad_4 : decode cX9_addRoad 4 = .ok (.bipush 10, 2) := dk_i kdX9_addRoad_0 2 rfl
theorem dX9_addRoad_6 : decode cX9_addRoad 6 = .ok (.if_icmp .ge 43, 3) := dk_i kdX9_addRoad_0 3 rfl
theorem dX9_addRoad_9 : decode cX9_addRoad 9 = .ok (.aload_n 0, 1) := dk_i kdX9_addRoad_0 4 rfl
theorem dX9_addRoad_10 : decode cX9_addRoad 10 = .ok (.getfield 40, 3) := dk_i kdX9_addRoad_0 5 rfl
theorem dX9_addRoad_13 : decode cX9_addRoad 13 = .ok (.aload_n 0, 1) := dk_i kdX9_addRoad_0 6 rfl
theorem dX9_addRoad_14 : decode cX9_addRoad 14 = .ok (.getfield 37, 3) := dk_i kdX9_addRoad_0 7 rfl
theorem dX9_addRoad_17 : decode cX9_addRoad 17 = .ok (.iload_n 1, 1) := dk_i kdX9_addRoad_0 8 rfl
theorem dX9_addRoad_18 : decode cX9_addRoad 18 = .ok (.iastore, 1) := dk_i kdX9_addRoad_0 9 rfl
theorem dX9_addRoad_19 : decode cX9_addRoad 19 = .ok (.aload_n 0, 1) := dk_i kdX9_addRoad_0 10 rfl
theorem dX9_addRoad_20 : decode cX9_addRoad 20 = .ok (.getfield 43, 3) := dk_i kdX9_addRoad_0 11 rfl
theorem dX9_addRoad_23 : decode cX9_addRoad 23 = .ok (.aload_n 0, 1) := dk_i kdX9_addRoad_0 12 rfl
theorem dX9_addRoad_24 : decode cX9_addRoad 24 = .ok (.getfield 37, 3) := dk_i kdX9_addRoad_0 13 rfl
theorem dX9_addRoad_27 : decode cX9_addRoad 27 = .ok (.iload_n 2, 1) := dk_i kdX9_addRoad_0 14 rfl
theorem dX9_addRoad_28 : decode cX9_addRoad 28 = .ok (.iastore, 1) := dk_i kdX9_addRoad_0 15 rfl
def ldX9_addRoad_29 : List (Nat × ClassFile.Instr × Nat) := [(29, .aload_n 0, 1), (30, .getfield 46, 3), (33, .aload_n 0, 1), (34, .getfield 37, 3), (37, .iload_n 3, 1), (38, .iastore, 1), (39, .aload_n 0, 1), (40, .dup, 1), (41, .getfield 37, 3), (44, .iconst 1, 1), (45, .iadd, 1), (46, .putfield 37, 3), (49, .return_, 1)]
theorem kdX9_addRoad_29 : dkO cX9_addRoad 29 ldX9_addRoad_29 = true := by decide +kernel
theorem dX9_addRoad_29 : decode cX9_addRoad 29 = .ok (.aload_n 0, 1) := dk_i kdX9_addRoad_29 0 rfl
theorem dX9_addRoad_30 : decode cX9_addRoad 30 = .ok (.getfield 46, 3) := dk_i kdX9_addRoad_29 1 rfl
theorem dX9_addRoad_33 : decode cX9_addRoad 33 = .ok (.aload_n 0, 1) := dk_i kdX9_addRoad_29 2 rfl
theorem dX9_addRoad_34 : decode cX9_addRoad 34 = .ok (.getfield 37, 3) := dk_i kdX9_addRoad_29 3 rfl
theorem dX9_addRoad_37 : decode cX9_addRoad 37 = .ok (.iload_n 3, 1) := dk_i kdX9_addRoad_29 4 rfl
theorem dX9_addRoad_38 : decode cX9_addRoad 38 = .ok (.iastore, 1) := dk_i kdX9_addRoad_29 5 rfl
theorem dX9_addRoad_39 : decode cX9_addRoad 39 = .ok (.aload_n 0, 1) := dk_i kdX9_addRoad_29 6 rfl
theorem dX9_addRoad_40 : decode cX9_addRoad 40 = .ok (.dup, 1) := dk_i kdX9_addRoad_29 7 rfl
theorem dX9_addRoad_41 : decode cX9_addRoad 41 = .ok (.getfield 37, 3) := dk_i kdX9_addRoad_29 8 rfl
theorem dX9_addRoad_44 : decode cX9_addRoad 44 = .ok (.iconst 1, 1) := dk_i kdX9_addRoad_29 9 rfl
theorem dX9_addRoad_45 : decode cX9_addRoad 45 = .ok (.iadd, 1) := dk_i kdX9_addRoad_29 10 rfl
theorem dX9_addRoad_46 : decode cX9_addRoad 46 = .ok (.putfield 37, 3) := dk_i kdX9_addRoad_29 11 rfl
theorem dX9_addRoad_49 : decode cX9_addRoad 49 = .ok (.return_, 1) := dk_i kdX9_addRoad_29 12 rfl
def ldX9_addDoing_0 : List (Nat × ClassFile.Instr × Nat) := [(0, .aload_n 0, 1), (1, .getfield 49, 3), (4, .bipush 6, 2), (6, .if_icmp .ge 43, 3), (9, .aload_n 0, 1), (10, .getfield 52, 3), (13, .aload_n 0, 1), (14, .getfield 49, 3), (17, .iload_n 1, 1), (18, .iastore, 1), (19, .aload_n 0, 1), (20, .getfield 55, 3), (23, .aload_n 0, 1), (24, .getfield 49, 3), (27, .iload_n 2, 1), (28, .iastore, 1)]
theorem kdX9_addDoing_0 : dkO cX9_addDoing 0 ldX9_addDoing_0 = true := by decide +kernel
theorem dX9_addDoing_0 : decode cX9_addDoing 0 = .ok (.aload_n 0, 1) := dk_i kdX9_addDoing_0 0 rfl
theorem dX9_addDoing_1 : decode cX9_addDoing 1 = .ok (.getfield 49, 3) := dk_i kdX9_addDoing_0 1 rfl
theorem dX9_addDoing_4 : decode cX9_addDoing 4 = .ok (.bipush 6, 2) := dk_i kdX9_addDoing_0 2 rfl
theorem dX9_addDoing_6 : decode cX9_addDoing 6 = .ok (.if_icmp .ge 43, 3) := dk_i kdX9_addDoing_0 3 rfl
theorem dX9_addDoing_9 : decode cX9_addDoing 9 = .ok (.aload_n 0, 1) := dk_i kdX9_addDoing_0 4 rfl
theorem dX9_addDoing_10 : decode cX9_addDoing 10 = .ok (.getfield 52, 3) := dk_i kdX9_addDoing_0 5 rfl
theorem dX9_addDoing_13 : decode cX9_addDoing 13 = .ok (.aload_n 0, 1) := dk_i kdX9_addDoing_0 6 rfl
theorem dX9_addDoing_14 : decode cX9_addDoing 14 = .ok (.getfield 49, 3) := dk_i kdX9_addDoing_0 7 rfl
theorem dX9_addDoing_17 : decode cX9_addDoing 17 = .ok (.iload_n 1, 1) := dk_i kdX9_addDoing_0 8 rfl
theorem dX9_addDoing_18 : decode cX9_addDoing 18 = .ok (.iastore, 1) := dk_i kdX9_addDoing_0 9 rfl
theorem dX9_addDoing_19 : decode cX9_addDoing 19 = .ok (.aload_n 0, 1) := dk_i kdX9_addDoing_0 10 rfl
theorem dX9_addDoing_20 : decode cX9_addDoing 20 = .ok (.getfield 55, 3) := dk_i kdX9_addDoing_0 11 rfl
theorem dX9_addDoing_23 : decode cX9_addDoing 23 = .ok (.aload_n 0, 1) := dk_i kdX9_addDoing_0 12 rfl
theorem dX9_addDoing_24 : decode cX9_addDoing 24 = .ok (.getfield 49, 3) := dk_i kdX9_addDoing_0 13 rfl
theorem dX9_addDoing_27 : decode cX9_addDoing 27 = .ok (.iload_n 2, 1) := dk_i kdX9_addDoing_0 14 rfl
theorem dX9_addDoing_28 : decode cX9_addDoing 28 = .ok (.iastore, 1) := dk_i kdX9_addDoing_0 15 rfl
def ldX9_addDoing_29 : List (Nat × ClassFile.Instr × Nat) := [(29, .aload_n 0, 1), (30, .getfield 58, 3), (33, .aload_n 0, 1), (34, .getfield 49, 3), (37, .iload_n 3, 1), (38, .iastore, 1), (39, .aload_n 0, 1), (40, .dup, 1), (41, .getfield 49, 3), (44, .iconst 1, 1), (45, .iadd, 1), (46, .putfield 49, 3), (49, .return_, 1)]
theorem kdX9_addDoing_29 : dkO cX9_addDoing 29 ldX9_addDoing_29 = true := by decide +kernel
theorem dX9_addDoing_29 : decode cX9_addDoing 29 = .ok (.aload_n 0, 1) := dk_i kdX9_addDoing_29 0 rfl
theorem dX9_addDoing_30 : decode cX9_addDoing 30 = .ok (.getfield 58, 3) := dk_i kdX9_addDoing_29 1 rfl
theorem dX9_addDoing_33 : decode cX9_addDoing 33 = .ok (.aload_n 0, 1) := dk_i kdX9_addDoing_29 2 rfl
theorem dX9_addDoing_34 : decode cX9_addDoing 34 = .ok (.getfield 49, 3) := dk_i kdX9_addDoing_29 3 rfl
theorem dX9_addDoing_37 : decode cX9_addDoing 37 = .ok (.iload_n 3, 1) := dk_i kdX9_addDoing_29 4 rfl
theorem dX9_addDoing_38 : decode cX9_addDoing 38 = .ok (.iastore, 1) := dk_i kdX9_addDoing_29 5 rfl
theorem dX9_addDoing_39 : decode cX9_addDoing 39 = .ok (.aload_n 0, 1) := dk_i kdX9_addDoing_29 6 rfl
theorem dX9_addDoing_40 : decode cX9_addDoing 40 = .ok (.dup, 1) := dk_i kdX9_addDoing_29 7 rfl
theorem dX9_addDoing_41 : decode cX9_addDoing 41 = .ok (.getfield 49, 3) := dk_i kdX9_addDoing_29 8 rfl
theorem dX9_addDoing_44 : decode cX9_addDoing 44 = .ok (.iconst 1, 1) := dk_i kdX9_addDoing_29 9 rfl
theorem dX9_addDoing_45 : decode cX9_addDoing 45 = .ok (.iadd, 1) := dk_i kdX9_addDoing_29 10 rfl
theorem dX9_addDoing_46 : decode cX9_addDoing 46 = .ok (.putfield 49, 3) := dk_i kdX9_addDoing_29 11 rfl
theorem dX9_addDoing_49 : decode cX9_addDoing 49 = .ok (.return_, 1) := dk_i kdX9_addDoing_29 12 rfl
end
section
/-! FLAT MEMORY: all that the objects of one side hold: ints by number, int arrays by place, references that change by number, longs, long arrays. 'place': a cell's number; its address is ad place. -/
/-- the tables' words that stay true as the machine goes on -/
def lw_g : List Cond := lw_tbl.filter goodWord
abbrev Mem : Type := (Nat → Int32) × (Nat → Nat → Int32) × (Nat → Nat) × (Nat → Int64) × (Nat → Nat → Int64)
def gI (M : Mem) (k : Nat) : Int32 := M.1 k
def gA (M : Mem) (a i : Nat) : Int32 := M.2.1 a i
def gR (M : Mem) (k : Nat) : Nat := M.2.2.1 k
def gL (M : Mem) (k : Nat) : Int64 := M.2.2.2.1 k
def gB (M : Mem) (a i : Nat) : Int64 := M.2.2.2.2 a i
def sI (M : Mem) (k : Nat) (v : Int32) : Mem := (upd M.1 k v, M.2)
def sA (M : Mem) (a i : Nat) (v : Int32) : Mem := (M.1, va_up M.2.1 a (upd (M.2.1 a) i v), M.2.2)
def sR (M : Mem) (k v : Nat) : Mem := (M.1, M.2.1, va_up M.2.2.1 k v, M.2.2.2)
def sL (M : Mem) (k : Nat) (v : Int64) : Mem := (M.1, M.2.1, M.2.2.1, vp_updL M.2.2.2.1 k v, M.2.2.2.2)
def sB (M : Mem) (a i : Nat) (v : Int64) : Mem := (M.1, M.2.1, M.2.2.1, M.2.2.2.1, va_up M.2.2.2.2 a (vp_updL (M.2.2.2.2 a) i v))
/-- an int array gets other contents -/
def sF (M : Mem) (a : Nat) (f : Nat → Int32) : Mem := (M.1, va_up M.2.1 a f, M.2.2)
/-- a layout: the kind of a place (0 .. 12 an object of that class, 13 int[], 14 long[], 15 boolean[], 16 int[][]); the fields of a class (0 int, 1 long, 2 a reference that changes, 3 + d the place d further); an array's length; where an int[][]'s rows begin; the kind of what a changing reference is; how many places -/
abbrev Lay : Type := (Nat → Nat) × (Nat → List Nat) × (Nat → Nat) × (Nat → Nat) × (Nat → Nat) × Nat
def Lay.kd (G : Lay) (p : Nat) : Nat := G.1 p
def Lay.ds (G : Lay) (c : Nat) : List Nat := G.2.1 c
def Lay.ln (G : Lay) (p : Nat) : Nat := G.2.2.1 p
def Lay.ob (G : Lay) (p : Nat) : Nat := G.2.2.2.1 p
def Lay.rk (G : Lay) (k : Nat) : Nat := G.2.2.2.2.1 k
def Lay.nn (G : Lay) : Nat := G.2.2.2.2.2
def isK (G : Lay) (p c : Nat) : Prop := G.kd p = c ∧ p < G.nn
def WFm (G : Lay) (M : Mem) : Prop := ∀ k, G.rk k < 99 → isK G (gR M k) (G.rk k)
def vl (ad : Nat → Nat) (M : Mem) (p k d : Nat) : Value := match d with
  | 0 => .int (gI M (128 * p + k))
  | 1 => .long (gL M (128 * p + k))
  | 2 => .ref (ad (gR M (128 * p + k)))
  | d + 3 => .ref (ad (p + d))
def mkF (ad : Nat → Nat) (M : Mem) (p : Nat) : Nat → List Nat → List Value
  | _, [] => []
  | k, d :: ds => vl ad M p k d :: mkF ad M p (k + 1) ds
def cE (G : Lay) (cy : Nat → ClassId) (ad : Nat → Nat) (M : Mem) (p : Nat) : va_E :=
  if G.kd p < 13 then .inr (G.kd p, mkF ad M p 0 (G.ds (G.kd p)))
  else if G.kd p = 13 then .inl (cy 0, G.ln p, .inl (gA M p))
  else if G.kd p = 14 then .inl (cy 1, G.ln p, .inr (.inl (gB M p)))
  else if G.kd p = 15 then .inl (cy 2, G.ln p, .inl (gA M p))
  else .inl (cy 3, G.ln p, .inr (.inr (.inr (.inr (fun i => some (ad (G.ob p + i)))))))
def wl (G : Lay) (cy : Nat → ClassId) (ad : Nat → Nat) (M : Mem) : va_W := (List.range G.nn).map (fun p => (ad p, cE G cy ad M p))
def tyl (cy : Nat → ClassId) : List (ClassId × FieldType) := [(cy 0, .int), (cy 1, .long), (cy 2, .boolean), (cy 3, .array .int)]
theorem wl_get {G : Lay} {cy : Nat → ClassId} {ad : Nat → Nat} {M : Mem} {p : Nat} (h : p < G.nn) : (wl G cy ad M)[p]? = some (ad p, cE G cy ad M p) := by
  unfold wl
  rw [List.getElem?_map, List.getElem?_range h]
  rfl
theorem wl_set {G : Lay} {cy : Nat → ClassId} {ad : Nat → Nat} {M M' : Mem} {p : Nat} {e : va_E} (hp : cE G cy ad M' p = e) (hq : ∀ q, q ≠ p → cE G cy ad M' q = cE G cy ad M q) : (wl G cy ad M).set p (ad p, e) = wl G cy ad M' := by
  apply List.ext_getElem?
  intro i
  rw [List.getElem?_set]
  by_cases hi : i < G.nn
  · rw [wl_get hi]
    by_cases hip : p = i
    · subst hip
      rw [if_pos rfl, if_pos (by unfold wl; rw [List.length_map, List.length_range]; exact hi), wl_get hi, hp]
    · rw [if_neg hip, wl_get hi, hq i (fun h => hip h.symm)]
  · have h1 : (wl G cy ad M')[i]? = none := List.getElem?_eq_none (by unfold wl; rw [List.length_map, List.length_range]; omega)
    have h2 : (wl G cy ad M)[i]? = none := List.getElem?_eq_none (by unfold wl; rw [List.length_map, List.length_range]; omega)
    rw [h1, h2]
    by_cases hip : p = i
    · subst hip
      rw [if_pos rfl, if_neg (by unfold wl; rw [List.length_map, List.length_range]; exact hi)]
    · rw [if_neg hip]
theorem mkF_congr {ad : Nat → Nat} {M M' : Mem} {p : Nat} : ∀ (ds : List Nat) (k : Nat), (∀ j, k ≤ j → j < k + ds.length → ∀ d, vl ad M' p j d = vl ad M p j d) → mkF ad M' p k ds = mkF ad M p k ds
  | [], _, _ => rfl
  | d :: ds, k, h => by
    show vl ad M' p k d :: mkF ad M' p (k + 1) ds = vl ad M p k d :: mkF ad M p (k + 1) ds
    rw [h k (Nat.le_refl k) (by simp) d, mkF_congr ds (k + 1) (fun j h1 h2 d => h j (by omega) (by simp at h2 ⊢; omega) d)]
theorem mkF_set {ad : Nat → Nat} {M M' : Mem} {p i d : Nat} {v : Value} (hv : vl ad M' p i d = v) (hne : ∀ j, j ≠ i → ∀ d, vl ad M' p j d = vl ad M p j d) : ∀ (ds : List Nat) (k : Nat), k ≤ i → ds[i - k]? = some d → mkF ad M' p k ds = (mkF ad M p k ds).set (i - k) v
  | [], _, _, h => by simp at h
  | e :: ds, k, hk, h => by
    by_cases hki : k = i
    · subst hki
      rw [Nat.sub_self] at h ⊢
      have he : e = d := by simpa using h
      subst he
      show vl ad M' p k e :: mkF ad M' p (k + 1) ds = v :: mkF ad M p (k + 1) ds
      rw [hv, mkF_congr ds (k + 1) (fun j h1 _ d => hne j (by omega) d)]
    · obtain ⟨n, hn⟩ : ∃ n, i - k = n + 1 := ⟨i - k - 1, by omega⟩
      have hn2 : i - (k + 1) = n := by omega
      rw [hn] at h ⊢
      show vl ad M' p k e :: mkF ad M' p (k + 1) ds = vl ad M p k e :: (mkF ad M p (k + 1) ds).set n v
      rw [hne k hki e, ← hn2, mkF_set hv hne ds (k + 1) (by omega) (by rw [hn2]; simpa using h)]
theorem mkF_length {ad : Nat → Nat} {M : Mem} {p : Nat} : ∀ (ds : List Nat) (k : Nat), (mkF ad M p k ds).length = ds.length
  | [], _ => rfl
  | _ :: ds, k => by show (mkF ad M p (k + 1) ds).length + 1 = _; rw [mkF_length ds]; rfl
theorem vl_far {ad : Nat → Nat} {M M' : Mem} {p j d : Nat} (h1 : gI M' (128 * p + j) = gI M (128 * p + j)) (h2 : gL M' (128 * p + j) = gL M (128 * p + j)) (h3 : gR M' (128 * p + j) = gR M (128 * p + j)) : vl ad M' p j d = vl ad M p j d := by
  match d with
  | 0 => show Value.int _ = .int _; rw [h1]
  | 1 => show Value.long _ = .long _; rw [h2]
  | 2 => show Value.ref (ad _) = .ref (ad _); rw [h3]
  | d + 3 => rfl
theorem gI_sI {M : Mem} {k j : Nat} {v : Int32} : gI (sI M k v) j = if j = k then v else gI M j := rfl
theorem gL_sL {M : Mem} {k j : Nat} {v : Int64} : gL (sL M k v) j = if j = k then v else gL M j := rfl
theorem gR_sR {M : Mem} {k j v : Nat} : gR (sR M k v) j = if j = k then v else gR M j := rfl
theorem gA_sA {M : Mem} {a b i j : Nat} {v : Int32} : gA (sA M a i v) b j = if b = a then (if j = i then v else gA M a j) else gA M b j := by
  show va_up M.2.1 a (upd (M.2.1 a) i v) b j = _
  unfold va_up upd gA
  by_cases h : b = a
  · rw [if_pos h, if_pos h]
  · rw [if_neg h, if_neg h]
theorem gB_sB {M : Mem} {a b i j : Nat} {v : Int64} : gB (sB M a i v) b j = if b = a then (if j = i then v else gB M a j) else gB M b j := by
  show va_up M.2.2.2.2 a (vp_updL (M.2.2.2.2 a) i v) b j = _
  unfold va_up vp_updL gB
  by_cases h : b = a
  · rw [if_pos h, if_pos h]
  · rw [if_neg h, if_neg h]
theorem gA_sF {M : Mem} {a b j : Nat} {f : Nat → Int32} : gA (sF M a f) b j = if b = a then f j else gA M b j := by
  show va_up M.2.1 a f b j = _
  unfold va_up gA
  by_cases h : b = a
  · rw [if_pos h, if_pos h]
  · rw [if_neg h, if_neg h]
def LOK (G : Lay) : Prop := ∀ c, (G.ds c).length ≤ 128
/-- a change of the numbers at 128 * p + k alone -/
theorem cE_far {G : Lay} (hG : LOK G) {cy : Nat → ClassId} {ad : Nat → Nat} {M M' : Mem} {p k q : Nat} (hk : k < 128) (hq : q ≠ p) (h1 : ∀ j, j ≠ 128 * p + k → gI M' j = gI M j) (h2 : ∀ j, j ≠ 128 * p + k → gL M' j = gL M j) (h3 : ∀ j, j ≠ 128 * p + k → gR M' j = gR M j) (h4 : gA M' q = gA M q) (h5 : gB M' q = gB M q) : cE G cy ad M' q = cE G cy ad M q := by
  unfold cE
  rw [h4, h5, mkF_congr (G.ds (G.kd q)) 0 (fun j _ hj d => by
    have := hG (G.kd q)
    have hne : 128 * q + j ≠ 128 * p + k := by omega
    exact vl_far (h1 _ hne) (h2 _ hne) (h3 _ hne))]
theorem cE_obj {G : Lay} {cy : Nat → ClassId} {ad : Nat → Nat} {M : Mem} {p ci : Nat} (hk : isK G p ci) (hc : ci < 13) : cE G cy ad M p = .inr (ci, mkF ad M p 0 (G.ds ci)) := by
  unfold cE
  rw [if_pos (by rw [hk.1]; exact hc), hk.1]
theorem cE_int {G : Lay} {cy : Nat → ClassId} {ad : Nat → Nat} {M : Mem} {p : Nat} (hk : isK G p 13) : cE G cy ad M p = .inl (cy 0, G.ln p, .inl (gA M p)) := by
  unfold cE
  rw [if_neg (by rw [hk.1]; decide), if_pos hk.1]
theorem cE_long {G : Lay} {cy : Nat → ClassId} {ad : Nat → Nat} {M : Mem} {p : Nat} (hk : isK G p 14) : cE G cy ad M p = .inl (cy 1, G.ln p, .inr (.inl (gB M p))) := by
  unfold cE
  rw [if_neg (by rw [hk.1]; decide), if_neg (by rw [hk.1]; decide), if_pos hk.1]
theorem cE_bool {G : Lay} {cy : Nat → ClassId} {ad : Nat → Nat} {M : Mem} {p : Nat} (hk : isK G p 15) : cE G cy ad M p = .inl (cy 2, G.ln p, .inl (gA M p)) := by
  unfold cE
  rw [if_neg (by rw [hk.1]; decide), if_neg (by rw [hk.1]; decide), if_neg (by rw [hk.1]; decide), if_pos hk.1]
theorem cE_grid {G : Lay} {cy : Nat → ClassId} {ad : Nat → Nat} {M : Mem} {p : Nat} (hk : isK G p 16) : cE G cy ad M p = .inl (cy 3, G.ln p, .inr (.inr (.inr (.inr (fun i => some (ad (G.ob p + i))))))) := by
  unfold cE
  rw [if_neg (by rw [hk.1]; decide), if_neg (by rw [hk.1]; decide), if_neg (by rw [hk.1]; decide), if_neg (by rw [hk.1]; decide)]
theorem wl_sI {G : Lay} (hG : LOK G) {cy : Nat → ClassId} {ad : Nat → Nat} {M : Mem} {p k ci : Nat} {v : Int32} (hk : isK G p ci) (hc : ci < 13) (hd : (G.ds ci)[k]? = some 0) : (wl G cy ad M).set p (ad p, .inr (ci, (mkF ad M p 0 (G.ds ci)).set k (.int v))) = wl G cy ad (sI M (128 * p + k) v) := by
  have hk1 : k < 128 := by
    have := (List.getElem?_eq_some_iff.mp hd).1
    have := hG ci
    omega
  refine wl_set ?_ (fun q hq => cE_far hG hk1 hq (fun j hj => by rw [gI_sI, if_neg hj]) (fun _ _ => rfl) (fun _ _ => rfl) rfl rfl)
  rw [cE_obj hk hc]
  have h := mkF_set (ad := ad) (M := M) (M' := sI M (128 * p + k) v) (p := p) (i := k) (d := 0) (v := .int v) (by show Value.int _ = _; rw [gI_sI, if_pos rfl]) (fun j hj d => vl_far (by rw [gI_sI, if_neg (by omega)]) rfl rfl) (G.ds ci) 0 (Nat.zero_le k) hd
  rw [Nat.sub_zero] at h
  rw [h]
theorem wl_sL {G : Lay} (hG : LOK G) {cy : Nat → ClassId} {ad : Nat → Nat} {M : Mem} {p k ci : Nat} {v : Int64} (hk : isK G p ci) (hc : ci < 13) (hd : (G.ds ci)[k]? = some 1) : (wl G cy ad M).set p (ad p, .inr (ci, (mkF ad M p 0 (G.ds ci)).set k (.long v))) = wl G cy ad (sL M (128 * p + k) v) := by
  have hk1 : k < 128 := by
    have := (List.getElem?_eq_some_iff.mp hd).1
    have := hG ci
    omega
  refine wl_set ?_ (fun q hq => cE_far hG hk1 hq (fun _ _ => rfl) (fun j hj => by rw [gL_sL, if_neg hj]) (fun _ _ => rfl) rfl rfl)
  rw [cE_obj hk hc]
  have h := mkF_set (ad := ad) (M := M) (M' := sL M (128 * p + k) v) (p := p) (i := k) (d := 1) (v := .long v) (by show Value.long _ = _; rw [gL_sL, if_pos rfl]) (fun j hj d => vl_far rfl (by rw [gL_sL, if_neg (by omega)]) rfl) (G.ds ci) 0 (Nat.zero_le k) hd
  rw [Nat.sub_zero] at h
  rw [h]
theorem wl_sR {G : Lay} (hG : LOK G) {cy : Nat → ClassId} {ad : Nat → Nat} {M : Mem} {p k ci v : Nat} (hk : isK G p ci) (hc : ci < 13) (hd : (G.ds ci)[k]? = some 2) : (wl G cy ad M).set p (ad p, .inr (ci, (mkF ad M p 0 (G.ds ci)).set k (.ref (ad v)))) = wl G cy ad (sR M (128 * p + k) v) := by
  have hk1 : k < 128 := by
    have := (List.getElem?_eq_some_iff.mp hd).1
    have := hG ci
    omega
  refine wl_set ?_ (fun q hq => cE_far hG hk1 hq (fun _ _ => rfl) (fun _ _ => rfl) (fun j hj => by rw [gR_sR, if_neg hj]) rfl rfl)
  rw [cE_obj hk hc]
  have h := mkF_set (ad := ad) (M := M) (M' := sR M (128 * p + k) v) (p := p) (i := k) (d := 2) (v := .ref (ad v)) (by show Value.ref (ad _) = _; rw [gR_sR, if_pos rfl]) (fun j hj d => vl_far rfl rfl (by rw [gR_sR, if_neg (by omega)])) (G.ds ci) 0 (Nat.zero_le k) hd
  rw [Nat.sub_zero] at h
  rw [h]
theorem cE_same {G : Lay} {cy : Nat → ClassId} {ad : Nat → Nat} {M M' : Mem} {q : Nat} (h1 : gI M' = gI M) (h2 : gL M' = gL M) (h3 : gR M' = gR M) (h4 : gA M' q = gA M q) (h5 : gB M' q = gB M q) : cE G cy ad M' q = cE G cy ad M q := by
  unfold cE
  rw [h4, h5, mkF_congr (ad := ad) (M := M) (M' := M') (p := q) (G.ds (G.kd q)) 0 (fun j _ _ d => vl_far (by rw [h1]) (by rw [h2]) (by rw [h3]))]
theorem gA_sA_at {M : Mem} {a i : Nat} {v : Int32} : gA (sA M a i v) a = upd (gA M a) i v := by
  funext j
  rw [gA_sA, if_pos rfl]
  rfl
theorem gA_sA_ne {M : Mem} {a i q : Nat} {v : Int32} (h : q ≠ a) : gA (sA M a i v) q = gA M q := by
  funext j
  rw [gA_sA, if_neg h]
theorem gB_sB_at {M : Mem} {a i : Nat} {v : Int64} : gB (sB M a i v) a = vp_updL (gB M a) i v := by
  funext j
  rw [gB_sB, if_pos rfl]
  rfl
theorem gB_sB_ne {M : Mem} {a i q : Nat} {v : Int64} (h : q ≠ a) : gB (sB M a i v) q = gB M q := by
  funext j
  rw [gB_sB, if_neg h]
theorem wl_sA {G : Lay} {cy : Nat → ClassId} {ad : Nat → Nat} {M : Mem} {p i : Nat} {v : Int32} (hk : isK G p 13) : (wl G cy ad M).set p (ad p, .inl (cy 0, G.ln p, .inl (upd (gA M p) i v))) = wl G cy ad (sA M p i v) :=
  wl_set (by rw [cE_int hk, gA_sA_at]) (fun q hq => cE_same rfl rfl rfl (gA_sA_ne hq) rfl)
theorem wl_sZ {G : Lay} {cy : Nat → ClassId} {ad : Nat → Nat} {M : Mem} {p i : Nat} {v : Int32} (hk : isK G p 15) : (wl G cy ad M).set p (ad p, .inl (cy 2, G.ln p, .inl (upd (gA M p) i v))) = wl G cy ad (sA M p i v) :=
  wl_set (by rw [cE_bool hk, gA_sA_at]) (fun q hq => cE_same rfl rfl rfl (gA_sA_ne hq) rfl)
theorem wl_sB {G : Lay} {cy : Nat → ClassId} {ad : Nat → Nat} {M : Mem} {p i : Nat} {v : Int64} (hk : isK G p 14) : (wl G cy ad M).set p (ad p, .inl (cy 1, G.ln p, .inr (.inl (vp_updL (gB M p) i v)))) = wl G cy ad (sB M p i v) :=
  wl_set (by rw [cE_long hk, gB_sB_at]) (fun q hq => cE_same rfl rfl rfl rfl (gB_sB_ne hq))
theorem wl_sF {G : Lay} {cy : Nat → ClassId} {ad : Nat → Nat} {M : Mem} {p : Nat} {f : Nat → Int32} (hk : isK G p 13) : (wl G cy ad M).set p (ad p, .inl (cy 0, G.ln p, .inl f)) = wl G cy ad (sF M p f) :=
  wl_set (by rw [cE_int hk]; congr; funext j; rw [gA_sF, if_pos rfl]) (fun q hq => cE_same rfl rfl rfl (by funext j; rw [gA_sF, if_neg hq]) rfl)
/-- the cells of a side -/
def xA (G : Lay) (ad : Nat → Nat) : Nat → Prop := fun q => ∃ k, k < G.nn ∧ q = ad k
def Inj (G : Lay) (ad : Nat → Nat) : Prop := ∀ i j, i < G.nn → j < G.nn → ad i = ad j → i = j
theorem wl_at {G : Lay} {cy : Nat → ClassId} {ad : Nat → Nat} {M : Mem} {k : Nat} {q : Nat × va_E} (h : (wl G cy ad M)[k]? = some q) : k < G.nn ∧ q = (ad k, cE G cy ad M k) := by
  have hk : k < G.nn := by
    have := (List.getElem?_eq_some_iff.mp h).1
    unfold wl at this
    rwa [List.length_map, List.length_range] at this
  rw [wl_get hk] at h
  exact ⟨hk, (Option.some.inj h).symm⟩
theorem wl_D {G : Lay} {cy : Nat → ClassId} {ad : Nat → Nat} (hI : Inj G ad) (M : Mem) : va_D (xA G ad) (wl G cy ad M) := by
  refine ⟨fun i j p q hi hj h => ?_, fun k q hk => ?_⟩
  · obtain ⟨h1, rfl⟩ := wl_at hi
    obtain ⟨h2, rfl⟩ := wl_at hj
    exact hI i j h1 h2 h
  · obtain ⟨h1, rfl⟩ := wl_at hk
    exact ⟨k, h1, rfl⟩
/-- the world of a side: its cells hold M -/
def WD (G : Lay) (D : va_G) (cy : Nat → ClassId) (ad : Nat → Nat) (M : Mem) (H : Heap) : Prop := va_P D vwCl (wl G cy ad M) H ∧ WFm G M
def WT (G : Lay) (D : va_G) (cy : Nat → ClassId) (ad : Nat → Nat) (M : Mem) (t : State) : Prop := WD G D cy ad M t.heap ∧ va_K D vwCl (tyl cy) t
/-- the room of a method at depth d -/
abbrev rmL (d : Nat) : Room := { frames := d, cells := 0, slots := 0, locals := 64 * d }
/-- what holds all along a method's body -/
def OKc (p : Program) (R : Room) (s : State) (m : MethodId) (args : Array Value) (meth : Method) (c : Code) (G : Lay) (D : va_G) (cy : Nat → ClassId) (ad : Nat → Nat) (cc : ByteArray) (own : String) (nL d : Nat) (rt : Option FieldType) : Prop :=
  p.tables.exec = Jvm.exec ∧ c.code = cc ∧ c.maxLocals = nL ∧ s.vm.findClass own = some m.cls ∧ (∀ w ∈ lw_g, w.before args s = true) ∧ va_K D vwCl (tyl cy) s ∧ Inj G ad ∧ meth.locks = false ∧ meth.sig.returnType = rt ∧ R = rmL d ∧ LOK G
/-- a block: from pc with these locals, this stack and this memory the method ends as o says -/
def BL (p : Program) (l : Launch) (e : Env) (R : Room) (s : State) (m : MethodId) (args : Array Value) (below : List Frame) (meth : Method) (c : Code) (G : Lay) (D : va_G) (cy : Nat → ClassId) (ad : Nat → Nat) (nL : Nat) {ρ : Type} (Qf : ρ → Array Value → State → Outcome → State → Prop) (pc : Nat) (lv : List (Nat × Value)) (st : List Value) (M : Mem) (o : Option ρ) : Prop :=
  ∀ r, o = some r → ∀ (H : Heap) (locs : List Loc) (ls : Array Slot), WD G D cy ad M H → va_S (xA G ad) s.heap H locs → lv_has ls nL lv → W p l e R s m args below meth c H locs 0 0 (MQ below (Qf r) args s 0 0 (xA G ad)) (F0 m pc ls st)
def QI (G : Lay) (D : va_G) (cy : Nat → ClassId) (ad : Nat → Nat) (r : Int32 × Mem) : Array Value → State → Outcome → State → Prop := va_Qi (fun v u => (v, u) = r) (WT G D cy ad) (xA G ad)
def QL (G : Lay) (D : va_G) (cy : Nat → ClassId) (ad : Nat → Nat) (r : Int64 × Mem) : Array Value → State → Outcome → State → Prop := va_Ql (fun v u => (v, u) = r) (WT G D cy ad) (xA G ad)
def QV (G : Lay) (D : va_G) (cy : Nat → ClassId) (ad : Nat → Nat) (r : Mem) : Array Value → State → Outcome → State → Prop := va_Qv (fun u => u = r) (WT G D cy ad) (xA G ad)
/-- a method's contract, by its function's value -/
def CT (l : Launch) (G : Lay) (D : va_G) (cy : Nat → ClassId) (ad : Nat → Nat) (y : MethodName) (bytes : ByteArray) (maxL : Nat) (rt : Option FieldType) (d : Nat) {ρ : Type} (Qf : ρ → Array Value → State → Outcome → State → Prop) (av : List Value) (M : Mem) (o : Option ρ) : Prop :=
  ∀ r, o = some r → Met l y (.code y bytes maxL rt :: lw_g) (rmL d) (va_Pc av (WT G D cy ad M)) (Qf r) 0 0 (xA G ad)
end
section
theorem lw_good : lw_g.all goodWord = true := List.all_eq_true.mpr (fun _ h => (List.mem_filter.mp h).2)
theorem mem_g {w : Cond} (h : w ∈ lw_tbl) (hg : goodWord w = true) : w ∈ lw_g := List.mem_filter.mpr ⟨h, hg⟩
theorem sub_g {w : Cond} (h : w ∈ lw_g) : w ∈ lw_tbl := (List.mem_filter.mp h).1
def rem32 (x y : Int32) : Int32 := x - x / y * y
def rem64 (x y : Int64) : Int64 := x - x / y * y
def imin (x y : Int32) : Int32 := if y < x then y else x
def imax (x y : Int32) : Int32 := if x < y then y else x
def lmin (x y : Int64) : Int64 := if y < x then y else x
def lmax (x y : Int64) : Int64 := if y < x then x else y
abbrev oob (i : Int32) (n : Nat) : Prop := i < 0 ∨ n ≤ i.toNatClampNeg
/-- a name for a value -/
def bnd {α β : Type} (v : α) (k : α → β) : β := k v
section ROWS
variable {p : Program} {l : Launch} {e : Env} {R : Room} {s : State} {m : MethodId} {args : Array Value} {below : List Frame} {meth : Method} {c : Code} {G : Lay} {D : va_G} {cy : Nat → ClassId} {ad : Nat → Nat} {nL d : Nat} {ρ : Type} {Qf : ρ → Array Value → State → Outcome → State → Prop} {cc : ByteArray} {own : String} {rt : Option FieldType}
variable {pc : Nat} {lv : List (Nat × Value)} {st : List Value} {M : Mem} {o o1 o2 : Option ρ}
theorem b_iconst (hO : OKc p R s m args meth c G D cy ad cc own nL d rt) {n : Int} {v : Int32} (hdg : decode cc pc = .ok (.iconst n, 1)) (hv : Int32.ofInt n = v) (k : BL p l e R s m args below meth c G D cy ad nL Qf (pc + 1) lv (.int v :: st) M o) : BL p l e R s m args below meth c G D cy ad nL Qf pc lv st M o := fun r hr H locs ls hW hS hl => lv_iconst hO.1 hO.2.1 hdg hv (k r hr H locs ls hW hS hl)
theorem b_bipush (hO : OKc p R s m args meth c G D cy ad cc own nL d rt) {n : Int} {v : Int32} (hdg : decode cc pc = .ok (.bipush n, 2)) (hv : (Int8.ofInt n).toInt32 = v) (k : BL p l e R s m args below meth c G D cy ad nL Qf (pc + 2) lv (.int v :: st) M o) : BL p l e R s m args below meth c G D cy ad nL Qf pc lv st M o := fun r hr H locs ls hW hS hl => lv_bipush hO.1 hO.2.1 hdg hv (k r hr H locs ls hW hS hl)
theorem b_sipush (hO : OKc p R s m args meth c G D cy ad cc own nL d rt) {n : Int} {v : Int32} (hdg : decode cc pc = .ok (.sipush n, 3)) (hv : (Int16.ofInt n).toInt32 = v) (k : BL p l e R s m args below meth c G D cy ad nL Qf (pc + 3) lv (.int v :: st) M o) : BL p l e R s m args below meth c G D cy ad nL Qf pc lv st M o := fun r hr H locs ls hW hS hl => lv_sipush hO.1 hO.2.1 hdg hv (k r hr H locs ls hW hS hl)
theorem b_lconst (hO : OKc p R s m args meth c G D cy ad cc own nL d rt) {n : Fin 2} {v : Int64} (hdg : decode cc pc = .ok (.lconst n, 1)) (hv : Int64.ofNat (n : Nat) = v) (k : BL p l e R s m args below meth c G D cy ad nL Qf (pc + 1) lv (.long v :: st) M o) : BL p l e R s m args below meth c G D cy ad nL Qf pc lv st M o := fun r hr H locs ls hW hS hl => lv_lconst hO.1 hO.2.1 hdg hv (k r hr H locs ls hW hS hl)
theorem b_iload_n (hO : OKc p R s m args meth c G D cy ad cc own nL d rt) {k : Fin 4} {i : Nat} {x : Int32} (hdg : decode cc pc = .ok (.iload_n k, 1)) (j : Nat) (hj : lv[j]? = some (i, .int x)) (hi : (k : Nat) = i) (K : BL p l e R s m args below meth c G D cy ad nL Qf (pc + 1) lv (.int x :: st) M o) : BL p l e R s m args below meth c G D cy ad nL Qf pc lv st M o := fun r hr H locs ls hW hS hl => lv_iload_n hO.1 hO.2.1 hdg hi (lv_at hl j hj) (K r hr H locs ls hW hS hl)
theorem b_iload (hO : OKc p R s m args meth c G D cy ad cc own nL d rt) {i : Nat} {x : Int32} (hdg : decode cc pc = .ok (.iload i, 2)) (j : Nat) (hj : lv[j]? = some (i, .int x)) (K : BL p l e R s m args below meth c G D cy ad nL Qf (pc + 2) lv (.int x :: st) M o) : BL p l e R s m args below meth c G D cy ad nL Qf pc lv st M o := fun r hr H locs ls hW hS hl => lv_iload hO.1 hO.2.1 hdg (lv_at hl j hj) (K r hr H locs ls hW hS hl)
theorem b_istore_n (hO : OKc p R s m args meth c G D cy ad cc own nL d rt) {k : Fin 4} {i : Nat} {x : Int32} {lv' : List (Nat × Value)} (hdg : decode cc pc = .ok (.istore_n k, 1)) (hi : (k : Nat) = i) (hn : i < nL) (hlv : (i, Value.int x) :: lv.filter (fun q => !(q.1 == i) && !(q.1 + 1 == i && q.2.category == 2)) = lv') (K : BL p l e R s m args below meth c G D cy ad nL Qf (pc + 1) lv' st M o) : BL p l e R s m args below meth c G D cy ad nL Qf pc lv (.int x :: st) M o := fun r hr H locs ls hW hS hl => lv_istore_n hO.1 hO.2.1 hdg hi hl hn hlv (fun ls' hl' => K r hr H locs ls' hW hS hl')
theorem b_istore (hO : OKc p R s m args meth c G D cy ad cc own nL d rt) {i : Nat} {x : Int32} {lv' : List (Nat × Value)} (hdg : decode cc pc = .ok (.istore i, 2)) (hn : i < nL) (hlv : (i, Value.int x) :: lv.filter (fun q => !(q.1 == i) && !(q.1 + 1 == i && q.2.category == 2)) = lv') (K : BL p l e R s m args below meth c G D cy ad nL Qf (pc + 2) lv' st M o) : BL p l e R s m args below meth c G D cy ad nL Qf pc lv (.int x :: st) M o := fun r hr H locs ls hW hS hl => lv_istore hO.1 hO.2.1 hdg hl hn hlv (fun ls' hl' => K r hr H locs ls' hW hS hl')
theorem b_lload_n (hO : OKc p R s m args meth c G D cy ad cc own nL d rt) {k : Fin 4} {i : Nat} {x : Int64} (hdg : decode cc pc = .ok (.lload_n k, 1)) (j : Nat) (hj : lv[j]? = some (i, .long x)) (hi : (k : Nat) = i) (K : BL p l e R s m args below meth c G D cy ad nL Qf (pc + 1) lv (.long x :: st) M o) : BL p l e R s m args below meth c G D cy ad nL Qf pc lv st M o := fun r hr H locs ls hW hS hl => lv_lload_n hO.1 hO.2.1 hdg hi (lv_at hl j hj) (K r hr H locs ls hW hS hl)
theorem b_lload (hO : OKc p R s m args meth c G D cy ad cc own nL d rt) {i : Nat} {x : Int64} (hdg : decode cc pc = .ok (.lload i, 2)) (j : Nat) (hj : lv[j]? = some (i, .long x)) (K : BL p l e R s m args below meth c G D cy ad nL Qf (pc + 2) lv (.long x :: st) M o) : BL p l e R s m args below meth c G D cy ad nL Qf pc lv st M o := fun r hr H locs ls hW hS hl => lv_lload hO.1 hO.2.1 hdg (lv_at hl j hj) (K r hr H locs ls hW hS hl)
theorem b_lstore_n (hO : OKc p R s m args meth c G D cy ad cc own nL d rt) {k : Fin 4} {i : Nat} {x : Int64} {lv' : List (Nat × Value)} (hdg : decode cc pc = .ok (.lstore_n k, 1)) (hi : (k : Nat) = i) (hn : i + 1 < nL) (hlv : (i, Value.long x) :: lv.filter (fun q => !(q.1 == i) && (!(q.1 == i + 1) && !(q.1 + 1 == i && q.2.category == 2))) = lv') (K : BL p l e R s m args below meth c G D cy ad nL Qf (pc + 1) lv' st M o) : BL p l e R s m args below meth c G D cy ad nL Qf pc lv (.long x :: st) M o := fun r hr H locs ls hW hS hl => lv_lstore_n hO.1 hO.2.1 hdg hi hl hn hlv (fun ls' hl' => K r hr H locs ls' hW hS hl')
theorem b_lstore (hO : OKc p R s m args meth c G D cy ad cc own nL d rt) {i : Nat} {x : Int64} {lv' : List (Nat × Value)} (hdg : decode cc pc = .ok (.lstore i, 2)) (hn : i + 1 < nL) (hlv : (i, Value.long x) :: lv.filter (fun q => !(q.1 == i) && (!(q.1 == i + 1) && !(q.1 + 1 == i && q.2.category == 2))) = lv') (K : BL p l e R s m args below meth c G D cy ad nL Qf (pc + 2) lv' st M o) : BL p l e R s m args below meth c G D cy ad nL Qf pc lv (.long x :: st) M o := fun r hr H locs ls hW hS hl => lv_lstore hO.1 hO.2.1 hdg hl hn hlv (fun ls' hl' => K r hr H locs ls' hW hS hl')
theorem b_aload_n (hO : OKc p R s m args meth c G D cy ad cc own nL d rt) {k : Fin 4} {i : Nat} {x : Nat} (hdg : decode cc pc = .ok (.aload_n k, 1)) (j : Nat) (hj : lv[j]? = some (i, .ref x)) (hi : (k : Nat) = i) (K : BL p l e R s m args below meth c G D cy ad nL Qf (pc + 1) lv (.ref x :: st) M o) : BL p l e R s m args below meth c G D cy ad nL Qf pc lv st M o := fun r hr H locs ls hW hS hl => lv_aload_n hO.1 hO.2.1 hdg hi (lv_at hl j hj) (K r hr H locs ls hW hS hl)
theorem b_aload (hO : OKc p R s m args meth c G D cy ad cc own nL d rt) {i : Nat} {x : Nat} (hdg : decode cc pc = .ok (.aload i, 2)) (j : Nat) (hj : lv[j]? = some (i, .ref x)) (K : BL p l e R s m args below meth c G D cy ad nL Qf (pc + 2) lv (.ref x :: st) M o) : BL p l e R s m args below meth c G D cy ad nL Qf pc lv st M o := fun r hr H locs ls hW hS hl => lv_aload hO.1 hO.2.1 hdg (lv_at hl j hj) (K r hr H locs ls hW hS hl)
theorem b_astore_n (hO : OKc p R s m args meth c G D cy ad cc own nL d rt) {k : Fin 4} {i : Nat} {x : Nat} {lv' : List (Nat × Value)} (hdg : decode cc pc = .ok (.astore_n k, 1)) (hi : (k : Nat) = i) (hn : i < nL) (hlv : (i, Value.ref x) :: lv.filter (fun q => !(q.1 == i) && !(q.1 + 1 == i && q.2.category == 2)) = lv') (K : BL p l e R s m args below meth c G D cy ad nL Qf (pc + 1) lv' st M o) : BL p l e R s m args below meth c G D cy ad nL Qf pc lv (.ref x :: st) M o := fun r hr H locs ls hW hS hl => lv_astore_n hO.1 hO.2.1 hdg hi hl hn hlv (fun ls' hl' => K r hr H locs ls' hW hS hl')
theorem b_astore (hO : OKc p R s m args meth c G D cy ad cc own nL d rt) {i : Nat} {x : Nat} {lv' : List (Nat × Value)} (hdg : decode cc pc = .ok (.astore i, 2)) (hn : i < nL) (hlv : (i, Value.ref x) :: lv.filter (fun q => !(q.1 == i) && !(q.1 + 1 == i && q.2.category == 2)) = lv') (K : BL p l e R s m args below meth c G D cy ad nL Qf (pc + 2) lv' st M o) : BL p l e R s m args below meth c G D cy ad nL Qf pc lv (.ref x :: st) M o := fun r hr H locs ls hW hS hl => lv_astore hO.1 hO.2.1 hdg hl hn hlv (fun ls' hl' => K r hr H locs ls' hW hS hl')
theorem b_iinc (hO : OKc p R s m args meth c G D cy ad cc own nL d rt) {i : Nat} {n : Int} {x v : Int32} {lv' : List (Nat × Value)} (hdg : decode cc pc = .ok (.iinc i n, 3)) (j : Nat) (hj : lv[j]? = some (i, .int x)) (hv : Int32.ofInt n = v) (hn : i < nL) (hlv : (i, Value.int (x + v)) :: lv.filter (fun q => !(q.1 == i) && !(q.1 + 1 == i && q.2.category == 2)) = lv') (K : BL p l e R s m args below meth c G D cy ad nL Qf (pc + 3) lv' st M o) : BL p l e R s m args below meth c G D cy ad nL Qf pc lv st M o := fun r hr H locs ls hW hS hl => lv_iinc hO.1 hO.2.1 hdg hl hj (by rw [hv]) hn hlv (fun ls' hl' => K r hr H locs ls' hW hS hl')
theorem b_iadd (hO : OKc p R s m args meth c G D cy ad cc own nL d rt) {x y : Int32} (hdg : decode cc pc = .ok (.iadd, 1)) (K : BL p l e R s m args below meth c G D cy ad nL Qf (pc + 1) lv (.int (x + y) :: st) M o) : BL p l e R s m args below meth c G D cy ad nL Qf pc lv (.int y :: .int x :: st) M o := fun r hr H locs ls hW hS hl => lv_iadd hO.1 hO.2.1 hdg (K r hr H locs ls hW hS hl)
theorem b_isub (hO : OKc p R s m args meth c G D cy ad cc own nL d rt) {x y : Int32} (hdg : decode cc pc = .ok (.isub, 1)) (K : BL p l e R s m args below meth c G D cy ad nL Qf (pc + 1) lv (.int (x - y) :: st) M o) : BL p l e R s m args below meth c G D cy ad nL Qf pc lv (.int y :: .int x :: st) M o := fun r hr H locs ls hW hS hl => lv_isub hO.1 hO.2.1 hdg (K r hr H locs ls hW hS hl)
theorem b_imul (hO : OKc p R s m args meth c G D cy ad cc own nL d rt) {x y : Int32} (hdg : decode cc pc = .ok (.imul, 1)) (K : BL p l e R s m args below meth c G D cy ad nL Qf (pc + 1) lv (.int (x * y) :: st) M o) : BL p l e R s m args below meth c G D cy ad nL Qf pc lv (.int y :: .int x :: st) M o := fun r hr H locs ls hW hS hl => lv_imul hO.1 hO.2.1 hdg (K r hr H locs ls hW hS hl)
theorem b_iand (hO : OKc p R s m args meth c G D cy ad cc own nL d rt) {x y : Int32} (hdg : decode cc pc = .ok (.iand, 1)) (K : BL p l e R s m args below meth c G D cy ad nL Qf (pc + 1) lv (.int (x &&& y) :: st) M o) : BL p l e R s m args below meth c G D cy ad nL Qf pc lv (.int y :: .int x :: st) M o := fun r hr H locs ls hW hS hl => lv_iand hO.1 hO.2.1 hdg (K r hr H locs ls hW hS hl)
theorem b_ior (hO : OKc p R s m args meth c G D cy ad cc own nL d rt) {x y : Int32} (hdg : decode cc pc = .ok (.ior, 1)) (K : BL p l e R s m args below meth c G D cy ad nL Qf (pc + 1) lv (.int (x ||| y) :: st) M o) : BL p l e R s m args below meth c G D cy ad nL Qf pc lv (.int y :: .int x :: st) M o := fun r hr H locs ls hW hS hl => lv_ior hO.1 hO.2.1 hdg (K r hr H locs ls hW hS hl)
theorem b_ixor (hO : OKc p R s m args meth c G D cy ad cc own nL d rt) {x y : Int32} (hdg : decode cc pc = .ok (.ixor, 1)) (K : BL p l e R s m args below meth c G D cy ad nL Qf (pc + 1) lv (.int (x ^^^ y) :: st) M o) : BL p l e R s m args below meth c G D cy ad nL Qf pc lv (.int y :: .int x :: st) M o := fun r hr H locs ls hW hS hl => lv_ixor hO.1 hO.2.1 hdg (K r hr H locs ls hW hS hl)
theorem b_ishl (hO : OKc p R s m args meth c G D cy ad cc own nL d rt) {x y : Int32} (hdg : decode cc pc = .ok (.ishl, 1)) (K : BL p l e R s m args below meth c G D cy ad nL Qf (pc + 1) lv (.int (x <<< (y &&& 31)) :: st) M o) : BL p l e R s m args below meth c G D cy ad nL Qf pc lv (.int y :: .int x :: st) M o := fun r hr H locs ls hW hS hl => lv_ishl hO.1 hO.2.1 hdg (K r hr H locs ls hW hS hl)
theorem b_ishr (hO : OKc p R s m args meth c G D cy ad cc own nL d rt) {x y : Int32} (hdg : decode cc pc = .ok (.ishr, 1)) (K : BL p l e R s m args below meth c G D cy ad nL Qf (pc + 1) lv (.int (x >>> (y &&& 31)) :: st) M o) : BL p l e R s m args below meth c G D cy ad nL Qf pc lv (.int y :: .int x :: st) M o := fun r hr H locs ls hW hS hl => lv_ishr hO.1 hO.2.1 hdg (K r hr H locs ls hW hS hl)
theorem b_idiv (hO : OKc p R s m args meth c G D cy ad cc own nL d rt) {x y : Int32} (hdg : decode cc pc = .ok (.idiv, 1)) (K : BL p l e R s m args below meth c G D cy ad nL Qf (pc + 1) lv (.int (x / y) :: st) M o) : BL p l e R s m args below meth c G D cy ad nL Qf pc lv (.int y :: .int x :: st) M (if y = 0 then none else o) := fun r hr H locs ls hW hS hl => by
  by_cases h : y = 0
  · rw [if_pos h] at hr; cases hr
  · rw [if_neg h] at hr
    exact lv_idiv hO.1 hO.2.1 hdg h (K r hr H locs ls hW hS hl)
theorem b_irem (hO : OKc p R s m args meth c G D cy ad cc own nL d rt) {x y : Int32} (hdg : decode cc pc = .ok (.irem, 1)) (K : BL p l e R s m args below meth c G D cy ad nL Qf (pc + 1) lv (.int (rem32 x y) :: st) M o) : BL p l e R s m args below meth c G D cy ad nL Qf pc lv (.int y :: .int x :: st) M (if y = 0 then none else o) := fun r hr H locs ls hW hS hl => by
  by_cases h : y = 0
  · rw [if_pos h] at hr; cases hr
  · rw [if_neg h] at hr
    exact lv_irem hO.1 hO.2.1 hdg h (K r hr H locs ls hW hS hl)
theorem b_ladd (hO : OKc p R s m args meth c G D cy ad cc own nL d rt) {x y : Int64} (hdg : decode cc pc = .ok (.ladd, 1)) (K : BL p l e R s m args below meth c G D cy ad nL Qf (pc + 1) lv (.long (x + y) :: st) M o) : BL p l e R s m args below meth c G D cy ad nL Qf pc lv (.long y :: .long x :: st) M o := fun r hr H locs ls hW hS hl => lv_ladd hO.1 hO.2.1 hdg (K r hr H locs ls hW hS hl)
theorem b_lsub (hO : OKc p R s m args meth c G D cy ad cc own nL d rt) {x y : Int64} (hdg : decode cc pc = .ok (.lsub, 1)) (K : BL p l e R s m args below meth c G D cy ad nL Qf (pc + 1) lv (.long (x - y) :: st) M o) : BL p l e R s m args below meth c G D cy ad nL Qf pc lv (.long y :: .long x :: st) M o := fun r hr H locs ls hW hS hl => lv_lsub hO.1 hO.2.1 hdg (K r hr H locs ls hW hS hl)
theorem b_lmul (hO : OKc p R s m args meth c G D cy ad cc own nL d rt) {x y : Int64} (hdg : decode cc pc = .ok (.lmul, 1)) (K : BL p l e R s m args below meth c G D cy ad nL Qf (pc + 1) lv (.long (x * y) :: st) M o) : BL p l e R s m args below meth c G D cy ad nL Qf pc lv (.long y :: .long x :: st) M o := fun r hr H locs ls hW hS hl => lv_lmul hO.1 hO.2.1 hdg (K r hr H locs ls hW hS hl)
theorem b_land (hO : OKc p R s m args meth c G D cy ad cc own nL d rt) {x y : Int64} (hdg : decode cc pc = .ok (.land, 1)) (K : BL p l e R s m args below meth c G D cy ad nL Qf (pc + 1) lv (.long (x &&& y) :: st) M o) : BL p l e R s m args below meth c G D cy ad nL Qf pc lv (.long y :: .long x :: st) M o := fun r hr H locs ls hW hS hl => lv_land hO.1 hO.2.1 hdg (K r hr H locs ls hW hS hl)
theorem b_lor (hO : OKc p R s m args meth c G D cy ad cc own nL d rt) {x y : Int64} (hdg : decode cc pc = .ok (.lor, 1)) (K : BL p l e R s m args below meth c G D cy ad nL Qf (pc + 1) lv (.long (x ||| y) :: st) M o) : BL p l e R s m args below meth c G D cy ad nL Qf pc lv (.long y :: .long x :: st) M o := fun r hr H locs ls hW hS hl => lv_lor hO.1 hO.2.1 hdg (K r hr H locs ls hW hS hl)
theorem b_ldiv (hO : OKc p R s m args meth c G D cy ad cc own nL d rt) {x y : Int64} (hdg : decode cc pc = .ok (.ldiv, 1)) (K : BL p l e R s m args below meth c G D cy ad nL Qf (pc + 1) lv (.long (x / y) :: st) M o) : BL p l e R s m args below meth c G D cy ad nL Qf pc lv (.long y :: .long x :: st) M (if y = 0 then none else o) := fun r hr H locs ls hW hS hl => by
  by_cases h : y = 0
  · rw [if_pos h] at hr; cases hr
  · rw [if_neg h] at hr
    exact lv_ldiv hO.1 hO.2.1 hdg h (K r hr H locs ls hW hS hl)
theorem b_lrem (hO : OKc p R s m args meth c G D cy ad cc own nL d rt) {x y : Int64} (hdg : decode cc pc = .ok (.lrem, 1)) (K : BL p l e R s m args below meth c G D cy ad nL Qf (pc + 1) lv (.long (rem64 x y) :: st) M o) : BL p l e R s m args below meth c G D cy ad nL Qf pc lv (.long y :: .long x :: st) M (if y = 0 then none else o) := fun r hr H locs ls hW hS hl => by
  by_cases h : y = 0
  · rw [if_pos h] at hr; cases hr
  · rw [if_neg h] at hr
    exact lv_lrem hO.1 hO.2.1 hdg h (K r hr H locs ls hW hS hl)
theorem b_lcmp (hO : OKc p R s m args meth c G D cy ad cc own nL d rt) {x y : Int64} (hdg : decode cc pc = .ok (.lcmp, 1)) (K : BL p l e R s m args below meth c G D cy ad nL Qf (pc + 1) lv (.int (lg_cmp x y) :: st) M o) : BL p l e R s m args below meth c G D cy ad nL Qf pc lv (.long y :: .long x :: st) M o := fun r hr H locs ls hW hS hl => W.lcmp hO.1 hO.2.1 hdg (K r hr H locs ls hW hS hl)
theorem b_i2l (hO : OKc p R s m args meth c G D cy ad cc own nL d rt) {x : Int32} (hdg : decode cc pc = .ok (.i2l, 1)) (K : BL p l e R s m args below meth c G D cy ad nL Qf (pc + 1) lv (.long x.toInt64 :: st) M o) : BL p l e R s m args below meth c G D cy ad nL Qf pc lv (.int x :: st) M o := fun r hr H locs ls hW hS hl => lv_i2l hO.1 hO.2.1 hdg rfl (K r hr H locs ls hW hS hl)
theorem b_l2i (hO : OKc p R s m args meth c G D cy ad cc own nL d rt) {x : Int64} (hdg : decode cc pc = .ok (.l2i, 1)) (K : BL p l e R s m args below meth c G D cy ad nL Qf (pc + 1) lv (.int x.toInt32 :: st) M o) : BL p l e R s m args below meth c G D cy ad nL Qf pc lv (.long x :: st) M o := fun r hr H locs ls hW hS hl => lv_l2i hO.1 hO.2.1 hdg rfl (K r hr H locs ls hW hS hl)
theorem b_lshl (hO : OKc p R s m args meth c G D cy ad cc own nL d rt) {x : Int64} {y : Int32} (hdg : decode cc pc = .ok (.lshl, 1)) (K : BL p l e R s m args below meth c G D cy ad nL Qf (pc + 1) lv (.long (x <<< (y.toInt64 &&& 63)) :: st) M o) : BL p l e R s m args below meth c G D cy ad nL Qf pc lv (.int y :: .long x :: st) M o := fun r hr H locs ls hW hS hl => lv_lshl hO.1 hO.2.1 hdg rfl (K r hr H locs ls hW hS hl)
theorem b_lshr (hO : OKc p R s m args meth c G D cy ad cc own nL d rt) {x : Int64} {y : Int32} (hdg : decode cc pc = .ok (.lshr, 1)) (K : BL p l e R s m args below meth c G D cy ad nL Qf (pc + 1) lv (.long (x >>> (y.toInt64 &&& 63)) :: st) M o) : BL p l e R s m args below meth c G D cy ad nL Qf pc lv (.int y :: .long x :: st) M o := fun r hr H locs ls hW hS hl => lv_lshr hO.1 hO.2.1 hdg rfl (K r hr H locs ls hW hS hl)
theorem b_dup (hO : OKc p R s m args meth c G D cy ad cc own nL d rt) {va : Value} (hdg : decode cc pc = .ok (.dup, 1)) (hva : va.category = 1) (K : BL p l e R s m args below meth c G D cy ad nL Qf (pc + 1) lv (va :: va :: st) M o) : BL p l e R s m args below meth c G D cy ad nL Qf pc lv (va :: st) M o := fun r hr H locs ls hW hS hl => lv_dup hO.1 hO.2.1 hdg hva (K r hr H locs ls hW hS hl)
theorem b_pop (hO : OKc p R s m args meth c G D cy ad cc own nL d rt) {va : Value} (hdg : decode cc pc = .ok (.pop, 1)) (hva : va.category = 1) (K : BL p l e R s m args below meth c G D cy ad nL Qf (pc + 1) lv st M o) : BL p l e R s m args below meth c G D cy ad nL Qf pc lv (va :: st) M o := fun r hr H locs ls hW hS hl => lv_pop hO.1 hO.2.1 hdg hva (K r hr H locs ls hW hS hl)
theorem b_dup2 (hO : OKc p R s m args meth c G D cy ad cc own nL d rt) {va vb : Value} (hdg : decode cc pc = .ok (.dup2, 1)) (hva : va.category = 1) (hvb : vb.category = 1) (K : BL p l e R s m args below meth c G D cy ad nL Qf (pc + 1) lv (va :: vb :: va :: vb :: st) M o) : BL p l e R s m args below meth c G D cy ad nL Qf pc lv (va :: vb :: st) M o := fun r hr H locs ls hW hS hl => lv_dup2_11 hO.1 hO.2.1 hdg hva hvb (K r hr H locs ls hW hS hl)
theorem b_if_eq (hO : OKc p R s m args meth c G D cy ad cc own nL d rt) {x : Int32} {off : Int} {tgt : Nat} (hdg : decode cc pc = .ok (.ifCond .eq off, 3)) (ht : (pc : Int) + off = (tgt : Int)) (kt : BL p l e R s m args below meth c G D cy ad nL Qf tgt lv st M o1) (kf : BL p l e R s m args below meth c G D cy ad nL Qf (pc + 3) lv st M o2) : BL p l e R s m args below meth c G D cy ad nL Qf pc lv (.int x :: st) M (if x = 0 then o1 else o2) := fun r hr H locs ls hW hS hl => lv_if_eq hO.1 hO.2.1 hdg ht (fun h => kt r (by rw [if_pos h] at hr; exact hr) H locs ls hW hS hl) (fun h => kf r (by rw [if_neg h] at hr; exact hr) H locs ls hW hS hl)
theorem b_icmp_eq (hO : OKc p R s m args meth c G D cy ad cc own nL d rt) {x y : Int32} {off : Int} {tgt : Nat} (hdg : decode cc pc = .ok (.if_icmp .eq off, 3)) (ht : (pc : Int) + off = (tgt : Int)) (kt : BL p l e R s m args below meth c G D cy ad nL Qf tgt lv st M o1) (kf : BL p l e R s m args below meth c G D cy ad nL Qf (pc + 3) lv st M o2) : BL p l e R s m args below meth c G D cy ad nL Qf pc lv (.int y :: .int x :: st) M (if x = y then o1 else o2) := fun r hr H locs ls hW hS hl => lv_icmp_eq hO.1 hO.2.1 hdg ht (fun h => kt r (by rw [if_pos h] at hr; exact hr) H locs ls hW hS hl) (fun h => kf r (by rw [if_neg h] at hr; exact hr) H locs ls hW hS hl)
theorem b_if_ne (hO : OKc p R s m args meth c G D cy ad cc own nL d rt) {x : Int32} {off : Int} {tgt : Nat} (hdg : decode cc pc = .ok (.ifCond .ne off, 3)) (ht : (pc : Int) + off = (tgt : Int)) (kt : BL p l e R s m args below meth c G D cy ad nL Qf tgt lv st M o1) (kf : BL p l e R s m args below meth c G D cy ad nL Qf (pc + 3) lv st M o2) : BL p l e R s m args below meth c G D cy ad nL Qf pc lv (.int x :: st) M (if x = 0 then o2 else o1) := fun r hr H locs ls hW hS hl => lv_if_ne hO.1 hO.2.1 hdg ht (fun h => kt r (by rw [if_neg h] at hr; exact hr) H locs ls hW hS hl) (fun h => kf r (by rw [if_pos h] at hr; exact hr) H locs ls hW hS hl)
theorem b_icmp_ne (hO : OKc p R s m args meth c G D cy ad cc own nL d rt) {x y : Int32} {off : Int} {tgt : Nat} (hdg : decode cc pc = .ok (.if_icmp .ne off, 3)) (ht : (pc : Int) + off = (tgt : Int)) (kt : BL p l e R s m args below meth c G D cy ad nL Qf tgt lv st M o1) (kf : BL p l e R s m args below meth c G D cy ad nL Qf (pc + 3) lv st M o2) : BL p l e R s m args below meth c G D cy ad nL Qf pc lv (.int y :: .int x :: st) M (if x = y then o2 else o1) := fun r hr H locs ls hW hS hl => lv_icmp_ne hO.1 hO.2.1 hdg ht (fun h => kt r (by rw [if_neg h] at hr; exact hr) H locs ls hW hS hl) (fun h => kf r (by rw [if_pos h] at hr; exact hr) H locs ls hW hS hl)
theorem b_if_lt (hO : OKc p R s m args meth c G D cy ad cc own nL d rt) {x : Int32} {off : Int} {tgt : Nat} (hdg : decode cc pc = .ok (.ifCond .lt off, 3)) (ht : (pc : Int) + off = (tgt : Int)) (kt : BL p l e R s m args below meth c G D cy ad nL Qf tgt lv st M o1) (kf : BL p l e R s m args below meth c G D cy ad nL Qf (pc + 3) lv st M o2) : BL p l e R s m args below meth c G D cy ad nL Qf pc lv (.int x :: st) M (if x < 0 then o1 else o2) := fun r hr H locs ls hW hS hl => lv_if_lt hO.1 hO.2.1 hdg ht (fun h => kt r (by rw [if_pos h] at hr; exact hr) H locs ls hW hS hl) (fun h => kf r (by rw [if_neg h] at hr; exact hr) H locs ls hW hS hl)
theorem b_icmp_lt (hO : OKc p R s m args meth c G D cy ad cc own nL d rt) {x y : Int32} {off : Int} {tgt : Nat} (hdg : decode cc pc = .ok (.if_icmp .lt off, 3)) (ht : (pc : Int) + off = (tgt : Int)) (kt : BL p l e R s m args below meth c G D cy ad nL Qf tgt lv st M o1) (kf : BL p l e R s m args below meth c G D cy ad nL Qf (pc + 3) lv st M o2) : BL p l e R s m args below meth c G D cy ad nL Qf pc lv (.int y :: .int x :: st) M (if x < y then o1 else o2) := fun r hr H locs ls hW hS hl => lv_icmp_lt hO.1 hO.2.1 hdg ht (fun h => kt r (by rw [if_pos h] at hr; exact hr) H locs ls hW hS hl) (fun h => kf r (by rw [if_neg h] at hr; exact hr) H locs ls hW hS hl)
theorem b_if_ge (hO : OKc p R s m args meth c G D cy ad cc own nL d rt) {x : Int32} {off : Int} {tgt : Nat} (hdg : decode cc pc = .ok (.ifCond .ge off, 3)) (ht : (pc : Int) + off = (tgt : Int)) (kt : BL p l e R s m args below meth c G D cy ad nL Qf tgt lv st M o1) (kf : BL p l e R s m args below meth c G D cy ad nL Qf (pc + 3) lv st M o2) : BL p l e R s m args below meth c G D cy ad nL Qf pc lv (.int x :: st) M (if 0 ≤ x then o1 else o2) := fun r hr H locs ls hW hS hl => lv_if_ge hO.1 hO.2.1 hdg ht (fun h => kt r (by rw [if_pos h] at hr; exact hr) H locs ls hW hS hl) (fun h => kf r (by rw [if_neg h] at hr; exact hr) H locs ls hW hS hl)
theorem b_icmp_ge (hO : OKc p R s m args meth c G D cy ad cc own nL d rt) {x y : Int32} {off : Int} {tgt : Nat} (hdg : decode cc pc = .ok (.if_icmp .ge off, 3)) (ht : (pc : Int) + off = (tgt : Int)) (kt : BL p l e R s m args below meth c G D cy ad nL Qf tgt lv st M o1) (kf : BL p l e R s m args below meth c G D cy ad nL Qf (pc + 3) lv st M o2) : BL p l e R s m args below meth c G D cy ad nL Qf pc lv (.int y :: .int x :: st) M (if y ≤ x then o1 else o2) := fun r hr H locs ls hW hS hl => lv_icmp_ge hO.1 hO.2.1 hdg ht (fun h => kt r (by rw [if_pos h] at hr; exact hr) H locs ls hW hS hl) (fun h => kf r (by rw [if_neg h] at hr; exact hr) H locs ls hW hS hl)
theorem b_if_gt (hO : OKc p R s m args meth c G D cy ad cc own nL d rt) {x : Int32} {off : Int} {tgt : Nat} (hdg : decode cc pc = .ok (.ifCond .gt off, 3)) (ht : (pc : Int) + off = (tgt : Int)) (kt : BL p l e R s m args below meth c G D cy ad nL Qf tgt lv st M o1) (kf : BL p l e R s m args below meth c G D cy ad nL Qf (pc + 3) lv st M o2) : BL p l e R s m args below meth c G D cy ad nL Qf pc lv (.int x :: st) M (if 0 < x then o1 else o2) := fun r hr H locs ls hW hS hl => lv_if_gt hO.1 hO.2.1 hdg ht (fun h => kt r (by rw [if_pos h] at hr; exact hr) H locs ls hW hS hl) (fun h => kf r (by rw [if_neg h] at hr; exact hr) H locs ls hW hS hl)
theorem b_icmp_gt (hO : OKc p R s m args meth c G D cy ad cc own nL d rt) {x y : Int32} {off : Int} {tgt : Nat} (hdg : decode cc pc = .ok (.if_icmp .gt off, 3)) (ht : (pc : Int) + off = (tgt : Int)) (kt : BL p l e R s m args below meth c G D cy ad nL Qf tgt lv st M o1) (kf : BL p l e R s m args below meth c G D cy ad nL Qf (pc + 3) lv st M o2) : BL p l e R s m args below meth c G D cy ad nL Qf pc lv (.int y :: .int x :: st) M (if y < x then o1 else o2) := fun r hr H locs ls hW hS hl => lv_icmp_gt hO.1 hO.2.1 hdg ht (fun h => kt r (by rw [if_pos h] at hr; exact hr) H locs ls hW hS hl) (fun h => kf r (by rw [if_neg h] at hr; exact hr) H locs ls hW hS hl)
theorem b_if_le (hO : OKc p R s m args meth c G D cy ad cc own nL d rt) {x : Int32} {off : Int} {tgt : Nat} (hdg : decode cc pc = .ok (.ifCond .le off, 3)) (ht : (pc : Int) + off = (tgt : Int)) (kt : BL p l e R s m args below meth c G D cy ad nL Qf tgt lv st M o1) (kf : BL p l e R s m args below meth c G D cy ad nL Qf (pc + 3) lv st M o2) : BL p l e R s m args below meth c G D cy ad nL Qf pc lv (.int x :: st) M (if x ≤ 0 then o1 else o2) := fun r hr H locs ls hW hS hl => lv_if_le hO.1 hO.2.1 hdg ht (fun h => kt r (by rw [if_pos h] at hr; exact hr) H locs ls hW hS hl) (fun h => kf r (by rw [if_neg h] at hr; exact hr) H locs ls hW hS hl)
theorem b_icmp_le (hO : OKc p R s m args meth c G D cy ad cc own nL d rt) {x y : Int32} {off : Int} {tgt : Nat} (hdg : decode cc pc = .ok (.if_icmp .le off, 3)) (ht : (pc : Int) + off = (tgt : Int)) (kt : BL p l e R s m args below meth c G D cy ad nL Qf tgt lv st M o1) (kf : BL p l e R s m args below meth c G D cy ad nL Qf (pc + 3) lv st M o2) : BL p l e R s m args below meth c G D cy ad nL Qf pc lv (.int y :: .int x :: st) M (if x ≤ y then o1 else o2) := fun r hr H locs ls hW hS hl => lv_icmp_le hO.1 hO.2.1 hdg ht (fun h => kt r (by rw [if_pos h] at hr; exact hr) H locs ls hW hS hl) (fun h => kf r (by rw [if_neg h] at hr; exact hr) H locs ls hW hS hl)
theorem b_goto (hO : OKc p R s m args meth c G D cy ad cc own nL d rt) {off : Int} {tgt : Nat} (hdg : decode cc pc = .ok (.goto off, 3)) (ht : (pc : Int) + off = (tgt : Int)) (K : BL p l e R s m args below meth c G D cy ad nL Qf tgt lv st M o) : BL p l e R s m args below meth c G D cy ad nL Qf pc lv st M o := fun r hr H locs ls hW hS hl => lv_goto hO.1 hO.2.1 hdg ht (K r hr H locs ls hW hS hl)
theorem b_sub {lv' : List (Nat × Value)} (js : List Nat) (h : js.filterMap (fun j => lv[j]?) = lv') (K : BL p l e R s m args below meth c G D cy ad nL Qf pc lv' st M o) : BL p l e R s m args below meth c G D cy ad nL Qf pc lv st M o := fun r hr H locs ls hW hS hl => K r hr H locs ls hW hS (lv_sub hl js h)
theorem b_bnd {v : Mem} {k : Mem → Option ρ} (K : ∀ M1 : Mem, BL p l e R s m args below meth c G D cy ad nL Qf pc lv st M1 (k M1)) : BL p l e R s m args below meth c G D cy ad nL Qf pc lv st v (bnd v k) := K v
theorem b_topI {v : Int32} {k : Int32 → Option ρ} (K : ∀ x : Int32, BL p l e R s m args below meth c G D cy ad nL Qf pc lv (.int x :: st) M (k x)) : BL p l e R s m args below meth c G D cy ad nL Qf pc lv (.int v :: st) M (bnd v k) := K v
theorem b_topL {v : Int64} {k : Int64 → Option ρ} (K : ∀ x : Int64, BL p l e R s m args below meth c G D cy ad nL Qf pc lv (.long x :: st) M (k x)) : BL p l e R s m args below meth c G D cy ad nL Qf pc lv (.long v :: st) M (bnd v k) := K v
theorem b_none : BL p l e R s m args below meth c G D cy ad nL Qf pc lv st M none := fun r hr => by cases hr
theorem b_ldc (hO : OKc p R s m args meth c G D cy ad cc own nL d rt) {index : Nat} {v : Int32} (hw : Cond.constant own index v ∈ lw_g) (hdg : decode cc pc = .ok (.ldc index, 2)) (K : BL p l e R s m args below meth c G D cy ad nL Qf (pc + 2) lv (.int v :: st) M o) : BL p l e R s m args below meth c G D cy ad nL Qf pc lv st M o := fun r hr H locs ls hW hS hl => lv_ldc hO.1 hO.2.1 hO.2.2.2.1 (hO.2.2.2.2.1 _ hw) hdg (K r hr H locs ls hW hS hl)
theorem b_ldcw (hO : OKc p R s m args meth c G D cy ad cc own nL d rt) {index : Nat} {v : Int32} (hw : Cond.constant own index v ∈ lw_g) (hdg : decode cc pc = .ok (.ldc_w index, 3)) (K : BL p l e R s m args below meth c G D cy ad nL Qf (pc + 3) lv (.int v :: st) M o) : BL p l e R s m args below meth c G D cy ad nL Qf pc lv st M o := fun r hr H locs ls hW hS hl => lv_ldcw hO.1 hO.2.1 hO.2.2.2.1 (hO.2.2.2.2.1 _ hw) hdg (K r hr H locs ls hW hS hl)
theorem b_ldc2 (hO : OKc p R s m args meth c G D cy ad cc own nL d rt) {index : Nat} {v : Int64} (hw : Cond.constantLong own index v ∈ lw_g) (hdg : decode cc pc = .ok (.ldc2_w index, 3)) (K : BL p l e R s m args below meth c G D cy ad nL Qf (pc + 3) lv (.long v :: st) M o) : BL p l e R s m args below meth c G D cy ad nL Qf pc lv st M o := fun r hr H locs ls hW hS hl => lv_ldc2 hO.1 hO.2.1 hO.2.2.2.1 (hO.2.2.2.2.1 _ hw) hdg (K r hr H locs ls hW hS hl)
/-- what the tables say of a field of class ci, asked by entry idx of own -/
def FL (own : String) (idx ci k : Nat) (C : String) (T : u_T) (N : Nat) (ty0 : Nat → FieldType) : Prop := vwCl[ci]? = some (C, T, N) ∧ (∀ w ∈ u_ws C T N, w ∈ lw_g) ∧ k < N ∧ Cond.fieldLink own idx (T k).1 (T k).2.1 (T k).2.2.1 ∈ lw_g ∧ ci < 13 ∧ (∀ k, k < N → parseFieldDescriptor (T k).2.2.1 = some (ty0 k)) ∧ (∀ a, a < N → ∀ b, b < N → a ≠ b → (T a).2.1 ≠ (T b).2.1)
theorem b_get (hO : OKc p R s m args meth c G D cy ad cc own nL d rt) {C : String} {T : u_T} {N : Nat} {ty0 : Nat → FieldType} {idx ci k q : Nat} (hF : FL own idx ci k C T N ty0) (hq : isK G q ci) {v : Value} (hv : (mkF ad M q 0 (G.ds ci))[k]? = some v) (hdg : decode cc pc = .ok (.getfield idx, 3)) (K : BL p l e R s m args below meth c G D cy ad nL Qf (pc + 3) lv (v :: st) M o) : BL p l e R s m args below meth c G D cy ad nL Qf pc lv (.ref (ad q) :: st) M o := fun r hr H locs ls hW hS hl => by
  obtain ⟨h1, h2, h3, h4, h5, h6, h7⟩ := hF
  exact va_get (D := D) (ci := ci) (v := v) (C := C) (T := T) (N := N) hO.1 hO.2.1 hO.2.2.2.2.1 h2 hO.2.2.2.1 hO.2.2.2.2.2.1 hW.1 q (by rw [wl_get hq.2, cE_obj hq h5]) h1 k h3 (hO.2.2.2.2.1 _ h4) (fun _ h9 => h9) hv hdg (K r hr H locs ls hW hS hl)
theorem b_getR (hO : OKc p R s m args meth c G D cy ad cc own nL d rt) {C : String} {T : u_T} {N : Nat} {ty0 : Nat → FieldType} {idx ci k q : Nat} (hF : FL own idx ci k C T N ty0) (hq : isK G q ci) {rk id : Nat} (hid : 128 * q + k = id) (hv : (mkF ad M q 0 (G.ds ci))[k]? = some (.ref (ad (gR M id)))) (hrk : G.rk id = rk) (h99 : rk < 99) (hdg : decode cc pc = .ok (.getfield idx, 3)) (K : isK G (gR M id) rk → BL p l e R s m args below meth c G D cy ad nL Qf (pc + 3) lv (.ref (ad (gR M id)) :: st) M o) : BL p l e R s m args below meth c G D cy ad nL Qf pc lv (.ref (ad q) :: st) M o := fun r hr H locs ls hW hS hl => by
  have hk := hW.2 id (by rw [hrk]; exact h99)
  rw [hrk] at hk
  exact b_get hO hF hq hv hdg (K hk) r hr H locs ls hW hS hl
theorem b_putI (hO : OKc p R s m args meth c G D cy ad cc own nL d rt) {C : String} {T : u_T} {N : Nat} {ty0 : Nat → FieldType} {idx ci k q : Nat} {v : Int32} (hF : FL own idx ci k C T N ty0) (hq : isK G q ci) (hd : (G.ds ci)[k]? = some 0) (hfin : (T k).2.2.2 = false) (hty : ty0 k = .int) {id : Nat} (hid : 128 * q + k = id) (hdg : decode cc pc = .ok (.putfield idx, 3)) (K : BL p l e R s m args below meth c G D cy ad nL Qf (pc + 3) lv st (sI M id v) o) : BL p l e R s m args below meth c G D cy ad nL Qf pc lv (.int v :: .ref (ad q) :: st) M o := fun r hr H locs ls hW hS hl => by
  subst hid
  obtain ⟨h1, h2, h3, h4, h5, h6, h7⟩ := hF
  exact va_put (D := D) (ci := ci) (v := .int v) (ty := .int) (C := C) (T := T) (N := N) hO.1 hO.2.1 hO.2.2.2.2.1 h2 ty0 h6 h7 hO.2.2.2.1 hO.2.2.2.2.2.1 hW.1 (wl_D hO.2.2.2.2.2.2.1 M) hS q (by rw [wl_get hq.2, cE_obj hq h5]) h1 k h3 (hO.2.2.2.2.1 _ h4) (fun _ h9 => h9) hfin (by rw [h6 k h3, hty]) rfl rfl (by rw [mkF_length]; exact (List.getElem?_eq_some_iff.mp hd).1) hdg (fun H1 locs1 hP _ hS1 => K r hr H1 locs1 ls ⟨by rw [wl_sI hO.2.2.2.2.2.2.2.2.2.2 hq h5 hd] at hP; exact hP, hW.2⟩ hS1 hl)
theorem b_putZ (hO : OKc p R s m args meth c G D cy ad cc own nL d rt) {C : String} {T : u_T} {N : Nat} {ty0 : Nat → FieldType} {idx ci k q : Nat} {v : Int32} (hF : FL own idx ci k C T N ty0) (hq : isK G q ci) (hd : (G.ds ci)[k]? = some 0) (hfin : (T k).2.2.2 = false) (hty : ty0 k = .boolean) {id : Nat} (hid : 128 * q + k = id) (hdg : decode cc pc = .ok (.putfield idx, 3)) (K : BL p l e R s m args below meth c G D cy ad nL Qf (pc + 3) lv st (sI M id v) o) : BL p l e R s m args below meth c G D cy ad nL Qf pc lv (.int v :: .ref (ad q) :: st) M (if v = 0 ∨ v = 1 then o else none) := fun r hr H locs ls hW hS hl => by
  subst hid
  by_cases hv01 : v = 0 ∨ v = 1
  · rw [if_pos hv01] at hr
    obtain ⟨h1, h2, h3, h4, h5, h6, h7⟩ := hF
    exact va_put (D := D) (ci := ci) (v := .int v) (ty := .boolean) (C := C) (T := T) (N := N) hO.1 hO.2.1 hO.2.2.2.2.1 h2 ty0 h6 h7 hO.2.2.2.1 hO.2.2.2.2.2.1 hW.1 (wl_D hO.2.2.2.2.2.2.1 M) hS q (by rw [wl_get hq.2, cE_obj hq h5]) h1 k h3 (hO.2.2.2.2.1 _ h4) (fun _ h9 => h9) hfin (by rw [h6 k h3, hty]) (by rcases hv01 with h | h <;> subst h <;> rfl) (by rcases hv01 with h | h <;> subst h <;> rfl) (by rw [mkF_length]; exact (List.getElem?_eq_some_iff.mp hd).1) hdg (fun H1 locs1 hP _ hS1 => K r hr H1 locs1 ls ⟨by rw [wl_sI hO.2.2.2.2.2.2.2.2.2.2 hq h5 hd] at hP; exact hP, hW.2⟩ hS1 hl)
  · rw [if_neg hv01] at hr; cases hr
theorem b_putL (hO : OKc p R s m args meth c G D cy ad cc own nL d rt) {C : String} {T : u_T} {N : Nat} {ty0 : Nat → FieldType} {idx ci k q : Nat} {v : Int64} (hF : FL own idx ci k C T N ty0) (hq : isK G q ci) (hd : (G.ds ci)[k]? = some 1) (hfin : (T k).2.2.2 = false) (hty : ty0 k = .long) {id : Nat} (hid : 128 * q + k = id) (hdg : decode cc pc = .ok (.putfield idx, 3)) (K : BL p l e R s m args below meth c G D cy ad nL Qf (pc + 3) lv st (sL M id v) o) : BL p l e R s m args below meth c G D cy ad nL Qf pc lv (.long v :: .ref (ad q) :: st) M o := fun r hr H locs ls hW hS hl => by
  subst hid
  obtain ⟨h1, h2, h3, h4, h5, h6, h7⟩ := hF
  exact va_put (D := D) (ci := ci) (v := .long v) (ty := .long) (C := C) (T := T) (N := N) hO.1 hO.2.1 hO.2.2.2.2.1 h2 ty0 h6 h7 hO.2.2.2.1 hO.2.2.2.2.2.1 hW.1 (wl_D hO.2.2.2.2.2.2.1 M) hS q (by rw [wl_get hq.2, cE_obj hq h5]) h1 k h3 (hO.2.2.2.2.1 _ h4) (fun _ h9 => h9) hfin (by rw [h6 k h3, hty]) rfl rfl (by rw [mkF_length]; exact (List.getElem?_eq_some_iff.mp hd).1) hdg (fun H1 locs1 hP _ hS1 => K r hr H1 locs1 ls ⟨by rw [wl_sL hO.2.2.2.2.2.2.2.2.2.2 hq h5 hd] at hP; exact hP, hW.2⟩ hS1 hl)
theorem WFm_sR {G : Lay} {M : Mem} {k v : Nat} (h : WFm G M) (hv : isK G v (G.rk k)) : WFm G (sR M k v) := fun j hj => by
  rw [gR_sR]
  by_cases e : j = k
  · rw [if_pos e, e]; exact hv
  · rw [if_neg e]; exact h j hj
theorem b_putR (hO : OKc p R s m args meth c G D cy ad cc own nL d rt) {C : String} {T : u_T} {N : Nat} {ty0 : Nat → FieldType} {idx ci k q : Nat} {v : Nat} {tn : String} (hF : FL own idx ci k C T N ty0) (hq : isK G q ci) (hd : (G.ds ci)[k]? = some 2) {id : Nat} (hid : 128 * q + k = id) (hv : isK G v (G.rk id)) (hfin : (T k).2.2.2 = false) (hty : ty0 k = .object tn) (hdg : decode cc pc = .ok (.putfield idx, 3)) (K : BL p l e R s m args below meth c G D cy ad nL Qf (pc + 3) lv st (sR M id v) o) : BL p l e R s m args below meth c G D cy ad nL Qf pc lv (.ref (ad v) :: .ref (ad q) :: st) M o := fun r hr H locs ls hW hS hl => by
  subst hid
  obtain ⟨h1, h2, h3, h4, h5, h6, h7⟩ := hF
  exact va_put (D := D) (ci := ci) (v := .ref (ad v)) (ty := .object tn) (C := C) (T := T) (N := N) hO.1 hO.2.1 hO.2.2.2.2.1 h2 ty0 h6 h7 hO.2.2.2.1 hO.2.2.2.2.2.1 hW.1 (wl_D hO.2.2.2.2.2.2.1 M) hS q (by rw [wl_get hq.2, cE_obj hq h5]) h1 k h3 (hO.2.2.2.2.1 _ h4) (fun _ h9 => h9) hfin (by rw [h6 k h3, hty]) rfl rfl (by rw [mkF_length]; exact (List.getElem?_eq_some_iff.mp hd).1) hdg (fun H1 locs1 hP _ hS1 => K r hr H1 locs1 ls ⟨by rw [wl_sR hO.2.2.2.2.2.2.2.2.2.2 hq h5 hd] at hP; exact hP, WFm_sR hW.2 hv⟩ hS1 hl)
theorem b_iald (hO : OKc p R s m args meth c G D cy ad cc own nL d rt) {q n : Nat} {i : Int32} (hq : isK G q 13) (hn : G.ln q = n) (hdg : decode cc pc = .ok (.iaload, 1)) (K : BL p l e R s m args below meth c G D cy ad nL Qf (pc + 1) lv (.int (gA M q i.toNatClampNeg) :: st) M o) : BL p l e R s m args below meth c G D cy ad nL Qf pc lv (.int i :: .ref (ad q) :: st) M (if oob i n then none else o) := fun r hr H locs ls hW hS hl => by
  by_cases hg : oob i n
  · rw [if_pos hg] at hr; cases hr
  · rw [if_neg hg] at hr
    exact va_iald hO.1 hO.2.1 hO.2.2.2.2.2.1 hW.1 q 0 (by rw [wl_get hq.2, cE_int hq]) rfl (by rw [hn]; exact hg) hdg (K r hr H locs ls hW hS hl)
theorem b_zald (hO : OKc p R s m args meth c G D cy ad cc own nL d rt) {q n : Nat} {i : Int32} (hq : isK G q 15) (hn : G.ln q = n) (hdg : decode cc pc = .ok (.baload, 1)) (K : BL p l e R s m args below meth c G D cy ad nL Qf (pc + 1) lv (.int (gA M q i.toNatClampNeg) :: st) M o) : BL p l e R s m args below meth c G D cy ad nL Qf pc lv (.int i :: .ref (ad q) :: st) M (if oob i n then none else o) := fun r hr H locs ls hW hS hl => by
  by_cases hg : oob i n
  · rw [if_pos hg] at hr; cases hr
  · rw [if_neg hg] at hr
    exact va_zald hO.1 hO.2.1 hO.2.2.2.2.2.1 hW.1 q 2 (by rw [wl_get hq.2, cE_bool hq]) rfl (by rw [hn]; exact hg) hdg (K r hr H locs ls hW hS hl)
theorem b_lald (hO : OKc p R s m args meth c G D cy ad cc own nL d rt) {q n : Nat} {i : Int32} (hq : isK G q 14) (hn : G.ln q = n) (hdg : decode cc pc = .ok (.laload, 1)) (K : BL p l e R s m args below meth c G D cy ad nL Qf (pc + 1) lv (.long (gB M q i.toNatClampNeg) :: st) M o) : BL p l e R s m args below meth c G D cy ad nL Qf pc lv (.int i :: .ref (ad q) :: st) M (if oob i n then none else o) := fun r hr H locs ls hW hS hl => by
  by_cases hg : oob i n
  · rw [if_pos hg] at hr; cases hr
  · rw [if_neg hg] at hr
    exact va_lald hO.1 hO.2.1 hO.2.2.2.2.2.1 hW.1 q 1 (by rw [wl_get hq.2, cE_long hq]) rfl (by rw [hn]; exact hg) hdg (K r hr H locs ls hW hS hl)
theorem b_iast (hO : OKc p R s m args meth c G D cy ad cc own nL d rt) {q n : Nat} {i x : Int32} (hq : isK G q 13) (hn : G.ln q = n) (hdg : decode cc pc = .ok (.iastore, 1)) (K : BL p l e R s m args below meth c G D cy ad nL Qf (pc + 1) lv st (sA M q i.toNatClampNeg x) o) : BL p l e R s m args below meth c G D cy ad nL Qf pc lv (.int x :: .int i :: .ref (ad q) :: st) M (if oob i n then none else o) := fun r hr H locs ls hW hS hl => by
  by_cases hg : oob i n
  · rw [if_pos hg] at hr; cases hr
  · rw [if_neg hg] at hr
    exact va_iast hO.1 hO.2.1 hO.2.2.2.2.2.1 hW.1 (wl_D hO.2.2.2.2.2.2.1 M) hS q 0 (by rw [wl_get hq.2, cE_int hq]) rfl (by rw [hn]; exact hg) hdg (fun H1 locs1 hP _ hS1 => K r hr H1 locs1 ls ⟨by rw [wl_sA hq] at hP; exact hP, hW.2⟩ hS1 hl)
theorem b_last (hO : OKc p R s m args meth c G D cy ad cc own nL d rt) {q n : Nat} {i : Int32} {x : Int64} (hq : isK G q 14) (hn : G.ln q = n) (hdg : decode cc pc = .ok (.lastore, 1)) (K : BL p l e R s m args below meth c G D cy ad nL Qf (pc + 1) lv st (sB M q i.toNatClampNeg x) o) : BL p l e R s m args below meth c G D cy ad nL Qf pc lv (.long x :: .int i :: .ref (ad q) :: st) M (if oob i n then none else o) := fun r hr H locs ls hW hS hl => by
  by_cases hg : oob i n
  · rw [if_pos hg] at hr; cases hr
  · rw [if_neg hg] at hr
    exact va_last hO.1 hO.2.1 hO.2.2.2.2.2.1 hW.1 (wl_D hO.2.2.2.2.2.2.1 M) hS q 1 (by rw [wl_get hq.2, cE_long hq]) rfl (by rw [hn]; exact hg) hdg (fun H1 locs1 hP _ hS1 => K r hr H1 locs1 ls ⟨by rw [wl_sB hq] at hP; exact hP, hW.2⟩ hS1 hl)
theorem nar01 {v : Int32} (h : v = 0 ∨ v = 1) : vp_nar .boolean v = v := by rcases h with h | h <;> subst h <;> rfl
theorem b_zast (hO : OKc p R s m args meth c G D cy ad cc own nL d rt) {q n : Nat} {i x : Int32} (hq : isK G q 15) (hn : G.ln q = n) (hdg : decode cc pc = .ok (.bastore, 1)) (K : BL p l e R s m args below meth c G D cy ad nL Qf (pc + 1) lv st (sA M q i.toNatClampNeg x) o) : BL p l e R s m args below meth c G D cy ad nL Qf pc lv (.int x :: .int i :: .ref (ad q) :: st) M (if oob i n then none else if x = 0 ∨ x = 1 then o else none) := fun r hr H locs ls hW hS hl => by
  by_cases hg : oob i n
  · rw [if_pos hg] at hr; cases hr
  · rw [if_neg hg] at hr
    by_cases hx : x = 0 ∨ x = 1
    · rw [if_pos hx] at hr
      exact va_zast hO.1 hO.2.1 hO.2.2.2.2.2.1 hW.1 (wl_D hO.2.2.2.2.2.2.1 M) hS q 2 (by rw [wl_get hq.2, cE_bool hq]) rfl (by rw [hn]; exact hg) hdg (fun H1 locs1 hP _ hS1 => K r hr H1 locs1 ls ⟨by rw [nar01 hx, wl_sZ hq] at hP; exact hP, hW.2⟩ hS1 hl)
    · rw [if_neg hx] at hr; cases hr
theorem b_alen (hO : OKc p R s m args meth c G D cy ad cc own nL d rt) {q : Nat} {v : Int32} (hq : isK G q 13) (hv : Int32.ofNat (G.ln q) = v) (hdg : decode cc pc = .ok (.arraylength, 1)) (K : BL p l e R s m args below meth c G D cy ad nL Qf (pc + 1) lv (.int v :: st) M o) : BL p l e R s m args below meth c G D cy ad nL Qf pc lv (.ref (ad q) :: st) M o := fun r hr H locs ls hW hS hl => va_alen hO.1 hO.2.1 hO.2.2.2.2.2.1 hW.1 q 0 (by rw [wl_get hq.2, cE_int hq]) rfl hv hdg (K r hr H locs ls hW hS hl)
theorem b_aald (hO : OKc p R s m args meth c G D cy ad cc own nL d rt) {q n b : Nat} {i : Int32} (hq : isK G q 16) (hn : G.ln q = n) (hob : G.ob q = b) (hdg : decode cc pc = .ok (.aaload, 1)) (hk : ∀ j, j < n → isK G (b + j) 13) (K : isK G (b + i.toNatClampNeg) 13 → BL p l e R s m args below meth c G D cy ad nL Qf (pc + 1) lv (.ref (ad (b + i.toNatClampNeg)) :: st) M o) : BL p l e R s m args below meth c G D cy ad nL Qf pc lv (.int i :: .ref (ad q) :: st) M (if oob i n then none else o) := fun r hr H locs ls hW hS hl => by
  by_cases hg : oob i n
  · rw [if_pos hg] at hr; cases hr
  · rw [if_neg hg] at hr
    have hlt : i.toNatClampNeg < G.ln q := by rw [hn]; exact Nat.not_le.mp fun q => hg (Or.inr q)
    have ha : (wl G cy ad M)[q]? = some (ad q, .inl (cy 3, G.ln q, .inr (.inr (.inr (.inr (fun i => some (ad (G.ob q + i)))))))) := by rw [wl_get hq.2, cE_grid hq]
    have hkk := K (hk _ (by rw [← hn]; exact hlt)) r hr H locs ls hW hS hl
    rw [← hob] at hkk
    exact W.aald (v := .ref (ad (G.ob q + i.toNatClampNeg))) (ty := .array .int) hO.1 hO.2.1 (hW.1 q _ ha) ((hO.2.2.2.2.2.1.2 3 _ rfl).1 (G.ln q) (fun j => va_rf (some (ad (G.ob q + j))))) rfl (fun q => by cases q) (by show ¬ (i < 0 ∨ (arrV _ _ _).slots.size ≤ _); rw [arrV_size, hn]; exact hg) (by show (arrV _ _ _).slots[_]? = _; rw [arrV_read _ _ hlt]; rfl) rfl rfl hdg hkk
theorem b_iret {M : Mem} {v : Int32} (hO : OKc p R s m args meth c G D cy ad cc own nL d (some .int)) (hdg : decode cc pc = .ok (.ireturn, 1)) : BL p l e R s m args below meth c G D cy ad nL (QI G D cy ad) pc lv [.int v] M (some (v, M)) := fun r hr H locs ls hW hS hl => by
  cases hr
  exact W.iret (v := v) hO.1 hO.2.1 hO.2.2.2.2.2.2.2.2.1 (fun t ht hw => ⟨⟨v, M, rfl, rfl, ⟨by rw [ht]; exact hW.1, hW.2⟩, va_K.moved hw.alike hO.2.2.2.2.2.1⟩, hS.F ht⟩) hS.2.2 hdg hO.2.2.2.2.2.2.2.1
theorem b_zret {M : Mem} {v : Int32} (hO : OKc p R s m args meth c G D cy ad cc own nL d (some .boolean)) (hdg : decode cc pc = .ok (.ireturn, 1)) : BL p l e R s m args below meth c G D cy ad nL (QI G D cy ad) pc lv [.int v] M (if v = 0 ∨ v = 1 then some (v, M) else none) := fun r hr H locs ls hW hS hl => by
  by_cases h01 : v = 0 ∨ v = 1
  · rw [if_pos h01] at hr
    cases hr
    exact W.zret (v := v) (ty := .boolean) hO.1 hO.2.1 hO.2.2.2.2.2.2.2.2.1 (by rcases h01 with h | h <;> subst h <;> rfl) (fun t ht hw => ⟨⟨v, M, rfl, rfl, ⟨by rw [ht]; exact hW.1, hW.2⟩, va_K.moved hw.alike hO.2.2.2.2.2.1⟩, hS.F ht⟩) hS.2.2 hdg hO.2.2.2.2.2.2.2.1
  · rw [if_neg h01] at hr; cases hr
theorem b_lret {M : Mem} {v : Int64} (hO : OKc p R s m args meth c G D cy ad cc own nL d (some .long)) (hdg : decode cc pc = .ok (.lreturn, 1)) : BL p l e R s m args below meth c G D cy ad nL (QL G D cy ad) pc lv [.long v] M (some (v, M)) := fun r hr H locs ls hW hS hl => by
  cases hr
  exact W.lret (v := v) hO.1 hO.2.1 hO.2.2.2.2.2.2.2.2.1 (fun t ht hw => ⟨⟨v, M, rfl, rfl, ⟨by rw [ht]; exact hW.1, hW.2⟩, va_K.moved hw.alike hO.2.2.2.2.2.1⟩, hS.F ht⟩) hS.2.2 hdg hO.2.2.2.2.2.2.2.1
theorem b_vret {M : Mem} (hO : OKc p R s m args meth c G D cy ad cc own nL d none) (hdg : decode cc pc = .ok (.return_, 1)) : BL p l e R s m args below meth c G D cy ad nL (QV G D cy ad) pc lv [] M (some M) := fun r hr H locs ls hW hS hl => by
  cases hr
  exact W.vret hO.1 hO.2.1 hO.2.2.2.2.2.2.2.2.1 (fun t ht hw => ⟨⟨M, rfl, rfl, ⟨by rw [ht]; exact hW.1, hW.2⟩, va_K.moved hw.alike hO.2.2.2.2.2.1⟩, hS.F ht⟩) hS.2.2 hdg hO.2.2.2.2.2.2.2.1
/-- a method that the tables know: its code, how many parameters, that its class is ready -/
def MD (y : MethodName) (bytes : ByteArray) (maxL : Nat) (rt : Option FieldType) (n : Nat) : Prop := Cond.code y bytes maxL rt ∈ lw_g ∧ Cond.initialized y.cls ∈ lw_g ∧ (y.cls ≠ "java/lang/invoke/MethodHandle" ∧ y.cls ≠ "java/lang/invoke/VarHandle" ∧ (parseMethodDescriptor y.desc).map (fun d => d.parameters.length) = some n) ∧ maxL ≤ 45
def MV (y : MethodName) : Prop := Cond.instanceMethod y ∈ lw_g ∧ Cond.selects y.cls y y ∈ lw_g
theorem gd_all {y : MethodName} {bytes : ByteArray} {maxL n : Nat} {rt : Option FieldType} (h : MD y bytes maxL rt n) : GoodIn lw_g (.code y bytes maxL rt :: lw_g) := fun w hw => by
  rcases List.mem_cons.mp hw with e | e
  · subst e; exact ⟨h.1, good_of_word (List.all_eq_true.mp lw_good _ h.1)⟩
  · exact ⟨e, good_of_word (List.all_eq_true.mp lw_good _ e)⟩
theorem WT_blind {G : Lay} {D : va_G} {cy : Nat → ClassId} {ad : Nat → Nat} {M : Mem} {av : List Value} : FrameBlind (va_Pc av (WT G D cy ad M)) := fun a U g mk q => by
  obtain ⟨q0, q1, qK⟩ := q
  exact ⟨q0, q1, va_K.moved (u := U) (U := U.calling g mk a) (Vm.Alike.refl U.vm) qK⟩
theorem b_callVI (hO : OKc p R s m args meth c G D cy ad cc own nL d rt) {y : MethodName} {bytes : ByteArray} {maxL n d2 idx : Nat} {rt2 : Option FieldType} {q ci : Nat} {As : List Value} {Cq : vw_C} {o1 : Option (Int32 × Mem)} {kf : Int32 × Mem → Option ρ} (hM : MD y bytes maxL rt2 n) (hV : MV y) (hlk : Cond.methodLink own idx y ∈ lw_g) (hc : vwCl[ci]? = some Cq) (hcC : Cq.1 = y.cls) (hci : ci < 13) (hq : isK G q ci) (hC : CT l G D cy ad y bytes maxL rt2 d2 (QI G D cy ad) (.ref (ad q) :: As) M o1) (hdd : d2 + 1 ≤ d) (hn : As.length = n) {stk : List Value} (hst : stk = As.reverse ++ .ref (ad q) :: st) (hroom : (st.map fun v => v.category).sum ≤ 8) (hdg : decode cc pc = .ok (.invokevirtual idx, 3)) (kk : ∀ z : Int32 × Mem, BL p l e R s m args below meth c G D cy ad nL Qf (pc + 3) lv (.int z.1 :: st) z.2 (kf z)) : BL p l e R s m args below meth c G D cy ad nL Qf pc lv stk M (o1.bind kf) := fun r hr H locs ls hW hS hl => by
  obtain ⟨z, hz1, hk2⟩ := Option.bind_eq_some_iff.mp hr
  subst hst
  exact va_calli (va_runV (C := Cq.1) (As := As) (rest := st) ⟨hO.1, hO.2.1, hO.2.2.1, hO.2.2.2.1, hO.2.2.2.2.1⟩ (hC z hz1) ⟨(callB_of n hO.2.2.2.2.1 (gd_all hM) rfl rfl rfl (hO.2.2.2.2.1 _ hM.2.1) (hO.2.2.2.2.1 _ hlk) hM.2.2.1 ⟨by rw [hO.2.2.2.2.2.2.2.2.2.1]; exact hdd, by rw [hO.2.2.2.2.2.2.2.2.2.1]; have := hM.2.2.2; show 8 + (maxL + 11) + 64 * d2 ≤ 64 * d; omega⟩), hO.2.2.2.2.1 _ hV.1, by rw [hcC]; exact hO.2.2.2.2.1 _ hV.2⟩ ⟨WT_blind, va_recv hO.2.2.2.2.2.1 hW.1 hc (q0 := q) (by rw [wl_get hq.2, cE_obj hq hci]), fun U hU hw => ⟨rfl, ⟨by rw [hU]; exact hW.1, hW.2⟩, va_K.moved hw.alike hO.2.2.2.2.2.1⟩⟩ rfl hn hl.1 rfl (lv_room hroom) hdg ⟨Nat.zero_le _, Nat.zero_le _⟩) hS (fun _ _ h => h) (fun _ h => h) (fun v u t H1 locs1 ht hvm hw hB hz hk hS1 => by have hw2 : z = (v, u) := hw.symm; subst hw2; exact kk (v, u) r hk2 H1 locs1 ls ⟨by have := hB.1.1; rw [ht] at this; exact this, hB.1.2⟩ hS1 hl)
theorem b_callSI (hO : OKc p R s m args meth c G D cy ad cc own nL d rt) {y : MethodName} {bytes : ByteArray} {maxL n d2 idx : Nat} {rt2 : Option FieldType} {As : List Value} {o1 : Option (Int32 × Mem)} {kf : Int32 × Mem → Option ρ} (hM : MD y bytes maxL rt2 n) (hV : Cond.static y ∈ lw_g) (hlk : Cond.methodLink own idx y ∈ lw_g) (hC : CT l G D cy ad y bytes maxL rt2 d2 (QI G D cy ad) As M o1) (hdd : d2 + 1 ≤ d) (hn : As.length = n) {stk : List Value} (hst : stk = As.reverse ++ st) (hroom : (st.map fun v => v.category).sum ≤ 8) (hdg : decode cc pc = .ok (.invokestatic idx, 3)) (kk : ∀ z : Int32 × Mem, BL p l e R s m args below meth c G D cy ad nL Qf (pc + 3) lv (.int z.1 :: st) z.2 (kf z)) : BL p l e R s m args below meth c G D cy ad nL Qf pc lv stk M (o1.bind kf) := fun r hr H locs ls hW hS hl => by
  obtain ⟨z, hz1, hk2⟩ := Option.bind_eq_some_iff.mp hr
  subst hst
  exact va_calli (va_runS (As := As) (rest := st) ⟨hO.1, hO.2.1, hO.2.2.1, hO.2.2.2.1, hO.2.2.2.2.1⟩ (hC z hz1) ⟨(callB_of n hO.2.2.2.2.1 (gd_all hM) rfl rfl rfl (hO.2.2.2.2.1 _ hM.2.1) (hO.2.2.2.2.1 _ hlk) hM.2.2.1 ⟨by rw [hO.2.2.2.2.2.2.2.2.2.1]; exact hdd, by rw [hO.2.2.2.2.2.2.2.2.2.1]; have := hM.2.2.2; show 8 + (maxL + 11) + 64 * d2 ≤ 64 * d; omega⟩), hO.2.2.2.2.1 _ hV⟩ ⟨WT_blind, fun U hU hw => ⟨rfl, ⟨by rw [hU]; exact hW.1, hW.2⟩, va_K.moved hw.alike hO.2.2.2.2.2.1⟩⟩ rfl hn hl.1 rfl (lv_room hroom) hdg ⟨Nat.zero_le _, Nat.zero_le _⟩) hS (fun _ _ h => h) (fun _ h => h) (fun v u t H1 locs1 ht hvm hw hB hz hk hS1 => by have hw2 : z = (v, u) := hw.symm; subst hw2; exact kk (v, u) r hk2 H1 locs1 ls ⟨by have := hB.1.1; rw [ht] at this; exact this, hB.1.2⟩ hS1 hl)
theorem b_callVL (hO : OKc p R s m args meth c G D cy ad cc own nL d rt) {y : MethodName} {bytes : ByteArray} {maxL n d2 idx : Nat} {rt2 : Option FieldType} {q ci : Nat} {As : List Value} {Cq : vw_C} {o1 : Option (Int64 × Mem)} {kf : Int64 × Mem → Option ρ} (hM : MD y bytes maxL rt2 n) (hV : MV y) (hlk : Cond.methodLink own idx y ∈ lw_g) (hc : vwCl[ci]? = some Cq) (hcC : Cq.1 = y.cls) (hci : ci < 13) (hq : isK G q ci) (hC : CT l G D cy ad y bytes maxL rt2 d2 (QL G D cy ad) (.ref (ad q) :: As) M o1) (hdd : d2 + 1 ≤ d) (hn : As.length = n) {stk : List Value} (hst : stk = As.reverse ++ .ref (ad q) :: st) (hroom : (st.map fun v => v.category).sum ≤ 8) (hdg : decode cc pc = .ok (.invokevirtual idx, 3)) (kk : ∀ z : Int64 × Mem, BL p l e R s m args below meth c G D cy ad nL Qf (pc + 3) lv (.long z.1 :: st) z.2 (kf z)) : BL p l e R s m args below meth c G D cy ad nL Qf pc lv stk M (o1.bind kf) := fun r hr H locs ls hW hS hl => by
  obtain ⟨z, hz1, hk2⟩ := Option.bind_eq_some_iff.mp hr
  subst hst
  exact va_calll (va_runV (C := Cq.1) (As := As) (rest := st) ⟨hO.1, hO.2.1, hO.2.2.1, hO.2.2.2.1, hO.2.2.2.2.1⟩ (hC z hz1) ⟨(callB_of n hO.2.2.2.2.1 (gd_all hM) rfl rfl rfl (hO.2.2.2.2.1 _ hM.2.1) (hO.2.2.2.2.1 _ hlk) hM.2.2.1 ⟨by rw [hO.2.2.2.2.2.2.2.2.2.1]; exact hdd, by rw [hO.2.2.2.2.2.2.2.2.2.1]; have := hM.2.2.2; show 8 + (maxL + 11) + 64 * d2 ≤ 64 * d; omega⟩), hO.2.2.2.2.1 _ hV.1, by rw [hcC]; exact hO.2.2.2.2.1 _ hV.2⟩ ⟨WT_blind, va_recv hO.2.2.2.2.2.1 hW.1 hc (q0 := q) (by rw [wl_get hq.2, cE_obj hq hci]), fun U hU hw => ⟨rfl, ⟨by rw [hU]; exact hW.1, hW.2⟩, va_K.moved hw.alike hO.2.2.2.2.2.1⟩⟩ rfl hn hl.1 rfl (lv_room hroom) hdg ⟨Nat.zero_le _, Nat.zero_le _⟩) hS (fun _ _ h => h) (fun _ h => h) (fun v u t H1 locs1 ht hvm hw hB hz hk hS1 => by have hw2 : z = (v, u) := hw.symm; subst hw2; exact kk (v, u) r hk2 H1 locs1 ls ⟨by have := hB.1.1; rw [ht] at this; exact this, hB.1.2⟩ hS1 hl)
theorem b_callSL (hO : OKc p R s m args meth c G D cy ad cc own nL d rt) {y : MethodName} {bytes : ByteArray} {maxL n d2 idx : Nat} {rt2 : Option FieldType} {As : List Value} {o1 : Option (Int64 × Mem)} {kf : Int64 × Mem → Option ρ} (hM : MD y bytes maxL rt2 n) (hV : Cond.static y ∈ lw_g) (hlk : Cond.methodLink own idx y ∈ lw_g) (hC : CT l G D cy ad y bytes maxL rt2 d2 (QL G D cy ad) As M o1) (hdd : d2 + 1 ≤ d) (hn : As.length = n) {stk : List Value} (hst : stk = As.reverse ++ st) (hroom : (st.map fun v => v.category).sum ≤ 8) (hdg : decode cc pc = .ok (.invokestatic idx, 3)) (kk : ∀ z : Int64 × Mem, BL p l e R s m args below meth c G D cy ad nL Qf (pc + 3) lv (.long z.1 :: st) z.2 (kf z)) : BL p l e R s m args below meth c G D cy ad nL Qf pc lv stk M (o1.bind kf) := fun r hr H locs ls hW hS hl => by
  obtain ⟨z, hz1, hk2⟩ := Option.bind_eq_some_iff.mp hr
  subst hst
  exact va_calll (va_runS (As := As) (rest := st) ⟨hO.1, hO.2.1, hO.2.2.1, hO.2.2.2.1, hO.2.2.2.2.1⟩ (hC z hz1) ⟨(callB_of n hO.2.2.2.2.1 (gd_all hM) rfl rfl rfl (hO.2.2.2.2.1 _ hM.2.1) (hO.2.2.2.2.1 _ hlk) hM.2.2.1 ⟨by rw [hO.2.2.2.2.2.2.2.2.2.1]; exact hdd, by rw [hO.2.2.2.2.2.2.2.2.2.1]; have := hM.2.2.2; show 8 + (maxL + 11) + 64 * d2 ≤ 64 * d; omega⟩), hO.2.2.2.2.1 _ hV⟩ ⟨WT_blind, fun U hU hw => ⟨rfl, ⟨by rw [hU]; exact hW.1, hW.2⟩, va_K.moved hw.alike hO.2.2.2.2.2.1⟩⟩ rfl hn hl.1 rfl (lv_room hroom) hdg ⟨Nat.zero_le _, Nat.zero_le _⟩) hS (fun _ _ h => h) (fun _ h => h) (fun v u t H1 locs1 ht hvm hw hB hz hk hS1 => by have hw2 : z = (v, u) := hw.symm; subst hw2; exact kk (v, u) r hk2 H1 locs1 ls ⟨by have := hB.1.1; rw [ht] at this; exact this, hB.1.2⟩ hS1 hl)
theorem b_callVV (hO : OKc p R s m args meth c G D cy ad cc own nL d rt) {y : MethodName} {bytes : ByteArray} {maxL n d2 idx : Nat} {rt2 : Option FieldType} {q ci : Nat} {As : List Value} {Cq : vw_C} {o1 : Option (Mem)} {kf : Mem → Option ρ} (hM : MD y bytes maxL rt2 n) (hV : MV y) (hlk : Cond.methodLink own idx y ∈ lw_g) (hc : vwCl[ci]? = some Cq) (hcC : Cq.1 = y.cls) (hci : ci < 13) (hq : isK G q ci) (hC : CT l G D cy ad y bytes maxL rt2 d2 (QV G D cy ad) (.ref (ad q) :: As) M o1) (hdd : d2 + 1 ≤ d) (hn : As.length = n) {stk : List Value} (hst : stk = As.reverse ++ .ref (ad q) :: st) (hroom : (st.map fun v => v.category).sum ≤ 8) (hdg : decode cc pc = .ok (.invokevirtual idx, 3)) (kk : ∀ z : Mem, BL p l e R s m args below meth c G D cy ad nL Qf (pc + 3) lv (st) z (kf z)) : BL p l e R s m args below meth c G D cy ad nL Qf pc lv stk M (o1.bind kf) := fun r hr H locs ls hW hS hl => by
  obtain ⟨z, hz1, hk2⟩ := Option.bind_eq_some_iff.mp hr
  subst hst
  exact va_callv (va_runV (C := Cq.1) (As := As) (rest := st) ⟨hO.1, hO.2.1, hO.2.2.1, hO.2.2.2.1, hO.2.2.2.2.1⟩ (hC z hz1) ⟨(callB_of n hO.2.2.2.2.1 (gd_all hM) rfl rfl rfl (hO.2.2.2.2.1 _ hM.2.1) (hO.2.2.2.2.1 _ hlk) hM.2.2.1 ⟨by rw [hO.2.2.2.2.2.2.2.2.2.1]; exact hdd, by rw [hO.2.2.2.2.2.2.2.2.2.1]; have := hM.2.2.2; show 8 + (maxL + 11) + 64 * d2 ≤ 64 * d; omega⟩), hO.2.2.2.2.1 _ hV.1, by rw [hcC]; exact hO.2.2.2.2.1 _ hV.2⟩ ⟨WT_blind, va_recv hO.2.2.2.2.2.1 hW.1 hc (q0 := q) (by rw [wl_get hq.2, cE_obj hq hci]), fun U hU hw => ⟨rfl, ⟨by rw [hU]; exact hW.1, hW.2⟩, va_K.moved hw.alike hO.2.2.2.2.2.1⟩⟩ rfl hn hl.1 rfl (lv_room hroom) hdg ⟨Nat.zero_le _, Nat.zero_le _⟩) hS (fun _ _ h => h) (fun _ h => h) (fun u t H1 locs1 ht hvm hw hB hz hk hS1 => by have hw2 : z = u := hw.symm; subst hw2; exact kk z r hk2 H1 locs1 ls ⟨by have := hB.1.1; rw [ht] at this; exact this, hB.1.2⟩ hS1 hl)
theorem b_callSV (hO : OKc p R s m args meth c G D cy ad cc own nL d rt) {y : MethodName} {bytes : ByteArray} {maxL n d2 idx : Nat} {rt2 : Option FieldType} {As : List Value} {o1 : Option (Mem)} {kf : Mem → Option ρ} (hM : MD y bytes maxL rt2 n) (hV : Cond.static y ∈ lw_g) (hlk : Cond.methodLink own idx y ∈ lw_g) (hC : CT l G D cy ad y bytes maxL rt2 d2 (QV G D cy ad) As M o1) (hdd : d2 + 1 ≤ d) (hn : As.length = n) {stk : List Value} (hst : stk = As.reverse ++ st) (hroom : (st.map fun v => v.category).sum ≤ 8) (hdg : decode cc pc = .ok (.invokestatic idx, 3)) (kk : ∀ z : Mem, BL p l e R s m args below meth c G D cy ad nL Qf (pc + 3) lv (st) z (kf z)) : BL p l e R s m args below meth c G D cy ad nL Qf pc lv stk M (o1.bind kf) := fun r hr H locs ls hW hS hl => by
  obtain ⟨z, hz1, hk2⟩ := Option.bind_eq_some_iff.mp hr
  subst hst
  exact va_callv (va_runS (As := As) (rest := st) ⟨hO.1, hO.2.1, hO.2.2.1, hO.2.2.2.1, hO.2.2.2.2.1⟩ (hC z hz1) ⟨(callB_of n hO.2.2.2.2.1 (gd_all hM) rfl rfl rfl (hO.2.2.2.2.1 _ hM.2.1) (hO.2.2.2.2.1 _ hlk) hM.2.2.1 ⟨by rw [hO.2.2.2.2.2.2.2.2.2.1]; exact hdd, by rw [hO.2.2.2.2.2.2.2.2.2.1]; have := hM.2.2.2; show 8 + (maxL + 11) + 64 * d2 ≤ 64 * d; omega⟩), hO.2.2.2.2.1 _ hV⟩ ⟨WT_blind, fun U hU hw => ⟨rfl, ⟨by rw [hU]; exact hW.1, hW.2⟩, va_K.moved hw.alike hO.2.2.2.2.2.1⟩⟩ rfl hn hl.1 rfl (lv_room hroom) hdg ⟨Nat.zero_le _, Nat.zero_le _⟩) hS (fun _ _ h => h) (fun _ h => h) (fun u t H1 locs1 ht hvm hw hB hz hk hS1 => by have hw2 : z = u := hw.symm; subst hw2; exact kk z r hk2 H1 locs1 ls ⟨by have := hB.1.1; rw [ht] at this; exact this, hB.1.2⟩ hS1 hl)
theorem CT.mk {y : MethodName} {bytes : ByteArray} {maxL : Nat} {rt2 : Option FieldType} {av : List Value} (hG : LOK G) (hI : Inj G ad) (hy : plainName y.cls = true) (hlen : (lg_sl av).length ≤ maxL) (body : ∀ {p : Program} {e : Env} {s : State} {m : MethodId} {args : Array Value} {below : List Frame} {meth : Method} {c : Code}, OKc p (rmL d) s m args meth c G D cy ad bytes y.cls maxL d rt2 → BL p l e (rmL d) s m args below meth c G D cy ad maxL Qf 0 (lv_args 0 av) [] M o) : CT l G D cy ad y bytes maxL rt2 d Qf av M o := fun r hr => by
  refine Met.ofW (cc := bytes) (maxL := maxL) (ret := rt2) hy rfl ?_
  intro p e s m args below meth c s₁ B hml hv
  obtain ⟨rfl, hW, hK⟩ := hv
  have hts := atoms_spec (ws := .code y bytes maxL rt2 :: lw_g) B.pre
  have hown : s.vm.findClass y.cls = some m.cls := findClass_of_methodNamed B.named
  have hl := lv_entry av (n := maxL) hlen
  rw [lg_entry_eq]
  exact body ⟨B.exec, B.bytes, hml, hown, fun w hw => hts w (List.mem_cons_of_mem _ hw), hK, hI, B.notSynchronized, B.returns, rfl, hG⟩ r hr s.heap [] _ hW va_S.rf hl
theorem b_zretc {M : Mem} {v : Int32} (hO : OKc p R s m args meth c G D cy ad cc own nL d (some .boolean)) (h01 : v = 0 ∨ v = 1) (hdg : decode cc pc = .ok (.ireturn, 1)) : BL p l e R s m args below meth c G D cy ad nL (QI G D cy ad) pc lv [.int v] M (some (v, M)) := by
  have h := b_zret (l := l) (e := e) (below := below) (lv := lv) (M := M) (v := v) hO hdg
  rw [if_pos h01] at h
  exact h
theorem b_putZc (hO : OKc p R s m args meth c G D cy ad cc own nL d rt) {C : String} {T : u_T} {N : Nat} {ty0 : Nat → FieldType} {idx ci k q : Nat} {v : Int32} (hF : FL own idx ci k C T N ty0) (hq : isK G q ci) (hd : (G.ds ci)[k]? = some 0) (hfin : (T k).2.2.2 = false) (hty : ty0 k = .boolean) {id : Nat} (hid : 128 * q + k = id) (h01 : v = 0 ∨ v = 1) (hdg : decode cc pc = .ok (.putfield idx, 3)) (K : BL p l e R s m args below meth c G D cy ad nL Qf (pc + 3) lv st (sI M id v) o) : BL p l e R s m args below meth c G D cy ad nL Qf pc lv (.int v :: .ref (ad q) :: st) M o := by
  have h := b_putZ hO hF hq hd hfin hty hid hdg K
  rw [if_pos h01] at h
  exact h
theorem b_zastc (hO : OKc p R s m args meth c G D cy ad cc own nL d rt) {q n : Nat} {i x : Int32} (hq : isK G q 15) (hn : G.ln q = n) (h01 : x = 0 ∨ x = 1) (hdg : decode cc pc = .ok (.bastore, 1)) (K : BL p l e R s m args below meth c G D cy ad nL Qf (pc + 1) lv st (sA M q i.toNatClampNeg x) o) : BL p l e R s m args below meth c G D cy ad nL Qf pc lv (.int x :: .int i :: .ref (ad q) :: st) M (if oob i n then none else o) := by
  have h := b_zast hO hq hn hdg K
  rw [if_pos h01] at h
  exact h
theorem b_tabIn (hO : OKc p R s m args meth c G D cy ad cc own nL d rt) {dflt lo hi : Int} {offs : Array Int} {len : Nat} {x v : Int32} {off z : Int} {tgt : Nat} (hdg : decode cc pc = .ok (.tableswitch dflt lo hi offs, len)) (hz : v.toInt = z) (h1 : ¬ z < lo) (h2 : ¬ hi < z) (ho : offs[(z - lo).toNat]? = some off) (ht : (pc : Int) + off = (tgt : Int)) (K : BL p l e R s m args below meth c G D cy ad nL Qf tgt lv st M o1) (K2 : x.toInt ≠ z → BL p l e R s m args below meth c G D cy ad nL Qf pc lv (.int x :: st) M o2) : BL p l e R s m args below meth c G D cy ad nL Qf pc lv (.int x :: st) M (if x = v then o1 else o2) := fun r hr H locs ls hW hS hl => by
  subst hz
  by_cases h : x = v
  · rw [if_pos h] at hr
    subst h
    exact lv_tableIn hO.1 hO.2.1 hdg h1 h2 ho ht (K r hr H locs ls hW hS hl)
  · rw [if_neg h] at hr
    exact K2 (fun q => h (Int32.toInt_inj.mp q)) r hr H locs ls hW hS hl
theorem b_tabOut (hO : OKc p R s m args meth c G D cy ad cc own nL d rt) {dflt lo hi : Int} {offs : Array Int} {len : Nat} {x : Int32} {tgt : Nat} (hdg : decode cc pc = .ok (.tableswitch dflt lo hi offs, len)) (h : x.toInt < lo ∨ hi < x.toInt) (ht : (pc : Int) + dflt = (tgt : Int)) (K : BL p l e R s m args below meth c G D cy ad nL Qf tgt lv st M o) : BL p l e R s m args below meth c G D cy ad nL Qf pc lv (.int x :: st) M o := fun r hr H locs ls hW hS hl => lv_tableOut hO.1 hO.2.1 hdg h ht (K r hr H locs ls hW hS hl)
theorem b_lookIn (hO : OKc p R s m args meth c G D cy ad cc own nL d rt) {dflt : Int} {ps : Array (Int × Int)} {len : Nat} {x v : Int32} {off z : Int} {tgt : Nat} (hdg : decode cc pc = .ok (.lookupswitch dflt ps, len)) (hz : v.toInt = z) (hp : (ps.toList.zip (ps.toList.drop 1)).all (fun (a, next) => a.1 < next.1) = true) (ho : Op.lookupswitch.offset ps.toList dflt z = off) (ht : (pc : Int) + off = (tgt : Int)) (K : BL p l e R s m args below meth c G D cy ad nL Qf tgt lv st M o1) (K2 : ¬ x = v → BL p l e R s m args below meth c G D cy ad nL Qf pc lv (.int x :: st) M o2) : BL p l e R s m args below meth c G D cy ad nL Qf pc lv (.int x :: st) M (if x = v then o1 else o2) := fun r hr H locs ls hW hS hl => by
  subst hz
  by_cases h : x = v
  · rw [if_pos h] at hr
    subst h
    exact lv_lookup hO.1 hO.2.1 hdg hp ho ht (K r hr H locs ls hW hS hl)
  · rw [if_neg h] at hr
    exact K2 h r hr H locs ls hW hS hl
theorem b_lookOut (hO : OKc p R s m args meth c G D cy ad cc own nL d rt) {dflt : Int} {ps : Array (Int × Int)} {len : Nat} {x : Int32} {tgt : Nat} (hdg : decode cc pc = .ok (.lookupswitch dflt ps, len)) (hp : (ps.toList.zip (ps.toList.drop 1)).all (fun (a, next) => a.1 < next.1) = true) (ho : Op.lookupswitch.offset ps.toList dflt x.toInt = dflt) (ht : (pc : Int) + dflt = (tgt : Int)) (K : BL p l e R s m args below meth c G D cy ad nL Qf tgt lv st M o) : BL p l e R s m args below meth c G D cy ad nL Qf pc lv (.int x :: st) M o := fun r hr H locs ls hW hS hl => lv_lookup hO.1 hO.2.1 hdg hp ho ht (K r hr H locs ls hW hS hl)
theorem b_mmin (hO : OKc p R s m args meth c G D cy ad cc own nL d rt) {idx : Nat} {x y : Int32} (hlk : Cond.methodLink own idx Lib.Math.min.name ∈ lw_g) (hst : Cond.static Lib.Math.min.name ∈ lw_g) (hini : Cond.initialized "java/lang/Math" ∈ lw_g) (hcd : Cond.code Lib.Math.min.name Lib.Math.min.code 2 (some .int) ∈ lw_g) (hd : 1 ≤ d) (hroom : (st.map fun v => v.category).sum ≤ 8) (hdg : decode cc pc = .ok (.invokestatic idx, 3)) (K : BL p l e R s m args below meth c G D cy ad nL Qf (pc + 3) lv (.int (imin x y) :: st) M o) : BL p l e R s m args below meth c G D cy ad nL Qf pc lv (.int y :: .int x :: st) M o := fun r hr H locs ls hW hS hl => va_mmin hO.1 hO.2.1 (hO.2.2.1.trans hl.1.symm) hO.2.2.2.1 (hO.2.2.2.2.1 _ hlk) (hO.2.2.2.2.1 _ hst) (hO.2.2.2.2.1 _ hini) (hO.2.2.2.2.1 _ hcd) (by rw [hO.2.2.2.2.2.2.2.2.2.1]; exact hd) (by rw [hO.2.2.2.2.2.2.2.2.2.1]; show _ ≤ 64 * d; omega) (Nat.zero_le _) (Nat.zero_le _) hdg (K r hr H locs ls hW hS hl)
theorem b_mmax (hO : OKc p R s m args meth c G D cy ad cc own nL d rt) {idx : Nat} {x y : Int32} (hlk : Cond.methodLink own idx Lib.Math.max.name ∈ lw_g) (hst : Cond.static Lib.Math.max.name ∈ lw_g) (hini : Cond.initialized "java/lang/Math" ∈ lw_g) (hcd : Cond.code Lib.Math.max.name Lib.Math.max.code 2 (some .int) ∈ lw_g) (hd : 1 ≤ d) (hroom : (st.map fun v => v.category).sum ≤ 8) (hdg : decode cc pc = .ok (.invokestatic idx, 3)) (K : BL p l e R s m args below meth c G D cy ad nL Qf (pc + 3) lv (.int (imax x y) :: st) M o) : BL p l e R s m args below meth c G D cy ad nL Qf pc lv (.int y :: .int x :: st) M o := fun r hr H locs ls hW hS hl => va_mmax hO.1 hO.2.1 (hO.2.2.1.trans hl.1.symm) hO.2.2.2.1 (hO.2.2.2.2.1 _ hlk) (hO.2.2.2.2.1 _ hst) (hO.2.2.2.2.1 _ hini) (hO.2.2.2.2.1 _ hcd) (by rw [hO.2.2.2.2.2.2.2.2.2.1]; exact hd) (by rw [hO.2.2.2.2.2.2.2.2.2.1]; show _ ≤ 64 * d; omega) (Nat.zero_le _) (Nat.zero_le _) hdg (K r hr H locs ls hW hS hl)
theorem b_mmin_long (hO : OKc p R s m args meth c G D cy ad cc own nL d rt) {idx : Nat} {x y : Int64} (hlk : Cond.methodLink own idx Lib.MathLoose.min_long.x ∈ lw_g) (hst : Cond.static Lib.MathLoose.min_long.x ∈ lw_g) (hini : Cond.initialized "java/lang/Math" ∈ lw_g) (hcd : Cond.code Lib.MathLoose.min_long.x Lib.MathLoose.min_long.code 4 (some .long) ∈ lw_g) (hd : 1 ≤ d) (hroom : (st.map fun v => v.category).sum ≤ 8) (hdg : decode cc pc = .ok (.invokestatic idx, 3)) (K : BL p l e R s m args below meth c G D cy ad nL Qf (pc + 3) lv (.long (lmin x y) :: st) M o) : BL p l e R s m args below meth c G D cy ad nL Qf pc lv (.long y :: .long x :: st) M o := fun r hr H locs ls hW hS hl => va_mmin_long hO.1 hO.2.1 (hO.2.2.1.trans hl.1.symm) hO.2.2.2.1 (hO.2.2.2.2.1 _ hlk) (hO.2.2.2.2.1 _ hst) (hO.2.2.2.2.1 _ hini) (hO.2.2.2.2.1 _ hcd) (by rw [hO.2.2.2.2.2.2.2.2.2.1]; exact hd) (by rw [hO.2.2.2.2.2.2.2.2.2.1]; show _ ≤ 64 * d; omega) (Nat.zero_le _) (Nat.zero_le _) hdg (K r hr H locs ls hW hS hl)
theorem b_mmax_long (hO : OKc p R s m args meth c G D cy ad cc own nL d rt) {idx : Nat} {x y : Int64} (hlk : Cond.methodLink own idx Lib.MathLoose.max_long.x ∈ lw_g) (hst : Cond.static Lib.MathLoose.max_long.x ∈ lw_g) (hini : Cond.initialized "java/lang/Math" ∈ lw_g) (hcd : Cond.code Lib.MathLoose.max_long.x Lib.MathLoose.max_long.code 4 (some .long) ∈ lw_g) (hd : 1 ≤ d) (hroom : (st.map fun v => v.category).sum ≤ 8) (hdg : decode cc pc = .ok (.invokestatic idx, 3)) (K : BL p l e R s m args below meth c G D cy ad nL Qf (pc + 3) lv (.long (lmax x y) :: st) M o) : BL p l e R s m args below meth c G D cy ad nL Qf pc lv (.long y :: .long x :: st) M o := fun r hr H locs ls hW hS hl => va_mmax_long hO.1 hO.2.1 (hO.2.2.1.trans hl.1.symm) hO.2.2.2.1 (hO.2.2.2.2.1 _ hlk) (hO.2.2.2.2.1 _ hst) (hO.2.2.2.2.1 _ hini) (hO.2.2.2.2.1 _ hcd) (by rw [hO.2.2.2.2.2.2.2.2.2.1]; exact hd) (by rw [hO.2.2.2.2.2.2.2.2.2.1]; show _ ≤ 64 * d; omega) (Nat.zero_le _) (Nat.zero_le _) hdg (K r hr H locs ls hW hS hl)
theorem b_copy (hO : OKc p R s m args meth c G D cy ad cc own nL d rt) {idx q0 q1 n0 n1 : Nat} {sp dp n : Int32} (hlk : Cond.methodLink own idx arraycopyName ∈ lw_g) (hnat : Cond.native arraycopyName ∈ lw_g) (hst : Cond.static arraycopyName ∈ lw_g) (hini : Cond.initialized "java/lang/System" ∈ lw_g) (hq0 : isK G q0 13) (hq1 : isK G q1 13) (hn0 : G.ln q0 = n0) (hn1 : G.ln q1 = n1) (hd : 1 ≤ d) (hroom : (st.map fun v => v.category).sum ≤ 8) (hdg : decode cc pc = .ok (.invokestatic idx, 3)) (K : BL p l e R s m args below meth c G D cy ad nL Qf (pc + 3) lv st (sF M q1 (va_cpy (gA M q0) (gA M q1) sp.toNatClampNeg dp.toNatClampNeg n.toNatClampNeg)) o) : BL p l e R s m args below meth c G D cy ad nL Qf pc lv (.int n :: .int dp :: .ref (ad q1) :: .int sp :: .ref (ad q0) :: st) M (if sp < 0 ∨ dp < 0 ∨ n < 0 ∨ n0 < sp.toNatClampNeg + n.toNatClampNeg ∨ n1 < dp.toNatClampNeg + n.toNatClampNeg then none else o) := fun r hr H locs ls hW hS hl => by
  by_cases hg : sp < 0 ∨ dp < 0 ∨ n < 0 ∨ n0 < sp.toNatClampNeg + n.toNatClampNeg ∨ n1 < dp.toNatClampNeg + n.toNatClampNeg
  · rw [if_pos hg] at hr; cases hr
  · rw [if_neg hg] at hr
    simp only [not_or, Nat.not_lt] at hg
    obtain ⟨g1, g2, g3, g4, g5⟩ := hg
    have hR : R = rmL d := hO.2.2.2.2.2.2.2.2.2.1
    have hf1 : 1 ≤ R.frames := by rw [hR]; exact hd
    have hw40 : nativeFrameWords "java/lang/System" "arraycopy" 5 ≤ 40 := by decide
    have hf2 : (st.map fun v => v.category).sum + (nativeFrameWords "java/lang/System" "arraycopy" 5 + 11) ≤ R.locals := by
      rw [hR]
      show _ ≤ 64 * d
      omega
    exact va_copyi (ty := .int) hO.1 hO.2.1 (hO.2.2.1.trans hl.1.symm) hO.2.2.2.1 (hO.2.2.2.2.1 _ hlk) (hO.2.2.2.2.1 _ hnat) (hO.2.2.2.2.1 _ hst) (hO.2.2.2.2.1 _ hini) hO.2.2.2.2.2.1 hW.1 (wl_D hO.2.2.2.2.2.2.1 M) hS q0 q1 0 0 (by rw [wl_get hq0.2, cE_int hq0]) (by rw [wl_get hq1.2, cE_int hq1]) rfl rfl rfl g1 g2 g3 (by rw [hn0]; exact g4) (by rw [hn1]; exact g5) (fun _ _ => rfl) hf1 hf2 hdg (fun H1 locs1 hP _ hS1 => K r hr H1 locs1 ls ⟨by rw [wl_sF hq1] at hP; exact hP, hW.2⟩ hS1 hl)
def loopN {α : Type} (F : α → α) (z : α) : Nat → α
  | 0 => z
  | n + 1 => F (loopN F z n)
end ROWS
end
section
def LX_kd : List Nat := [11, 4, 3, 8, 13, 7, 13, 1, 13, 13, 6, 13, 13, 13, 13, 13, 2, 16, 10, 13, 13, 5, 13, 13, 13, 16, 13, 13, 13, 13, 13, 9, 13, 13, 13, 13, 13, 13, 13, 13, 13, 13, 13, 0, 13, 0, 13, 9, 13, 13, 13, 13, 13, 13, 13, 13, 13, 13, 13, 0, 13, 0, 13, 13, 13, 13, 13, 13, 13, 13, 13, 13, 13, 13, 13, 13, 13, 13, 13, 13, 13, 13, 13, 13, 13, 13, 13, 13, 13, 13]
def LX_ln : List Nat := [0, 0, 0, 0, 25, 0, 1600, 0, 6, 64, 0, 5, 5, 6, 6, 6, 0, 20, 0, 5, 61, 0, 16, 16, 16, 7, 61, 61, 5, 24, 6, 0, 6, 6, 6, 5, 5, 10, 10, 10, 6, 6, 6, 0, 1600, 0, 1600, 0, 6, 6, 6, 5, 5, 10, 10, 10, 6, 6, 6, 0, 1600, 0, 1600, 18, 18, 18, 18, 18, 18, 18, 18, 18, 18, 18, 18, 18, 18, 18, 18, 18, 18, 18, 18, 41, 41, 41, 41, 41, 41, 41]
def LX_ds : Nat → List Nat := fun c => match c with
  | 0 => [4, 0]
  | 1 => [2, 0, 0, 0, 0, 4, 5, 0]
  | 2 => [4, 0, 0]
  | 3 => [4, 2, 0]
  | 4 => [5, 4, 2]
  | 5 => [0, 4, 5, 6, 7]
  | 6 => [2, 0, 4, 5, 6, 0, 7, 8]
  | 7 => [4, 0]
  | 8 => [5, 4, 0, 0, 0, 0, 0, 0, 0]
  | 9 => [0, 0, 4, 5, 6, 0, 7, 8, 0, 9, 10, 11, 0, 12, 13, 14, 0, 15, 17]
  | 10 => [4, 5]
  | 11 => [8, 2, 2, 4, 10, 13, 19, 21, 24, 29, 30, 31, 32, 33, 0, 0, 0, 0]
  | _ => []
def LX : Lay := (fun p => LX_kd.getD p 99, LX_ds, fun p => LX_ln.getD p 0, fun p => if p = 17 then 63 else if p = 25 then 83 else 0, fun k => if k = 1 then 9 else if k = 2 then 9 else if k = 130 then 9 else if k = 257 then 0 else if k = 896 then 9 else if k = 1280 then 9 else 99, 90)
theorem LXok : LOK LX := fun c => by
  show (LX_ds c).length ≤ 128
  unfold LX_ds
  split <;> decide
def LY_kd : List Nat := [12, 13, 13, 13, 13, 13, 13, 13, 13, 13, 13, 13, 13, 13, 13, 13, 13, 13, 14, 14, 14, 13, 13, 15, 13, 13, 13, 13, 13, 13, 13, 13, 13, 13, 14, 13, 13, 13, 13, 13, 13, 13, 13, 13]
def LY_ln : List Nat := [0, 1800, 2, 12, 12, 2, 10, 2, 50, 50, 2, 12, 12, 2, 4, 4, 3200, 3200, 12, 10, 12, 20, 20, 20, 20, 20, 500, 6, 22, 110, 110, 22, 22, 1760, 500, 10, 5, 5, 61, 16, 16, 16, 287, 40]
def LY_ds : Nat → List Nat := fun c => match c with
  | 12 => [4, 0, 0, 0, 0, 0, 0, 1, 0, 0, 0, 0, 0, 0, 5, 6, 7, 8, 9, 10, 11, 12, 13, 14, 15, 16, 17, 18, 19, 20, 21, 22, 23, 0, 0, 0, 24, 25, 26, 27, 28, 0, 0, 29, 0, 0, 30, 31, 32, 33, 34, 35, 36, 0, 0, 1, 37, 38, 39, 40, 41, 0, 42, 43, 44, 45, 46, 0]
  | _ => []
def LY : Lay := (fun p => LY_kd.getD p 99, LY_ds, fun p => LY_ln.getD p 0, fun p =>  0, fun k =>  99, 44)
theorem LYok : LOK LY := fun c => by
  show (LY_ds c).length ≤ 128
  unfold LY_ds
  split <;> decide
theorem pk_lt90 {P : Nat → Prop} [DecidablePred P] {n : Nat} (h : (List.range n).all (fun p => decide (P p)) = true) {p : Nat} (hp : p < n) : P p := by
  have := List.all_eq_true.mp h p (List.mem_range.mpr hp)
  simpa using this
theorem kt_9_1 {p : Nat} (h : isK LX p 9) : isK LX (p + 1) 13 := pk_lt90 (P := fun p => LX_kd.getD p 99 = 9 → LX_kd.getD (p + 1) 99 = 13 ∧ p + 1 < 90) (n := 90) (by decide +kernel) h.2 h.1
theorem lt_9_1 {p : Nat} (h : isK LX p 9) : LX.ln (p + 1) = 6 := pk_lt90 (P := fun p => LX_kd.getD p 99 = 9 → LX_ln.getD (p + 1) 0 = 6) (n := 90) (by decide +kernel) h.2 h.1
theorem kt_9_2 {p : Nat} (h : isK LX p 9) : isK LX (p + 2) 13 := pk_lt90 (P := fun p => LX_kd.getD p 99 = 9 → LX_kd.getD (p + 2) 99 = 13 ∧ p + 2 < 90) (n := 90) (by decide +kernel) h.2 h.1
theorem lt_9_2 {p : Nat} (h : isK LX p 9) : LX.ln (p + 2) = 6 := pk_lt90 (P := fun p => LX_kd.getD p 99 = 9 → LX_ln.getD (p + 2) 0 = 6) (n := 90) (by decide +kernel) h.2 h.1
theorem kt_9_3 {p : Nat} (h : isK LX p 9) : isK LX (p + 3) 13 := pk_lt90 (P := fun p => LX_kd.getD p 99 = 9 → LX_kd.getD (p + 3) 99 = 13 ∧ p + 3 < 90) (n := 90) (by decide +kernel) h.2 h.1
theorem lt_9_3 {p : Nat} (h : isK LX p 9) : LX.ln (p + 3) = 6 := pk_lt90 (P := fun p => LX_kd.getD p 99 = 9 → LX_ln.getD (p + 3) 0 = 6) (n := 90) (by decide +kernel) h.2 h.1
theorem kt_9_4 {p : Nat} (h : isK LX p 9) : isK LX (p + 4) 13 := pk_lt90 (P := fun p => LX_kd.getD p 99 = 9 → LX_kd.getD (p + 4) 99 = 13 ∧ p + 4 < 90) (n := 90) (by decide +kernel) h.2 h.1
theorem lt_9_4 {p : Nat} (h : isK LX p 9) : LX.ln (p + 4) = 5 := pk_lt90 (P := fun p => LX_kd.getD p 99 = 9 → LX_ln.getD (p + 4) 0 = 5) (n := 90) (by decide +kernel) h.2 h.1
theorem kt_9_5 {p : Nat} (h : isK LX p 9) : isK LX (p + 5) 13 := pk_lt90 (P := fun p => LX_kd.getD p 99 = 9 → LX_kd.getD (p + 5) 99 = 13 ∧ p + 5 < 90) (n := 90) (by decide +kernel) h.2 h.1
theorem lt_9_5 {p : Nat} (h : isK LX p 9) : LX.ln (p + 5) = 5 := pk_lt90 (P := fun p => LX_kd.getD p 99 = 9 → LX_ln.getD (p + 5) 0 = 5) (n := 90) (by decide +kernel) h.2 h.1
theorem kt_9_6 {p : Nat} (h : isK LX p 9) : isK LX (p + 6) 13 := pk_lt90 (P := fun p => LX_kd.getD p 99 = 9 → LX_kd.getD (p + 6) 99 = 13 ∧ p + 6 < 90) (n := 90) (by decide +kernel) h.2 h.1
theorem lt_9_6 {p : Nat} (h : isK LX p 9) : LX.ln (p + 6) = 10 := pk_lt90 (P := fun p => LX_kd.getD p 99 = 9 → LX_ln.getD (p + 6) 0 = 10) (n := 90) (by decide +kernel) h.2 h.1
theorem kt_9_7 {p : Nat} (h : isK LX p 9) : isK LX (p + 7) 13 := pk_lt90 (P := fun p => LX_kd.getD p 99 = 9 → LX_kd.getD (p + 7) 99 = 13 ∧ p + 7 < 90) (n := 90) (by decide +kernel) h.2 h.1
theorem lt_9_7 {p : Nat} (h : isK LX p 9) : LX.ln (p + 7) = 10 := pk_lt90 (P := fun p => LX_kd.getD p 99 = 9 → LX_ln.getD (p + 7) 0 = 10) (n := 90) (by decide +kernel) h.2 h.1
theorem kt_9_8 {p : Nat} (h : isK LX p 9) : isK LX (p + 8) 13 := pk_lt90 (P := fun p => LX_kd.getD p 99 = 9 → LX_kd.getD (p + 8) 99 = 13 ∧ p + 8 < 90) (n := 90) (by decide +kernel) h.2 h.1
theorem lt_9_8 {p : Nat} (h : isK LX p 9) : LX.ln (p + 8) = 10 := pk_lt90 (P := fun p => LX_kd.getD p 99 = 9 → LX_ln.getD (p + 8) 0 = 10) (n := 90) (by decide +kernel) h.2 h.1
theorem kt_9_9 {p : Nat} (h : isK LX p 9) : isK LX (p + 9) 13 := pk_lt90 (P := fun p => LX_kd.getD p 99 = 9 → LX_kd.getD (p + 9) 99 = 13 ∧ p + 9 < 90) (n := 90) (by decide +kernel) h.2 h.1
theorem lt_9_9 {p : Nat} (h : isK LX p 9) : LX.ln (p + 9) = 6 := pk_lt90 (P := fun p => LX_kd.getD p 99 = 9 → LX_ln.getD (p + 9) 0 = 6) (n := 90) (by decide +kernel) h.2 h.1
theorem kt_9_10 {p : Nat} (h : isK LX p 9) : isK LX (p + 10) 13 := pk_lt90 (P := fun p => LX_kd.getD p 99 = 9 → LX_kd.getD (p + 10) 99 = 13 ∧ p + 10 < 90) (n := 90) (by decide +kernel) h.2 h.1
theorem lt_9_10 {p : Nat} (h : isK LX p 9) : LX.ln (p + 10) = 6 := pk_lt90 (P := fun p => LX_kd.getD p 99 = 9 → LX_ln.getD (p + 10) 0 = 6) (n := 90) (by decide +kernel) h.2 h.1
theorem kt_9_11 {p : Nat} (h : isK LX p 9) : isK LX (p + 11) 13 := pk_lt90 (P := fun p => LX_kd.getD p 99 = 9 → LX_kd.getD (p + 11) 99 = 13 ∧ p + 11 < 90) (n := 90) (by decide +kernel) h.2 h.1
theorem lt_9_11 {p : Nat} (h : isK LX p 9) : LX.ln (p + 11) = 6 := pk_lt90 (P := fun p => LX_kd.getD p 99 = 9 → LX_ln.getD (p + 11) 0 = 6) (n := 90) (by decide +kernel) h.2 h.1
theorem kt_9_12 {p : Nat} (h : isK LX p 9) : isK LX (p + 12) 0 := pk_lt90 (P := fun p => LX_kd.getD p 99 = 9 → LX_kd.getD (p + 12) 99 = 0 ∧ p + 12 < 90) (n := 90) (by decide +kernel) h.2 h.1
theorem kt_9_14 {p : Nat} (h : isK LX p 9) : isK LX (p + 14) 0 := pk_lt90 (P := fun p => LX_kd.getD p 99 = 9 → LX_kd.getD (p + 14) 99 = 0 ∧ p + 14 < 90) (n := 90) (by decide +kernel) h.2 h.1
theorem kt_0_1 {p : Nat} (h : isK LX p 0) : isK LX (p + 1) 13 := pk_lt90 (P := fun p => LX_kd.getD p 99 = 0 → LX_kd.getD (p + 1) 99 = 13 ∧ p + 1 < 90) (n := 90) (by decide +kernel) h.2 h.1
theorem lt_0_1 {p : Nat} (h : isK LX p 0) : LX.ln (p + 1) = 1600 := pk_lt90 (P := fun p => LX_kd.getD p 99 = 0 → LX_ln.getD (p + 1) 0 = 1600) (n := 90) (by decide +kernel) h.2 h.1
theorem kg_17 : ∀ j, j < 20 → isK LX (63 + j) 13 := fun _ h => pk_lt90 (P := fun j => LX_kd.getD (63 + j) 99 = 13 ∧ 63 + j < 90) (n := 20) (by decide +kernel) h
theorem kg_25 : ∀ j, j < 7 → isK LX (83 + j) 13 := fun _ h => pk_lt90 (P := fun j => LX_kd.getD (83 + j) 99 = 13 ∧ 83 + j < 90) (n := 7) (by decide +kernel) h
end
