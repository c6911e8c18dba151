section
def ldX4_init_0 : List (Nat × ClassFile.Instr × Nat) := [(0, .aload_n 0, 1), (1, .invokespecial 3, 3), (4, .aload_n 0, 1), (5, .new 9, 3), (8, .dup, 1), (9, .aload_n 1, 1), (10, .invokespecial 11, 3), (13, .putfield 14, 3), (16, .aload_n 0, 1), (17, .new 20, 3), (20, .dup, 1), (21, .aload_n 0, 1), (22, .getfield 14, 3), (25, .aload_n 2, 1), (26, .getfield 22, 3), (29, .invokespecial 28, 3)]
theorem kdX4_init_0 : dkO cX4_init 0 ldX4_init_0 = true := by decide +kernel
theorem dX4_init_0 : decode cX4_init 0 = .ok (.aload_n 0, 1) := dk_i kdX4_init_0 0 rfl
theorem dX4_init_1 : decode cX4_init 1 = .ok (.invokespecial 3, 3) := dk_i kdX4_init_0 1 rfl
theorem dX4_init_4 : decode cX4_init 4 = .ok (.aload_n 0, 1) := dk_i kdX4_init_0 2 rfl
theorem dX4_init_5 : decode cX4_init 5 = .ok (.new 9, 3) := dk_i kdX4_init_0 3 rfl
theorem dX4_init_8 : decode cX4_init 8 = .ok (.dup, 1) := dk_i kdX4_init_0 4 rfl
theorem dX4_init_9 : decode cX4_init 9 = .ok (.aload_n 1, 1) := dk_i kdX4_init_0 5 rfl
theorem dX4_init_10 : decode cX4_init 10 = .ok (.invokespecial 11, 3) := dk_i kdX4_init_0 6 rfl
theorem dX4_init_13 : decode cX4_init 13 = .ok (.putfield 14, 3) := dk_i kdX4_init_0 7 rfl
theorem dX4_init_16 : decode cX4_init 16 = .ok (.aload_n 0, 1) := dk_i kdX4_init_0 8 rfl
theorem dX4_init_17 : decode cX4_init 17 = .ok (.new 20, 3) := dk_i kdX4_init_0 9 rfl
theorem dX4_init_20 : decode cX4_init 20 = .ok (.dup, 1) := dk_i kdX4_init_0 10 rfl
theorem dX4_init_21 : decode cX4_init 21 = .ok (.aload_n 0, 1) := dk_i kdX4_init_0 11 rfl
theorem dX4_init_22 : decode cX4_init 22 = .ok (.getfield 14, 3) := dk_i kdX4_init_0 12 rfl
theorem dX4_init_25 : decode cX4_init 25 = .ok (.aload_n 2, 1) := dk_i kdX4_init_0 13 rfl
theorem dX4_init_26 : decode cX4_init 26 = .ok (.getfield 22, 3) := dk_i kdX4_init_0 14 rfl
theorem dX4_init_29 : decode cX4_init 29 = .ok (.invokespecial 28, 3) := dk_i kdX4_init_0 15 rfl
def ldX4_init_32 : List (Nat × ClassFile.Instr × Nat) := [(32, .putfield 31, 3), (35, .aload_n 0, 1), (36, .aload_n 2, 1), (37, .putfield 35, 3), (40, .return_, 1)]
theorem kdX4_init_32 : dkO cX4_init 32 ldX4_init_32 = true := by decide +kernel
theorem dX4_init_32 : decode cX4_init 32 = .ok (.putfield 31, 3) := dk_i kdX4_init_32 0 rfl
theorem dX4_init_35 : decode cX4_init 35 = .ok (.aload_n 0, 1) := dk_i kdX4_init_32 1 rfl
theorem dX4_init_36 : decode cX4_init 36 = .ok (.aload_n 2, 1) := dk_i kdX4_init_32 2 rfl
theorem dX4_init_37 : decode cX4_init 37 = .ok (.putfield 35, 3) := dk_i kdX4_init_32 3 rfl
theorem dX4_init_40 : decode cX4_init 40 = .ok (.return_, 1) := dk_i kdX4_init_32 4 rfl
def ldX4_read_0 : List (Nat × ClassFile.Instr × Nat) := [(0, .aload_n 0, 1), (1, .aload_n 1, 1), (2, .putfield 35, 3), (5, .aload_n 0, 1), (6, .getfield 35, 3), (9, .invokevirtual 39, 3), (12, .aload_n 0, 1), (13, .getfield 14, 3), (16, .invokevirtual 42, 3), (19, .iconst 0, 1), (20, .istore_n 2, 1), (21, .iload_n 2, 1), (22, .bipush 80, 2), (24, .if_icmp .ge 56, 3), (27, .aload_n 0, 1), (28, .getfield 14, 3)]
theorem kdX4_read_0 : dkO cX4_read 0 ldX4_read_0 = true := by decide +kernel
theorem dX4_read_0 : decode cX4_read 0 = .ok (.aload_n 0, 1) := dk_i kdX4_read_0 0 rfl
theorem dX4_read_1 : decode cX4_read 1 = .ok (.aload_n 1, 1) := dk_i kdX4_read_0 1 rfl
theorem dX4_read_2 : decode cX4_read 2 = .ok (.putfield 35, 3) := dk_i kdX4_read_0 2 rfl
theorem dX4_read_5 : decode cX4_read 5 = .ok (.aload_n 0, 1) := dk_i kdX4_read_0 3 rfl
theorem dX4_read_6 : decode cX4_read 6 = .ok (.getfield 35, 3) := dk_i kdX4_read_0 4 rfl
theorem dX4_read_9 : decode cX4_read 9 = .ok (.invokevirtual 39, 3) := dk_i kdX4_read_0 5 rfl
theorem dX4_read_12 : decode cX4_read 12 = .ok (.aload_n 0, 1) := dk_i kdX4_read_0 6 rfl
theorem dX4_read_13 : decode cX4_read 13 = .ok (.getfield 14, 3) := dk_i kdX4_read_0 7 rfl
theorem dX4_read_16 : decode cX4_read 16 = .ok (.invokevirtual 42, 3) := dk_i kdX4_read_0 8 rfl
theorem dX4_read_19 : decode cX4_read 19 = .ok (.iconst 0, 1) := dk_i kdX4_read_0 9 rfl
theorem dX4_read_20 : decode cX4_read 20 = .ok (.istore_n 2, 1) := dk_i kdX4_read_0 10 rfl
theorem dX4_read_21 : decode cX4_read 21 = .ok (.iload_n 2, 1) := dk_i kdX4_read_0 11 rfl
theorem dX4_read_22 : decode cX4_read 22 = .ok (.bipush 80, 2) := dk_i kdX4_read_0 12 rfl
theorem dX4_read_24 : decode cX4_read 24 = .ok (.if_icmp .ge 56, 3) := dk_i kdX4_read_0 13 rfl
theorem dX4_read_27 : decode cX4_read 27 = .ok (.aload_n 0, 1) := dk_i kdX4_read_0 14 rfl
theorem dX4_read_28 : decode cX4_read 28 = .ok (.getfield 14, 3) := dk_i kdX4_read_0 15 rfl
def ldX4_read_31 : List (Nat × ClassFile.Instr × Nat) := [(31, .getfield 45, 3), (34, .sipush 259, 3), (37, .if_icmp .eq 43, 3), (40, .aload_n 0, 1), (41, .invokevirtual 49, 3), (44, .ifCond .eq 15, 3), (47, .aload_n 0, 1), (48, .getfield 14, 3), (51, .bipush 59, 2), (53, .invokevirtual 53, 3), (56, .ifCond .ne 5, 3), (59, .iconst 0, 1), (60, .ireturn, 1), (61, .aload_n 0, 1), (62, .getfield 35, 3), (65, .dup, 1)]
theorem kdX4_read_31 : dkO cX4_read 31 ldX4_read_31 = true := by decide +kernel
theorem dX4_read_31 : decode cX4_read 31 = .ok (.getfield 45, 3) := dk_i kdX4_read_31 0 rfl
theorem dX4_read_34 : decode cX4_read 34 = .ok (.sipush 259, 3) := dk_i kdX4_read_31 1 rfl
theorem dX4_read_37 : decode cX4_read 37 = .ok (.if_icmp .eq 43, 3) := dk_i kdX4_read_31 2 rfl
theorem dX4_read_40 : decode cX4_read 40 = .ok (.aload_n 0, 1) := dk_i kdX4_read_31 3 rfl
theorem dX4_read_41 : decode cX4_read 41 = .ok (.invokevirtual 49, 3) := dk_i kdX4_read_31 4 rfl
theorem dX4_read_44 : decode cX4_read 44 = .ok (.ifCond .eq 15, 3) := dk_i kdX4_read_31 5 rfl
theorem dX4_read_47 : decode cX4_read 47 = .ok (.aload_n 0, 1) := dk_i kdX4_read_31 6 rfl
theorem dX4_read_48 : decode cX4_read 48 = .ok (.getfield 14, 3) := dk_i kdX4_read_31 7 rfl
theorem dX4_read_51 : decode cX4_read 51 = .ok (.bipush 59, 2) := dk_i kdX4_read_31 8 rfl
theorem dX4_read_53 : decode cX4_read 53 = .ok (.invokevirtual 53, 3) := dk_i kdX4_read_31 9 rfl
theorem dX4_read_56 : decode cX4_read 56 = .ok (.ifCond .ne 5, 3) := dk_i kdX4_read_31 10 rfl
theorem dX4_read_59 : decode cX4_read 59 = .ok (.iconst 0, 1) := dk_i kdX4_read_31 11 rfl
theorem dX4_read_60 : decode cX4_read 60 = .ok (.ireturn, 1) := dk_i kdX4_read_31 12 rfl
theorem dX4_read_61 : decode cX4_read 61 = .ok (.aload_n 0, 1) := dk_i kdX4_read_31 13 rfl
theorem dX4_read_62 : decode cX4_read 62 = .ok (.getfield 35, 3) := dk_i kdX4_read_31 14 rfl
theorem dX4_read_65 : decode cX4_read 65 = .ok (.dup, 1) := dk_i kdX4_read_31 15 rfl
def ldX4_read_66 : List (Nat × ClassFile.Instr × Nat) := [(66, .getfield 57, 3), (69, .iconst 1, 1), (70, .iadd, 1), (71, .putfield 57, 3), (74, .iinc 2 1, 3), (77, .goto (-56), 3), (80, .aload_n 0, 1), (81, .getfield 14, 3), (84, .getfield 45, 3), (87, .sipush 259, 3), (90, .if_icmp .eq 22, 3), (93, .aload_n 0, 1), (94, .getfield 14, 3), (97, .bipush 6, 2), (99, .aload_n 0, 1), (100, .getfield 14, 3)]
theorem kdX4_read_66 : dkO cX4_read 66 ldX4_read_66 = true := by decide +kernel
theorem dX4_read_66 : decode cX4_read 66 = .ok (.getfield 57, 3) := dk_i kdX4_read_66 0 rfl
theorem dX4_read_69 : decode cX4_read 69 = .ok (.iconst 1, 1) := dk_i kdX4_read_66 1 rfl
theorem dX4_read_70 : decode cX4_read 70 = .ok (.iadd, 1) := dk_i kdX4_read_66 2 rfl
theorem dX4_read_71 : decode cX4_read 71 = .ok (.putfield 57, 3) := dk_i kdX4_read_66 3 rfl
theorem dX4_read_74 : decode cX4_read 74 = .ok (.iinc 2 1, 3) := dk_i kdX4_read_66 4 rfl
theorem dX4_read_77 : decode cX4_read 77 = .ok (.goto (-56), 3) := dk_i kdX4_read_66 5 rfl
theorem dX4_read_80 : decode cX4_read 80 = .ok (.aload_n 0, 1) := dk_i kdX4_read_66 6 rfl
theorem dX4_read_81 : decode cX4_read 81 = .ok (.getfield 14, 3) := dk_i kdX4_read_66 7 rfl
theorem dX4_read_84 : decode cX4_read 84 = .ok (.getfield 45, 3) := dk_i kdX4_read_66 8 rfl
theorem dX4_read_87 : decode cX4_read 87 = .ok (.sipush 259, 3) := dk_i kdX4_read_66 9 rfl
theorem dX4_read_90 : decode cX4_read 90 = .ok (.if_icmp .eq 22, 3) := dk_i kdX4_read_66 10 rfl
theorem dX4_read_93 : decode cX4_read 93 = .ok (.aload_n 0, 1) := dk_i kdX4_read_66 11 rfl
theorem dX4_read_94 : decode cX4_read 94 = .ok (.getfield 14, 3) := dk_i kdX4_read_66 12 rfl
theorem dX4_read_97 : decode cX4_read 97 = .ok (.bipush 6, 2) := dk_i kdX4_read_66 13 rfl
theorem dX4_read_99 : decode cX4_read 99 = .ok (.aload_n 0, 1) := dk_i kdX4_read_66 14 rfl
theorem dX4_read_100 : decode cX4_read 100 = .ok (.getfield 14, 3) := dk_i kdX4_read_66 15 rfl
def ldX4_read_103 : List (Nat × ClassFile.Instr × Nat) := [(103, .getfield 60, 3), (106, .invokevirtual 63, 3), (109, .ifCond .eq 7, 3), (112, .iconst 1, 1), (113, .goto 4, 3), (116, .iconst 0, 1), (117, .ireturn, 1)]
theorem kdX4_read_103 : dkO cX4_read 103 ldX4_read_103 = true := by decide +kernel
theorem dX4_read_103 : decode cX4_read 103 = .ok (.getfield 60, 3) := dk_i kdX4_read_103 0 rfl
theorem dX4_read_106 : decode cX4_read 106 = .ok (.invokevirtual 63, 3) := dk_i kdX4_read_103 1 rfl
theorem dX4_read_109 : decode cX4_read 109 = .ok (.ifCond .eq 7, 3) := dk_i kdX4_read_103 2 rfl
theorem dX4_read_112 : decode cX4_read 112 = .ok (.iconst 1, 1) := dk_i kdX4_read_103 3 rfl
theorem dX4_read_113 : decode cX4_read 113 = .ok (.goto 4, 3) := dk_i kdX4_read_103 4 rfl
theorem dX4_read_116 : decode cX4_read 116 = .ok (.iconst 0, 1) := dk_i kdX4_read_103 5 rfl
theorem dX4_read_117 : decode cX4_read 117 = .ok (.ireturn, 1) := dk_i kdX4_read_103 6 rfl
def ldX4_readStatement_0 : List (Nat × ClassFile.Instr × Nat) := [(0, .aload_n 0, 1), (1, .getfield 14, 3), (4, .getfield 45, 3), (7, .tableswitch 358 260 274 #[73, 358, 358, 110, 146, 358, 358, 183, 358, 204, 358, 358, 241, 289, 337], 73), (80, .aload_n 0, 1), (81, .aload_n 0, 1), (82, .getfield 35, 3), (85, .getfield 67, 3), (88, .bipush 6, 2), (90, .if_icmp .ge 7, 3), (93, .iconst 1, 1), (94, .goto 4, 3), (97, .iconst 0, 1), (98, .invokevirtual 70, 3), (101, .ifCond .eq 14, 3), (104, .aload_n 0, 1)]
theorem kdX4_readStatement_0 : dkO cX4_readStatement 0 ldX4_readStatement_0 = true := by decide +kernel
theorem dX4_readStatement_0 : decode cX4_readStatement 0 = .ok (.aload_n 0, 1) := dk_i kdX4_readStatement_0 0 rfl
theorem dX4_readStatement_1 : decode cX4_readStatement 1 = .ok (.getfield 14, 3) := dk_i kdX4_readStatement_0 1 rfl
theorem dX4_readStatement_4 : decode cX4_readStatement 4 = .ok (.getfield 45, 3) := dk_i kdX4_readStatement_0 2 rfl
theorem dX4_readStatement_7 : decode cX4_readStatement 7 = .ok (.tableswitch 358 260 274 #[73, 358, 358, 110, 146, 358, 358, 183, 358, 204, 358, 358, 241, 289, 337], 73) := dk_i kdX4_readStatement_0 3 rfl
theorem dX4_readStatement_80 : decode cX4_readStatement 80 = .ok (.aload_n 0, 1) := dk_i kdX4_readStatement_0 4 rfl
theorem dX4_readStatement_81 : decode cX4_readStatement 81 = .ok (.aload_n 0, 1) := dk_i kdX4_readStatement_0 5 rfl
theorem dX4_readStatement_82 : decode cX4_readStatement 82 = .ok (.getfield 35, 3) := dk_i kdX4_readStatement_0 6 rfl
theorem dX4_readStatement_85 : decode cX4_readStatement 85 = .ok (.getfield 67, 3) := dk_i kdX4_readStatement_0 7 rfl
theorem dX4_readStatement_88 : decode cX4_readStatement 88 = .ok (.bipush 6, 2) := dk_i kdX4_readStatement_0 8 rfl
theorem dX4_readStatement_90 : decode cX4_readStatement 90 = .ok (.if_icmp .ge 7, 3) := dk_i kdX4_readStatement_0 9 rfl
theorem dX4_readStatement_93 : decode cX4_readStatement 93 = .ok (.iconst 1, 1) := dk_i kdX4_readStatement_0 10 rfl
theorem dX4_readStatement_94 : decode cX4_readStatement 94 = .ok (.goto 4, 3) := dk_i kdX4_readStatement_0 11 rfl
theorem dX4_readStatement_97 : decode cX4_readStatement 97 = .ok (.iconst 0, 1) := dk_i kdX4_readStatement_0 12 rfl
theorem dX4_readStatement_98 : decode cX4_readStatement 98 = .ok (.invokevirtual 70, 3) := dk_i kdX4_readStatement_0 13 rfl
theorem dX4_readStatement_101 : decode cX4_readStatement 101 = .ok (.ifCond .eq 14, 3) := dk_i kdX4_readStatement_0 14 rfl
theorem dX4_readStatement_104 : decode cX4_readStatement 104 = .ok (.aload_n 0, 1) := dk_i kdX4_readStatement_0 15 rfl
def ldX4_readStatement_105 : List (Nat × ClassFile.Instr × Nat) := [(105, .invokevirtual 74, 3), (108, .ifCond .eq 7, 3), (111, .iconst 1, 1), (112, .goto 4, 3), (115, .iconst 0, 1), (116, .ireturn, 1), (117, .aload_n 0, 1), (118, .aload_n 0, 1), (119, .getfield 35, 3), (122, .getfield 77, 3), (125, .iconst 5, 1), (126, .if_icmp .ge 7, 3), (129, .iconst 1, 1), (130, .goto 4, 3), (133, .iconst 0, 1), (134, .invokevirtual 70, 3)]
theorem kdX4_readStatement_105 : dkO cX4_readStatement 105 ldX4_readStatement_105 = true := by decide +kernel
theorem dX4_readStatement_105 : decode cX4_readStatement 105 = .ok (.invokevirtual 74, 3) := dk_i kdX4_readStatement_105 0 rfl
theorem dX4_readStatement_108 : decode cX4_readStatement 108 = .ok (.ifCond .eq 7, 3) := dk_i kdX4_readStatement_105 1 rfl
theorem dX4_readStatement_111 : decode cX4_readStatement 111 = .ok (.iconst 1, 1) := dk_i kdX4_readStatement_105 2 rfl
theorem dX4_readStatement_112 : decode cX4_readStatement 112 = .ok (.goto 4, 3) := dk_i kdX4_readStatement_105 3 rfl
theorem dX4_readStatement_115 : decode cX4_readStatement 115 = .ok (.iconst 0, 1) := dk_i kdX4_readStatement_105 4 rfl
theorem dX4_readStatement_116 : decode cX4_readStatement 116 = .ok (.ireturn, 1) := dk_i kdX4_readStatement_105 5 rfl
theorem dX4_readStatement_117 : decode cX4_readStatement 117 = .ok (.aload_n 0, 1) := dk_i kdX4_readStatement_105 6 rfl
theorem dX4_readStatement_118 : decode cX4_readStatement 118 = .ok (.aload_n 0, 1) := dk_i kdX4_readStatement_105 7 rfl
theorem dX4_readStatement_119 : decode cX4_readStatement 119 = .ok (.getfield 35, 3) := dk_i kdX4_readStatement_105 8 rfl
theorem dX4_readStatement_122 : decode cX4_readStatement 122 = .ok (.getfield 77, 3) := dk_i kdX4_readStatement_105 9 rfl
theorem dX4_readStatement_125 : decode cX4_readStatement 125 = .ok (.iconst 5, 1) := dk_i kdX4_readStatement_105 10 rfl
theorem dX4_readStatement_126 : decode cX4_readStatement 126 = .ok (.if_icmp .ge 7, 3) := dk_i kdX4_readStatement_105 11 rfl
theorem dX4_readStatement_129 : decode cX4_readStatement 129 = .ok (.iconst 1, 1) := dk_i kdX4_readStatement_105 12 rfl
theorem dX4_readStatement_130 : decode cX4_readStatement 130 = .ok (.goto 4, 3) := dk_i kdX4_readStatement_105 13 rfl
theorem dX4_readStatement_133 : decode cX4_readStatement 133 = .ok (.iconst 0, 1) := dk_i kdX4_readStatement_105 14 rfl
theorem dX4_readStatement_134 : decode cX4_readStatement 134 = .ok (.invokevirtual 70, 3) := dk_i kdX4_readStatement_105 15 rfl
def ldX4_readStatement_137 : List (Nat × ClassFile.Instr × Nat) := [(137, .ifCond .eq 14, 3), (140, .aload_n 0, 1), (141, .invokevirtual 80, 3), (144, .ifCond .eq 7, 3), (147, .iconst 1, 1), (148, .goto 4, 3), (151, .iconst 0, 1), (152, .ireturn, 1), (153, .aload_n 0, 1), (154, .aload_n 0, 1), (155, .getfield 35, 3), (158, .getfield 83, 3), (161, .bipush 10, 2), (163, .if_icmp .ge 7, 3), (166, .iconst 1, 1), (167, .goto 4, 3)]
theorem kdX4_readStatement_137 : dkO cX4_readStatement 137 ldX4_readStatement_137 = true := by decide +kernel
theorem dX4_readStatement_137 : decode cX4_readStatement 137 = .ok (.ifCond .eq 14, 3) := dk_i kdX4_readStatement_137 0 rfl
theorem dX4_readStatement_140 : decode cX4_readStatement 140 = .ok (.aload_n 0, 1) := dk_i kdX4_readStatement_137 1 rfl
theorem dX4_readStatement_141 : decode cX4_readStatement 141 = .ok (.invokevirtual 80, 3) := dk_i kdX4_readStatement_137 2 rfl
theorem dX4_readStatement_144 : decode cX4_readStatement 144 = .ok (.ifCond .eq 7, 3) := dk_i kdX4_readStatement_137 3 rfl
theorem dX4_readStatement_147 : decode cX4_readStatement 147 = .ok (.iconst 1, 1) := dk_i kdX4_readStatement_137 4 rfl
theorem dX4_readStatement_148 : decode cX4_readStatement 148 = .ok (.goto 4, 3) := dk_i kdX4_readStatement_137 5 rfl
theorem dX4_readStatement_151 : decode cX4_readStatement 151 = .ok (.iconst 0, 1) := dk_i kdX4_readStatement_137 6 rfl
theorem dX4_readStatement_152 : decode cX4_readStatement 152 = .ok (.ireturn, 1) := dk_i kdX4_readStatement_137 7 rfl
theorem dX4_readStatement_153 : decode cX4_readStatement 153 = .ok (.aload_n 0, 1) := dk_i kdX4_readStatement_137 8 rfl
theorem dX4_readStatement_154 : decode cX4_readStatement 154 = .ok (.aload_n 0, 1) := dk_i kdX4_readStatement_137 9 rfl
theorem dX4_readStatement_155 : decode cX4_readStatement 155 = .ok (.getfield 35, 3) := dk_i kdX4_readStatement_137 10 rfl
theorem dX4_readStatement_158 : decode cX4_readStatement 158 = .ok (.getfield 83, 3) := dk_i kdX4_readStatement_137 11 rfl
theorem dX4_readStatement_161 : decode cX4_readStatement 161 = .ok (.bipush 10, 2) := dk_i kdX4_readStatement_137 12 rfl
theorem dX4_readStatement_163 : decode cX4_readStatement 163 = .ok (.if_icmp .ge 7, 3) := dk_i kdX4_readStatement_137 13 rfl
theorem dX4_readStatement_166 : decode cX4_readStatement 166 = .ok (.iconst 1, 1) := dk_i kdX4_readStatement_137 14 rfl
theorem dX4_readStatement_167 : decode cX4_readStatement 167 = .ok (.goto 4, 3) := dk_i kdX4_readStatement_137 15 rfl
def ldX4_readStatement_170 : List (Nat × ClassFile.Instr × Nat) := [(170, .iconst 0, 1), (171, .invokevirtual 70, 3), (174, .ifCond .eq 14, 3), (177, .aload_n 0, 1), (178, .invokevirtual 86, 3), (181, .ifCond .eq 7, 3), (184, .iconst 1, 1), (185, .goto 4, 3), (188, .iconst 0, 1), (189, .ireturn, 1), (190, .aload_n 0, 1), (191, .iconst 1, 1), (192, .invokevirtual 70, 3), (195, .ifCond .eq 14, 3), (198, .aload_n 0, 1), (199, .invokevirtual 89, 3)]
theorem kdX4_readStatement_170 : dkO cX4_readStatement 170 ldX4_readStatement_170 = true := by decide +kernel
theorem dX4_readStatement_170 : decode cX4_readStatement 170 = .ok (.iconst 0, 1) := dk_i kdX4_readStatement_170 0 rfl
theorem dX4_readStatement_171 : decode cX4_readStatement 171 = .ok (.invokevirtual 70, 3) := dk_i kdX4_readStatement_170 1 rfl
theorem dX4_readStatement_174 : decode cX4_readStatement 174 = .ok (.ifCond .eq 14, 3) := dk_i kdX4_readStatement_170 2 rfl
theorem dX4_readStatement_177 : decode cX4_readStatement 177 = .ok (.aload_n 0, 1) := dk_i kdX4_readStatement_170 3 rfl
theorem dX4_readStatement_178 : decode cX4_readStatement 178 = .ok (.invokevirtual 86, 3) := dk_i kdX4_readStatement_170 4 rfl
theorem dX4_readStatement_181 : decode cX4_readStatement 181 = .ok (.ifCond .eq 7, 3) := dk_i kdX4_readStatement_170 5 rfl
theorem dX4_readStatement_184 : decode cX4_readStatement 184 = .ok (.iconst 1, 1) := dk_i kdX4_readStatement_170 6 rfl
theorem dX4_readStatement_185 : decode cX4_readStatement 185 = .ok (.goto 4, 3) := dk_i kdX4_readStatement_170 7 rfl
theorem dX4_readStatement_188 : decode cX4_readStatement 188 = .ok (.iconst 0, 1) := dk_i kdX4_readStatement_170 8 rfl
theorem dX4_readStatement_189 : decode cX4_readStatement 189 = .ok (.ireturn, 1) := dk_i kdX4_readStatement_170 9 rfl
theorem dX4_readStatement_190 : decode cX4_readStatement 190 = .ok (.aload_n 0, 1) := dk_i kdX4_readStatement_170 10 rfl
theorem dX4_readStatement_191 : decode cX4_readStatement 191 = .ok (.iconst 1, 1) := dk_i kdX4_readStatement_170 11 rfl
theorem dX4_readStatement_192 : decode cX4_readStatement 192 = .ok (.invokevirtual 70, 3) := dk_i kdX4_readStatement_170 12 rfl
theorem dX4_readStatement_195 : decode cX4_readStatement 195 = .ok (.ifCond .eq 14, 3) := dk_i kdX4_readStatement_170 13 rfl
theorem dX4_readStatement_198 : decode cX4_readStatement 198 = .ok (.aload_n 0, 1) := dk_i kdX4_readStatement_170 14 rfl
theorem dX4_readStatement_199 : decode cX4_readStatement 199 = .ok (.invokevirtual 89, 3) := dk_i kdX4_readStatement_170 15 rfl
def ldX4_readStatement_202 : List (Nat × ClassFile.Instr × Nat) := [(202, .ifCond .eq 7, 3), (205, .iconst 1, 1), (206, .goto 4, 3), (209, .iconst 0, 1), (210, .ireturn, 1), (211, .aload_n 0, 1), (212, .aload_n 0, 1), (213, .getfield 35, 3), (216, .getfield 92, 3), (219, .bipush 6, 2), (221, .if_icmp .ge 7, 3), (224, .iconst 1, 1), (225, .goto 4, 3), (228, .iconst 0, 1), (229, .invokevirtual 70, 3), (232, .ifCond .eq 14, 3)]
theorem kdX4_readStatement_202 : dkO cX4_readStatement 202 ldX4_readStatement_202 = true := by decide +kernel
theorem dX4_readStatement_202 : decode cX4_readStatement 202 = .ok (.ifCond .eq 7, 3) := dk_i kdX4_readStatement_202 0 rfl
theorem dX4_readStatement_205 : decode cX4_readStatement 205 = .ok (.iconst 1, 1) := dk_i kdX4_readStatement_202 1 rfl
theorem dX4_readStatement_206 : decode cX4_readStatement 206 = .ok (.goto 4, 3) := dk_i kdX4_readStatement_202 2 rfl
theorem dX4_readStatement_209 : decode cX4_readStatement 209 = .ok (.iconst 0, 1) := dk_i kdX4_readStatement_202 3 rfl
theorem dX4_readStatement_210 : decode cX4_readStatement 210 = .ok (.ireturn, 1) := dk_i kdX4_readStatement_202 4 rfl
theorem dX4_readStatement_211 : decode cX4_readStatement 211 = .ok (.aload_n 0, 1) := dk_i kdX4_readStatement_202 5 rfl
theorem dX4_readStatement_212 : decode cX4_readStatement 212 = .ok (.aload_n 0, 1) := dk_i kdX4_readStatement_202 6 rfl
theorem dX4_readStatement_213 : decode cX4_readStatement 213 = .ok (.getfield 35, 3) := dk_i kdX4_readStatement_202 7 rfl
theorem dX4_readStatement_216 : decode cX4_readStatement 216 = .ok (.getfield 92, 3) := dk_i kdX4_readStatement_202 8 rfl
theorem dX4_readStatement_219 : decode cX4_readStatement 219 = .ok (.bipush 6, 2) := dk_i kdX4_readStatement_202 9 rfl
theorem dX4_readStatement_221 : decode cX4_readStatement 221 = .ok (.if_icmp .ge 7, 3) := dk_i kdX4_readStatement_202 10 rfl
theorem dX4_readStatement_224 : decode cX4_readStatement 224 = .ok (.iconst 1, 1) := dk_i kdX4_readStatement_202 11 rfl
theorem dX4_readStatement_225 : decode cX4_readStatement 225 = .ok (.goto 4, 3) := dk_i kdX4_readStatement_202 12 rfl
theorem dX4_readStatement_228 : decode cX4_readStatement 228 = .ok (.iconst 0, 1) := dk_i kdX4_readStatement_202 13 rfl
theorem dX4_readStatement_229 : decode cX4_readStatement 229 = .ok (.invokevirtual 70, 3) := dk_i kdX4_readStatement_202 14 rfl
theorem dX4_readStatement_232 : decode cX4_readStatement 232 = .ok (.ifCond .eq 14, 3) := dk_i kdX4_readStatement_202 15 rfl
def ldX4_readStatement_235 : List (Nat × ClassFile.Instr × Nat) := [(235, .aload_n 0, 1), (236, .invokevirtual 95, 3), (239, .ifCond .eq 7, 3), (242, .iconst 1, 1), (243, .goto 4, 3), (246, .iconst 0, 1), (247, .ireturn, 1), (248, .aload_n 0, 1), (249, .aload_n 0, 1), (250, .getfield 35, 3), (253, .getfield 22, 3), (256, .invokevirtual 98, 3), (259, .ifCond .ne 7, 3), (262, .iconst 1, 1), (263, .goto 4, 3), (266, .iconst 0, 1)]
theorem kdX4_readStatement_235 : dkO cX4_readStatement 235 ldX4_readStatement_235 = true := by decide +kernel
theorem dX4_readStatement_235 : decode cX4_readStatement 235 = .ok (.aload_n 0, 1) := dk_i kdX4_readStatement_235 0 rfl
theorem dX4_readStatement_236 : decode cX4_readStatement 236 = .ok (.invokevirtual 95, 3) := dk_i kdX4_readStatement_235 1 rfl
theorem dX4_readStatement_239 : decode cX4_readStatement 239 = .ok (.ifCond .eq 7, 3) := dk_i kdX4_readStatement_235 2 rfl
theorem dX4_readStatement_242 : decode cX4_readStatement 242 = .ok (.iconst 1, 1) := dk_i kdX4_readStatement_235 3 rfl
theorem dX4_readStatement_243 : decode cX4_readStatement 243 = .ok (.goto 4, 3) := dk_i kdX4_readStatement_235 4 rfl
theorem dX4_readStatement_246 : decode cX4_readStatement 246 = .ok (.iconst 0, 1) := dk_i kdX4_readStatement_235 5 rfl
theorem dX4_readStatement_247 : decode cX4_readStatement 247 = .ok (.ireturn, 1) := dk_i kdX4_readStatement_235 6 rfl
theorem dX4_readStatement_248 : decode cX4_readStatement 248 = .ok (.aload_n 0, 1) := dk_i kdX4_readStatement_235 7 rfl
theorem dX4_readStatement_249 : decode cX4_readStatement 249 = .ok (.aload_n 0, 1) := dk_i kdX4_readStatement_235 8 rfl
theorem dX4_readStatement_250 : decode cX4_readStatement 250 = .ok (.getfield 35, 3) := dk_i kdX4_readStatement_235 9 rfl
theorem dX4_readStatement_253 : decode cX4_readStatement 253 = .ok (.getfield 22, 3) := dk_i kdX4_readStatement_235 10 rfl
theorem dX4_readStatement_256 : decode cX4_readStatement 256 = .ok (.invokevirtual 98, 3) := dk_i kdX4_readStatement_235 11 rfl
theorem dX4_readStatement_259 : decode cX4_readStatement 259 = .ok (.ifCond .ne 7, 3) := dk_i kdX4_readStatement_235 12 rfl
theorem dX4_readStatement_262 : decode cX4_readStatement 262 = .ok (.iconst 1, 1) := dk_i kdX4_readStatement_235 13 rfl
theorem dX4_readStatement_263 : decode cX4_readStatement 263 = .ok (.goto 4, 3) := dk_i kdX4_readStatement_235 14 rfl
theorem dX4_readStatement_266 : decode cX4_readStatement 266 = .ok (.iconst 0, 1) := dk_i kdX4_readStatement_235 15 rfl
def ldX4_readStatement_267 : List (Nat × ClassFile.Instr × Nat) := [(267, .invokevirtual 70, 3), (270, .ifCond .eq 24, 3), (273, .aload_n 0, 1), (274, .getfield 31, 3), (277, .aload_n 0, 1), (278, .getfield 35, 3), (281, .getfield 22, 3), (284, .invokevirtual 103, 3), (287, .ifCond .eq 7, 3), (290, .iconst 1, 1), (291, .goto 4, 3), (294, .iconst 0, 1), (295, .ireturn, 1), (296, .aload_n 0, 1), (297, .aload_n 0, 1), (298, .getfield 35, 3)]
theorem kdX4_readStatement_267 : dkO cX4_readStatement 267 ldX4_readStatement_267 = true := by decide +kernel
theorem dX4_readStatement_267 : decode cX4_readStatement 267 = .ok (.invokevirtual 70, 3) := dk_i kdX4_readStatement_267 0 rfl
theorem dX4_readStatement_270 : decode cX4_readStatement 270 = .ok (.ifCond .eq 24, 3) := dk_i kdX4_readStatement_267 1 rfl
theorem dX4_readStatement_273 : decode cX4_readStatement 273 = .ok (.aload_n 0, 1) := dk_i kdX4_readStatement_267 2 rfl
theorem dX4_readStatement_274 : decode cX4_readStatement 274 = .ok (.getfield 31, 3) := dk_i kdX4_readStatement_267 3 rfl
theorem dX4_readStatement_277 : decode cX4_readStatement 277 = .ok (.aload_n 0, 1) := dk_i kdX4_readStatement_267 4 rfl
theorem dX4_readStatement_278 : decode cX4_readStatement 278 = .ok (.getfield 35, 3) := dk_i kdX4_readStatement_267 5 rfl
theorem dX4_readStatement_281 : decode cX4_readStatement 281 = .ok (.getfield 22, 3) := dk_i kdX4_readStatement_267 6 rfl
theorem dX4_readStatement_284 : decode cX4_readStatement 284 = .ok (.invokevirtual 103, 3) := dk_i kdX4_readStatement_267 7 rfl
theorem dX4_readStatement_287 : decode cX4_readStatement 287 = .ok (.ifCond .eq 7, 3) := dk_i kdX4_readStatement_267 8 rfl
theorem dX4_readStatement_290 : decode cX4_readStatement 290 = .ok (.iconst 1, 1) := dk_i kdX4_readStatement_267 9 rfl
theorem dX4_readStatement_291 : decode cX4_readStatement 291 = .ok (.goto 4, 3) := dk_i kdX4_readStatement_267 10 rfl
theorem dX4_readStatement_294 : decode cX4_readStatement 294 = .ok (.iconst 0, 1) := dk_i kdX4_readStatement_267 11 rfl
theorem dX4_readStatement_295 : decode cX4_readStatement 295 = .ok (.ireturn, 1) := dk_i kdX4_readStatement_267 12 rfl
theorem dX4_readStatement_296 : decode cX4_readStatement 296 = .ok (.aload_n 0, 1) := dk_i kdX4_readStatement_267 13 rfl
theorem dX4_readStatement_297 : decode cX4_readStatement 297 = .ok (.aload_n 0, 1) := dk_i kdX4_readStatement_267 14 rfl
theorem dX4_readStatement_298 : decode cX4_readStatement 298 = .ok (.getfield 35, 3) := dk_i kdX4_readStatement_267 15 rfl
def ldX4_readStatement_301 : List (Nat × ClassFile.Instr × Nat) := [(301, .getfield 107, 3), (304, .invokevirtual 98, 3), (307, .ifCond .ne 7, 3), (310, .iconst 1, 1), (311, .goto 4, 3), (314, .iconst 0, 1), (315, .invokevirtual 70, 3), (318, .ifCond .eq 24, 3), (321, .aload_n 0, 1), (322, .getfield 31, 3), (325, .aload_n 0, 1), (326, .getfield 35, 3), (329, .getfield 107, 3), (332, .invokevirtual 110, 3), (335, .ifCond .eq 7, 3), (338, .iconst 1, 1)]
theorem kdX4_readStatement_301 : dkO cX4_readStatement 301 ldX4_readStatement_301 = true := by decide +kernel
theorem dX4_readStatement_301 : decode cX4_readStatement 301 = .ok (.getfield 107, 3) := dk_i kdX4_readStatement_301 0 rfl
theorem dX4_readStatement_304 : decode cX4_readStatement 304 = .ok (.invokevirtual 98, 3) := dk_i kdX4_readStatement_301 1 rfl
theorem dX4_readStatement_307 : decode cX4_readStatement 307 = .ok (.ifCond .ne 7, 3) := dk_i kdX4_readStatement_301 2 rfl
theorem dX4_readStatement_310 : decode cX4_readStatement 310 = .ok (.iconst 1, 1) := dk_i kdX4_readStatement_301 3 rfl
theorem dX4_readStatement_311 : decode cX4_readStatement 311 = .ok (.goto 4, 3) := dk_i kdX4_readStatement_301 4 rfl
theorem dX4_readStatement_314 : decode cX4_readStatement 314 = .ok (.iconst 0, 1) := dk_i kdX4_readStatement_301 5 rfl
theorem dX4_readStatement_315 : decode cX4_readStatement 315 = .ok (.invokevirtual 70, 3) := dk_i kdX4_readStatement_301 6 rfl
theorem dX4_readStatement_318 : decode cX4_readStatement 318 = .ok (.ifCond .eq 24, 3) := dk_i kdX4_readStatement_301 7 rfl
theorem dX4_readStatement_321 : decode cX4_readStatement 321 = .ok (.aload_n 0, 1) := dk_i kdX4_readStatement_301 8 rfl
theorem dX4_readStatement_322 : decode cX4_readStatement 322 = .ok (.getfield 31, 3) := dk_i kdX4_readStatement_301 9 rfl
theorem dX4_readStatement_325 : decode cX4_readStatement 325 = .ok (.aload_n 0, 1) := dk_i kdX4_readStatement_301 10 rfl
theorem dX4_readStatement_326 : decode cX4_readStatement 326 = .ok (.getfield 35, 3) := dk_i kdX4_readStatement_301 11 rfl
theorem dX4_readStatement_329 : decode cX4_readStatement 329 = .ok (.getfield 107, 3) := dk_i kdX4_readStatement_301 12 rfl
theorem dX4_readStatement_332 : decode cX4_readStatement 332 = .ok (.invokevirtual 110, 3) := dk_i kdX4_readStatement_301 13 rfl
theorem dX4_readStatement_335 : decode cX4_readStatement 335 = .ok (.ifCond .eq 7, 3) := dk_i kdX4_readStatement_301 14 rfl
theorem dX4_readStatement_338 : decode cX4_readStatement 338 = .ok (.iconst 1, 1) := dk_i kdX4_readStatement_301 15 rfl
def ldX4_readStatement_339 : List (Nat × ClassFile.Instr × Nat) := [(339, .goto 4, 3), (342, .iconst 0, 1), (343, .ireturn, 1), (344, .aload_n 0, 1), (345, .iconst 1, 1), (346, .invokevirtual 70, 3), (349, .ifCond .eq 14, 3), (352, .aload_n 0, 1), (353, .invokevirtual 113, 3), (356, .ifCond .eq 7, 3), (359, .iconst 1, 1), (360, .goto 4, 3), (363, .iconst 0, 1), (364, .ireturn, 1), (365, .aload_n 0, 1), (366, .getfield 14, 3)]
theorem kdX4_readStatement_339 : dkO cX4_readStatement 339 ldX4_readStatement_339 = true := by decide +kernel
theorem dX4_readStatement_339 : decode cX4_readStatement 339 = .ok (.goto 4, 3) := dk_i kdX4_readStatement_339 0 rfl
theorem dX4_readStatement_342 : decode cX4_readStatement 342 = .ok (.iconst 0, 1) := dk_i kdX4_readStatement_339 1 rfl
theorem dX4_readStatement_343 : decode cX4_readStatement 343 = .ok (.ireturn, 1) := dk_i kdX4_readStatement_339 2 rfl
theorem dX4_readStatement_344 : decode cX4_readStatement 344 = .ok (.aload_n 0, 1) := dk_i kdX4_readStatement_339 3 rfl
theorem dX4_readStatement_345 : decode cX4_readStatement 345 = .ok (.iconst 1, 1) := dk_i kdX4_readStatement_339 4 rfl
theorem dX4_readStatement_346 : decode cX4_readStatement 346 = .ok (.invokevirtual 70, 3) := dk_i kdX4_readStatement_339 5 rfl
theorem dX4_readStatement_349 : decode cX4_readStatement 349 = .ok (.ifCond .eq 14, 3) := dk_i kdX4_readStatement_339 6 rfl
theorem dX4_readStatement_352 : decode cX4_readStatement 352 = .ok (.aload_n 0, 1) := dk_i kdX4_readStatement_339 7 rfl
theorem dX4_readStatement_353 : decode cX4_readStatement 353 = .ok (.invokevirtual 113, 3) := dk_i kdX4_readStatement_339 8 rfl
theorem dX4_readStatement_356 : decode cX4_readStatement 356 = .ok (.ifCond .eq 7, 3) := dk_i kdX4_readStatement_339 9 rfl
theorem dX4_readStatement_359 : decode cX4_readStatement 359 = .ok (.iconst 1, 1) := dk_i kdX4_readStatement_339 10 rfl
theorem dX4_readStatement_360 : decode cX4_readStatement 360 = .ok (.goto 4, 3) := dk_i kdX4_readStatement_339 11 rfl
theorem dX4_readStatement_363 : decode cX4_readStatement 363 = .ok (.iconst 0, 1) := dk_i kdX4_readStatement_339 12 rfl
theorem dX4_readStatement_364 : decode cX4_readStatement 364 = .ok (.ireturn, 1) := dk_i kdX4_readStatement_339 13 rfl
theorem dX4_readStatement_365 : decode cX4_readStatement 365 = .ok (.aload_n 0, 1) := dk_i kdX4_readStatement_339 14 rfl
theorem dX4_readStatement_366 : decode cX4_readStatement 366 = .ok (.getfield 14, 3) := dk_i kdX4_readStatement_339 15 rfl
def ldX4_readStatement_369 : List (Nat × ClassFile.Instr × Nat) := [(369, .invokevirtual 116, 3), (372, .ireturn, 1)]
theorem kdX4_readStatement_369 : dkO cX4_readStatement 369 ldX4_readStatement_369 = true := by decide +kernel
theorem dX4_readStatement_369 : decode cX4_readStatement 369 = .ok (.invokevirtual 116, 3) := dk_i kdX4_readStatement_369 0 rfl
theorem dX4_readStatement_372 : decode cX4_readStatement 372 = .ok (.ireturn, 1) := dk_i kdX4_readStatement_369 1 rfl
def ldX4_skipFirst_0 : List (Nat × ClassFile.Instr × Nat) := [(0, .iload_n 1, 1), (1, .ifCond .ne 20, 3), (4, .aload_n 0, 1), (5, .getfield 14, 3), (8, .bipush 6, 2), (10, .aload_n 0, 1), (11, .getfield 14, 3), (14, .getfield 60, 3), (17, .invokevirtual 63, 3), (20, .ireturn, 1), (21, .aload_n 0, 1), (22, .getfield 14, 3), (25, .invokevirtual 119, 3), (28, .iconst 1, 1), (29, .ireturn, 1)]
theorem kdX4_skipFirst_0 : dkO cX4_skipFirst 0 ldX4_skipFirst_0 = true := by decide +kernel
theorem dX4_skipFirst_0 : decode cX4_skipFirst 0 = .ok (.iload_n 1, 1) := dk_i kdX4_skipFirst_0 0 rfl
theorem dX4_skipFirst_1 : decode cX4_skipFirst 1 = .ok (.ifCond .ne 20, 3) := dk_i kdX4_skipFirst_0 1 rfl
theorem dX4_skipFirst_4 : decode cX4_skipFirst 4 = .ok (.aload_n 0, 1) := dk_i kdX4_skipFirst_0 2 rfl
theorem dX4_skipFirst_5 : decode cX4_skipFirst 5 = .ok (.getfield 14, 3) := dk_i kdX4_skipFirst_0 3 rfl
theorem dX4_skipFirst_8 : decode cX4_skipFirst 8 = .ok (.bipush 6, 2) := dk_i kdX4_skipFirst_0 4 rfl
theorem dX4_skipFirst_10 : decode cX4_skipFirst 10 = .ok (.aload_n 0, 1) := dk_i kdX4_skipFirst_0 5 rfl
theorem dX4_skipFirst_11 : decode cX4_skipFirst 11 = .ok (.getfield 14, 3) := dk_i kdX4_skipFirst_0 6 rfl
theorem dX4_skipFirst_14 : decode cX4_skipFirst 14 = .ok (.getfield 60, 3) := dk_i kdX4_skipFirst_0 7 rfl
theorem dX4_skipFirst_17 : decode cX4_skipFirst 17 = .ok (.invokevirtual 63, 3) := dk_i kdX4_skipFirst_0 8 rfl
theorem dX4_skipFirst_20 : decode cX4_skipFirst 20 = .ok (.ireturn, 1) := dk_i kdX4_skipFirst_0 9 rfl
theorem dX4_skipFirst_21 : decode cX4_skipFirst 21 = .ok (.aload_n 0, 1) := dk_i kdX4_skipFirst_0 10 rfl
theorem dX4_skipFirst_22 : decode cX4_skipFirst 22 = .ok (.getfield 14, 3) := dk_i kdX4_skipFirst_0 11 rfl
theorem dX4_skipFirst_25 : decode cX4_skipFirst 25 = .ok (.invokevirtual 119, 3) := dk_i kdX4_skipFirst_0 12 rfl
theorem dX4_skipFirst_28 : decode cX4_skipFirst 28 = .ok (.iconst 1, 1) := dk_i kdX4_skipFirst_0 13 rfl
theorem dX4_skipFirst_29 : decode cX4_skipFirst 29 = .ok (.ireturn, 1) := dk_i kdX4_skipFirst_0 14 rfl
def ldX4_readThing_0 : List (Nat × ClassFile.Instr × Nat) := [(0, .aload_n 0, 1), (1, .invokevirtual 122, 3), (4, .istore_n 1, 1), (5, .iload_n 1, 1), (6, .iconst (-1), 1), (7, .if_icmp .eq 16, 3), (10, .aload_n 0, 1), (11, .getfield 14, 3), (14, .sipush 261, 3), (17, .invokevirtual 53, 3), (20, .ifCond .ne 5, 3), (23, .iconst 0, 1), (24, .ireturn, 1), (25, .aload_n 0, 1), (26, .iconst 0, 1), (27, .bipush 99, 2)]
theorem kdX4_readThing_0 : dkO cX4_readThing 0 ldX4_readThing_0 = true := by decide +kernel
theorem dX4_readThing_0 : decode cX4_readThing 0 = .ok (.aload_n 0, 1) := dk_i kdX4_readThing_0 0 rfl
theorem dX4_readThing_1 : decode cX4_readThing 1 = .ok (.invokevirtual 122, 3) := dk_i kdX4_readThing_0 1 rfl
theorem dX4_readThing_4 : decode cX4_readThing 4 = .ok (.istore_n 1, 1) := dk_i kdX4_readThing_0 2 rfl
theorem dX4_readThing_5 : decode cX4_readThing 5 = .ok (.iload_n 1, 1) := dk_i kdX4_readThing_0 3 rfl
theorem dX4_readThing_6 : decode cX4_readThing 6 = .ok (.iconst (-1), 1) := dk_i kdX4_readThing_0 4 rfl
theorem dX4_readThing_7 : decode cX4_readThing 7 = .ok (.if_icmp .eq 16, 3) := dk_i kdX4_readThing_0 5 rfl
theorem dX4_readThing_10 : decode cX4_readThing 10 = .ok (.aload_n 0, 1) := dk_i kdX4_readThing_0 6 rfl
theorem dX4_readThing_11 : decode cX4_readThing 11 = .ok (.getfield 14, 3) := dk_i kdX4_readThing_0 7 rfl
theorem dX4_readThing_14 : decode cX4_readThing 14 = .ok (.sipush 261, 3) := dk_i kdX4_readThing_0 8 rfl
theorem dX4_readThing_17 : decode cX4_readThing 17 = .ok (.invokevirtual 53, 3) := dk_i kdX4_readThing_0 9 rfl
theorem dX4_readThing_20 : decode cX4_readThing 20 = .ok (.ifCond .ne 5, 3) := dk_i kdX4_readThing_0 10 rfl
theorem dX4_readThing_23 : decode cX4_readThing 23 = .ok (.iconst 0, 1) := dk_i kdX4_readThing_0 11 rfl
theorem dX4_readThing_24 : decode cX4_readThing 24 = .ok (.ireturn, 1) := dk_i kdX4_readThing_0 12 rfl
theorem dX4_readThing_25 : decode cX4_readThing 25 = .ok (.aload_n 0, 1) := dk_i kdX4_readThing_0 13 rfl
theorem dX4_readThing_26 : decode cX4_readThing 26 = .ok (.iconst 0, 1) := dk_i kdX4_readThing_0 14 rfl
theorem dX4_readThing_27 : decode cX4_readThing 27 = .ok (.bipush 99, 2) := dk_i kdX4_readThing_0 15 rfl
def ldX4_readThing_29 : List (Nat × ClassFile.Instr × Nat) := [(29, .invokevirtual 126, 3), (32, .istore_n 2, 1), (33, .iload_n 2, 1), (34, .iconst (-1), 1), (35, .if_icmp .eq 16, 3), (38, .aload_n 0, 1), (39, .getfield 14, 3), (42, .sipush 262, 3), (45, .invokevirtual 53, 3), (48, .ifCond .ne 5, 3), (51, .iconst 0, 1), (52, .ireturn, 1), (53, .aload_n 0, 1), (54, .iconst 1, 1), (55, .bipush 99, 2), (57, .invokevirtual 126, 3)]
theorem kdX4_readThing_29 : dkO cX4_readThing 29 ldX4_readThing_29 = true := by decide +kernel
theorem dX4_readThing_29 : decode cX4_readThing 29 = .ok (.invokevirtual 126, 3) := dk_i kdX4_readThing_29 0 rfl
theorem dX4_readThing_32 : decode cX4_readThing 32 = .ok (.istore_n 2, 1) := dk_i kdX4_readThing_29 1 rfl
theorem dX4_readThing_33 : decode cX4_readThing 33 = .ok (.iload_n 2, 1) := dk_i kdX4_readThing_29 2 rfl
theorem dX4_readThing_34 : decode cX4_readThing 34 = .ok (.iconst (-1), 1) := dk_i kdX4_readThing_29 3 rfl
theorem dX4_readThing_35 : decode cX4_readThing 35 = .ok (.if_icmp .eq 16, 3) := dk_i kdX4_readThing_29 4 rfl
theorem dX4_readThing_38 : decode cX4_readThing 38 = .ok (.aload_n 0, 1) := dk_i kdX4_readThing_29 5 rfl
theorem dX4_readThing_39 : decode cX4_readThing 39 = .ok (.getfield 14, 3) := dk_i kdX4_readThing_29 6 rfl
theorem dX4_readThing_42 : decode cX4_readThing 42 = .ok (.sipush 262, 3) := dk_i kdX4_readThing_29 7 rfl
theorem dX4_readThing_45 : decode cX4_readThing 45 = .ok (.invokevirtual 53, 3) := dk_i kdX4_readThing_29 8 rfl
theorem dX4_readThing_48 : decode cX4_readThing 48 = .ok (.ifCond .ne 5, 3) := dk_i kdX4_readThing_29 9 rfl
theorem dX4_readThing_51 : decode cX4_readThing 51 = .ok (.iconst 0, 1) := dk_i kdX4_readThing_29 10 rfl
theorem dX4_readThing_52 : decode cX4_readThing 52 = .ok (.ireturn, 1) := dk_i kdX4_readThing_29 11 rfl
theorem dX4_readThing_53 : decode cX4_readThing 53 = .ok (.aload_n 0, 1) := dk_i kdX4_readThing_29 12 rfl
theorem dX4_readThing_54 : decode cX4_readThing 54 = .ok (.iconst 1, 1) := dk_i kdX4_readThing_29 13 rfl
theorem dX4_readThing_55 : decode cX4_readThing 55 = .ok (.bipush 99, 2) := dk_i kdX4_readThing_29 14 rfl
theorem dX4_readThing_57 : decode cX4_readThing 57 = .ok (.invokevirtual 126, 3) := dk_i kdX4_readThing_29 15 rfl
def ldX4_readThing_60 : List (Nat × ClassFile.Instr × Nat) := [(60, .istore_n 3, 1), (61, .iload_n 3, 1), (62, .iconst (-1), 1), (63, .if_icmp .ne 5, 3), (66, .iconst 0, 1), (67, .ireturn, 1), (68, .aload_n 0, 1), (69, .getfield 35, 3), (72, .iload_n 1, 1), (73, .iload_n 2, 1), (74, .iload_n 3, 1), (75, .invokevirtual 130, 3), (78, .iconst 1, 1), (79, .ireturn, 1)]
theorem kdX4_readThing_60 : dkO cX4_readThing 60 ldX4_readThing_60 = true := by decide +kernel
theorem dX4_readThing_60 : decode cX4_readThing 60 = .ok (.istore_n 3, 1) := dk_i kdX4_readThing_60 0 rfl
theorem dX4_readThing_61 : decode cX4_readThing 61 = .ok (.iload_n 3, 1) := dk_i kdX4_readThing_60 1 rfl
theorem dX4_readThing_62 : decode cX4_readThing 62 = .ok (.iconst (-1), 1) := dk_i kdX4_readThing_60 2 rfl
theorem dX4_readThing_63 : decode cX4_readThing 63 = .ok (.if_icmp .ne 5, 3) := dk_i kdX4_readThing_60 3 rfl
theorem dX4_readThing_66 : decode cX4_readThing 66 = .ok (.iconst 0, 1) := dk_i kdX4_readThing_60 4 rfl
theorem dX4_readThing_67 : decode cX4_readThing 67 = .ok (.ireturn, 1) := dk_i kdX4_readThing_60 5 rfl
theorem dX4_readThing_68 : decode cX4_readThing 68 = .ok (.aload_n 0, 1) := dk_i kdX4_readThing_60 6 rfl
theorem dX4_readThing_69 : decode cX4_readThing 69 = .ok (.getfield 35, 3) := dk_i kdX4_readThing_60 7 rfl
theorem dX4_readThing_72 : decode cX4_readThing 72 = .ok (.iload_n 1, 1) := dk_i kdX4_readThing_60 8 rfl
theorem dX4_readThing_73 : decode cX4_readThing 73 = .ok (.iload_n 2, 1) := dk_i kdX4_readThing_60 9 rfl
theorem dX4_readThing_74 : decode cX4_readThing 74 = .ok (.iload_n 3, 1) := dk_i kdX4_readThing_60 10 rfl
theorem dX4_readThing_75 : decode cX4_readThing 75 = .ok (.invokevirtual 130, 3) := dk_i kdX4_readThing_60 11 rfl
theorem dX4_readThing_78 : decode cX4_readThing 78 = .ok (.iconst 1, 1) := dk_i kdX4_readThing_60 12 rfl
theorem dX4_readThing_79 : decode cX4_readThing 79 = .ok (.ireturn, 1) := dk_i kdX4_readThing_60 13 rfl
def ldX4_readCorner_0 : List (Nat × ClassFile.Instr × Nat) := [(0, .aload_n 0, 1), (1, .invokevirtual 122, 3), (4, .istore_n 1, 1), (5, .iload_n 1, 1), (6, .iconst (-1), 1), (7, .if_icmp .ne 5, 3), (10, .iconst 0, 1), (11, .ireturn, 1), (12, .aload_n 0, 1), (13, .getfield 35, 3), (16, .iload_n 1, 1), (17, .invokevirtual 134, 3), (20, .iconst 1, 1), (21, .ireturn, 1)]
theorem kdX4_readCorner_0 : dkO cX4_readCorner 0 ldX4_readCorner_0 = true := by decide +kernel
theorem dX4_readCorner_0 : decode cX4_readCorner 0 = .ok (.aload_n 0, 1) := dk_i kdX4_readCorner_0 0 rfl
theorem dX4_readCorner_1 : decode cX4_readCorner 1 = .ok (.invokevirtual 122, 3) := dk_i kdX4_readCorner_0 1 rfl
theorem dX4_readCorner_4 : decode cX4_readCorner 4 = .ok (.istore_n 1, 1) := dk_i kdX4_readCorner_0 2 rfl
theorem dX4_readCorner_5 : decode cX4_readCorner 5 = .ok (.iload_n 1, 1) := dk_i kdX4_readCorner_0 3 rfl
theorem dX4_readCorner_6 : decode cX4_readCorner 6 = .ok (.iconst (-1), 1) := dk_i kdX4_readCorner_0 4 rfl
theorem dX4_readCorner_7 : decode cX4_readCorner 7 = .ok (.if_icmp .ne 5, 3) := dk_i kdX4_readCorner_0 5 rfl
theorem dX4_readCorner_10 : decode cX4_readCorner 10 = .ok (.iconst 0, 1) := dk_i kdX4_readCorner_0 6 rfl
theorem dX4_readCorner_11 : decode cX4_readCorner 11 = .ok (.ireturn, 1) := dk_i kdX4_readCorner_0 7 rfl
theorem dX4_readCorner_12 : decode cX4_readCorner 12 = .ok (.aload_n 0, 1) := dk_i kdX4_readCorner_0 8 rfl
theorem dX4_readCorner_13 : decode cX4_readCorner 13 = .ok (.getfield 35, 3) := dk_i kdX4_readCorner_0 9 rfl
theorem dX4_readCorner_16 : decode cX4_readCorner 16 = .ok (.iload_n 1, 1) := dk_i kdX4_readCorner_0 10 rfl
theorem dX4_readCorner_17 : decode cX4_readCorner 17 = .ok (.invokevirtual 134, 3) := dk_i kdX4_readCorner_0 11 rfl
theorem dX4_readCorner_20 : decode cX4_readCorner 20 = .ok (.iconst 1, 1) := dk_i kdX4_readCorner_0 12 rfl
theorem dX4_readCorner_21 : decode cX4_readCorner 21 = .ok (.ireturn, 1) := dk_i kdX4_readCorner_0 13 rfl
def ldX4_readRoad_0 : List (Nat × ClassFile.Instr × Nat) := [(0, .aload_n 0, 1), (1, .invokevirtual 138, 3), (4, .istore_n 1, 1), (5, .iload_n 1, 1), (6, .iconst (-1), 1), (7, .if_icmp .ne 5, 3), (10, .iconst 0, 1), (11, .ireturn, 1), (12, .aload_n 0, 1), (13, .getfield 14, 3), (16, .invokevirtual 119, 3), (19, .aload_n 0, 1), (20, .getfield 14, 3), (23, .sipush 265, 3), (26, .invokevirtual 53, 3), (29, .ifCond .ne 5, 3)]
theorem kdX4_readRoad_0 : dkO cX4_readRoad 0 ldX4_readRoad_0 = true := by decide +kernel
theorem dX4_readRoad_0 : decode cX4_readRoad 0 = .ok (.aload_n 0, 1) := dk_i kdX4_readRoad_0 0 rfl
theorem dX4_readRoad_1 : decode cX4_readRoad 1 = .ok (.invokevirtual 138, 3) := dk_i kdX4_readRoad_0 1 rfl
theorem dX4_readRoad_4 : decode cX4_readRoad 4 = .ok (.istore_n 1, 1) := dk_i kdX4_readRoad_0 2 rfl
theorem dX4_readRoad_5 : decode cX4_readRoad 5 = .ok (.iload_n 1, 1) := dk_i kdX4_readRoad_0 3 rfl
theorem dX4_readRoad_6 : decode cX4_readRoad 6 = .ok (.iconst (-1), 1) := dk_i kdX4_readRoad_0 4 rfl
theorem dX4_readRoad_7 : decode cX4_readRoad 7 = .ok (.if_icmp .ne 5, 3) := dk_i kdX4_readRoad_0 5 rfl
theorem dX4_readRoad_10 : decode cX4_readRoad 10 = .ok (.iconst 0, 1) := dk_i kdX4_readRoad_0 6 rfl
theorem dX4_readRoad_11 : decode cX4_readRoad 11 = .ok (.ireturn, 1) := dk_i kdX4_readRoad_0 7 rfl
theorem dX4_readRoad_12 : decode cX4_readRoad 12 = .ok (.aload_n 0, 1) := dk_i kdX4_readRoad_0 8 rfl
theorem dX4_readRoad_13 : decode cX4_readRoad 13 = .ok (.getfield 14, 3) := dk_i kdX4_readRoad_0 9 rfl
theorem dX4_readRoad_16 : decode cX4_readRoad 16 = .ok (.invokevirtual 119, 3) := dk_i kdX4_readRoad_0 10 rfl
theorem dX4_readRoad_19 : decode cX4_readRoad 19 = .ok (.aload_n 0, 1) := dk_i kdX4_readRoad_0 11 rfl
theorem dX4_readRoad_20 : decode cX4_readRoad 20 = .ok (.getfield 14, 3) := dk_i kdX4_readRoad_0 12 rfl
theorem dX4_readRoad_23 : decode cX4_readRoad 23 = .ok (.sipush 265, 3) := dk_i kdX4_readRoad_0 13 rfl
theorem dX4_readRoad_26 : decode cX4_readRoad 26 = .ok (.invokevirtual 53, 3) := dk_i kdX4_readRoad_0 14 rfl
theorem dX4_readRoad_29 : decode cX4_readRoad 29 = .ok (.ifCond .ne 5, 3) := dk_i kdX4_readRoad_0 15 rfl
def ldX4_readRoad_32 : List (Nat × ClassFile.Instr × Nat) := [(32, .iconst 0, 1), (33, .ireturn, 1), (34, .aload_n 0, 1), (35, .invokevirtual 138, 3), (38, .istore_n 2, 1), (39, .iload_n 2, 1), (40, .iconst (-1), 1), (41, .if_icmp .ne 5, 3), (44, .iconst 0, 1), (45, .ireturn, 1), (46, .iload_n 2, 1), (47, .iload_n 1, 1), (48, .if_icmp .eq 15, 3), (51, .aload_n 0, 1), (52, .getfield 35, 3), (55, .iload_n 1, 1)]
theorem kdX4_readRoad_32 : dkO cX4_readRoad 32 ldX4_readRoad_32 = true := by decide +kernel
theorem dX4_readRoad_32 : decode cX4_readRoad 32 = .ok (.iconst 0, 1) := dk_i kdX4_readRoad_32 0 rfl
theorem dX4_readRoad_33 : decode cX4_readRoad 33 = .ok (.ireturn, 1) := dk_i kdX4_readRoad_32 1 rfl
theorem dX4_readRoad_34 : decode cX4_readRoad 34 = .ok (.aload_n 0, 1) := dk_i kdX4_readRoad_32 2 rfl
theorem dX4_readRoad_35 : decode cX4_readRoad 35 = .ok (.invokevirtual 138, 3) := dk_i kdX4_readRoad_32 3 rfl
theorem dX4_readRoad_38 : decode cX4_readRoad 38 = .ok (.istore_n 2, 1) := dk_i kdX4_readRoad_32 4 rfl
theorem dX4_readRoad_39 : decode cX4_readRoad 39 = .ok (.iload_n 2, 1) := dk_i kdX4_readRoad_32 5 rfl
theorem dX4_readRoad_40 : decode cX4_readRoad 40 = .ok (.iconst (-1), 1) := dk_i kdX4_readRoad_32 6 rfl
theorem dX4_readRoad_41 : decode cX4_readRoad 41 = .ok (.if_icmp .ne 5, 3) := dk_i kdX4_readRoad_32 7 rfl
theorem dX4_readRoad_44 : decode cX4_readRoad 44 = .ok (.iconst 0, 1) := dk_i kdX4_readRoad_32 8 rfl
theorem dX4_readRoad_45 : decode cX4_readRoad 45 = .ok (.ireturn, 1) := dk_i kdX4_readRoad_32 9 rfl
theorem dX4_readRoad_46 : decode cX4_readRoad 46 = .ok (.iload_n 2, 1) := dk_i kdX4_readRoad_32 10 rfl
theorem dX4_readRoad_47 : decode cX4_readRoad 47 = .ok (.iload_n 1, 1) := dk_i kdX4_readRoad_32 11 rfl
theorem dX4_readRoad_48 : decode cX4_readRoad 48 = .ok (.if_icmp .eq 15, 3) := dk_i kdX4_readRoad_32 12 rfl
theorem dX4_readRoad_51 : decode cX4_readRoad 51 = .ok (.aload_n 0, 1) := dk_i kdX4_readRoad_32 13 rfl
theorem dX4_readRoad_52 : decode cX4_readRoad 52 = .ok (.getfield 35, 3) := dk_i kdX4_readRoad_32 14 rfl
theorem dX4_readRoad_55 : decode cX4_readRoad 55 = .ok (.iload_n 1, 1) := dk_i kdX4_readRoad_32 15 rfl
def ldX4_readRoad_56 : List (Nat × ClassFile.Instr × Nat) := [(56, .iload_n 2, 1), (57, .invokevirtual 141, 3), (60, .ifCond .eq 19, 3), (63, .aload_n 0, 1), (64, .getfield 14, 3), (67, .iconst 3, 1), (68, .aload_n 0, 1), (69, .getfield 14, 3), (72, .getfield 60, 3), (75, .invokevirtual 63, 3), (78, .ireturn, 1), (79, .aload_n 0, 1), (80, .getfield 14, 3), (83, .invokevirtual 119, 3), (86, .aload_n 0, 1), (87, .getfield 14, 3)]
theorem kdX4_readRoad_56 : dkO cX4_readRoad 56 ldX4_readRoad_56 = true := by decide +kernel
theorem dX4_readRoad_56 : decode cX4_readRoad 56 = .ok (.iload_n 2, 1) := dk_i kdX4_readRoad_56 0 rfl
theorem dX4_readRoad_57 : decode cX4_readRoad 57 = .ok (.invokevirtual 141, 3) := dk_i kdX4_readRoad_56 1 rfl
theorem dX4_readRoad_60 : decode cX4_readRoad 60 = .ok (.ifCond .eq 19, 3) := dk_i kdX4_readRoad_56 2 rfl
theorem dX4_readRoad_63 : decode cX4_readRoad 63 = .ok (.aload_n 0, 1) := dk_i kdX4_readRoad_56 3 rfl
theorem dX4_readRoad_64 : decode cX4_readRoad 64 = .ok (.getfield 14, 3) := dk_i kdX4_readRoad_56 4 rfl
theorem dX4_readRoad_67 : decode cX4_readRoad 67 = .ok (.iconst 3, 1) := dk_i kdX4_readRoad_56 5 rfl
theorem dX4_readRoad_68 : decode cX4_readRoad 68 = .ok (.aload_n 0, 1) := dk_i kdX4_readRoad_56 6 rfl
theorem dX4_readRoad_69 : decode cX4_readRoad 69 = .ok (.getfield 14, 3) := dk_i kdX4_readRoad_56 7 rfl
theorem dX4_readRoad_72 : decode cX4_readRoad 72 = .ok (.getfield 60, 3) := dk_i kdX4_readRoad_56 8 rfl
theorem dX4_readRoad_75 : decode cX4_readRoad 75 = .ok (.invokevirtual 63, 3) := dk_i kdX4_readRoad_56 9 rfl
theorem dX4_readRoad_78 : decode cX4_readRoad 78 = .ok (.ireturn, 1) := dk_i kdX4_readRoad_56 10 rfl
theorem dX4_readRoad_79 : decode cX4_readRoad 79 = .ok (.aload_n 0, 1) := dk_i kdX4_readRoad_56 11 rfl
theorem dX4_readRoad_80 : decode cX4_readRoad 80 = .ok (.getfield 14, 3) := dk_i kdX4_readRoad_56 12 rfl
theorem dX4_readRoad_83 : decode cX4_readRoad 83 = .ok (.invokevirtual 119, 3) := dk_i kdX4_readRoad_56 13 rfl
theorem dX4_readRoad_86 : decode cX4_readRoad 86 = .ok (.aload_n 0, 1) := dk_i kdX4_readRoad_56 14 rfl
theorem dX4_readRoad_87 : decode cX4_readRoad 87 = .ok (.getfield 14, 3) := dk_i kdX4_readRoad_56 15 rfl
def ldX4_readRoad_90 : List (Nat × ClassFile.Instr × Nat) := [(90, .sipush 266, 3), (93, .invokevirtual 53, 3), (96, .ifCond .eq 13, 3), (99, .aload_n 0, 1), (100, .iconst 1, 1), (101, .bipush 30, 2), (103, .invokevirtual 126, 3), (106, .goto 4, 3), (109, .iconst (-1), 1), (110, .istore_n 3, 1), (111, .iload_n 3, 1), (112, .iconst (-1), 1), (113, .if_icmp .ne 5, 3), (116, .iconst 0, 1), (117, .ireturn, 1), (118, .aload_n 0, 1)]
theorem kdX4_readRoad_90 : dkO cX4_readRoad 90 ldX4_readRoad_90 = true := by decide +kernel
theorem dX4_readRoad_90 : decode cX4_readRoad 90 = .ok (.sipush 266, 3) := dk_i kdX4_readRoad_90 0 rfl
theorem dX4_readRoad_93 : decode cX4_readRoad 93 = .ok (.invokevirtual 53, 3) := dk_i kdX4_readRoad_90 1 rfl
theorem dX4_readRoad_96 : decode cX4_readRoad 96 = .ok (.ifCond .eq 13, 3) := dk_i kdX4_readRoad_90 2 rfl
theorem dX4_readRoad_99 : decode cX4_readRoad 99 = .ok (.aload_n 0, 1) := dk_i kdX4_readRoad_90 3 rfl
theorem dX4_readRoad_100 : decode cX4_readRoad 100 = .ok (.iconst 1, 1) := dk_i kdX4_readRoad_90 4 rfl
theorem dX4_readRoad_101 : decode cX4_readRoad 101 = .ok (.bipush 30, 2) := dk_i kdX4_readRoad_90 5 rfl
theorem dX4_readRoad_103 : decode cX4_readRoad 103 = .ok (.invokevirtual 126, 3) := dk_i kdX4_readRoad_90 6 rfl
theorem dX4_readRoad_106 : decode cX4_readRoad 106 = .ok (.goto 4, 3) := dk_i kdX4_readRoad_90 7 rfl
theorem dX4_readRoad_109 : decode cX4_readRoad 109 = .ok (.iconst (-1), 1) := dk_i kdX4_readRoad_90 8 rfl
theorem dX4_readRoad_110 : decode cX4_readRoad 110 = .ok (.istore_n 3, 1) := dk_i kdX4_readRoad_90 9 rfl
theorem dX4_readRoad_111 : decode cX4_readRoad 111 = .ok (.iload_n 3, 1) := dk_i kdX4_readRoad_90 10 rfl
theorem dX4_readRoad_112 : decode cX4_readRoad 112 = .ok (.iconst (-1), 1) := dk_i kdX4_readRoad_90 11 rfl
theorem dX4_readRoad_113 : decode cX4_readRoad 113 = .ok (.if_icmp .ne 5, 3) := dk_i kdX4_readRoad_90 12 rfl
theorem dX4_readRoad_116 : decode cX4_readRoad 116 = .ok (.iconst 0, 1) := dk_i kdX4_readRoad_90 13 rfl
theorem dX4_readRoad_117 : decode cX4_readRoad 117 = .ok (.ireturn, 1) := dk_i kdX4_readRoad_90 14 rfl
theorem dX4_readRoad_118 : decode cX4_readRoad 118 = .ok (.aload_n 0, 1) := dk_i kdX4_readRoad_90 15 rfl
def ldX4_readRoad_119 : List (Nat × ClassFile.Instr × Nat) := [(119, .getfield 35, 3), (122, .iload_n 1, 1), (123, .iload_n 2, 1), (124, .iload_n 3, 1), (125, .invokevirtual 144, 3), (128, .iconst 1, 1), (129, .ireturn, 1)]
theorem kdX4_readRoad_119 : dkO cX4_readRoad 119 ldX4_readRoad_119 = true := by decide +kernel
theorem dX4_readRoad_119 : decode cX4_readRoad 119 = .ok (.getfield 35, 3) := dk_i kdX4_readRoad_119 0 rfl
theorem dX4_readRoad_122 : decode cX4_readRoad 122 = .ok (.iload_n 1, 1) := dk_i kdX4_readRoad_119 1 rfl
theorem dX4_readRoad_123 : decode cX4_readRoad 123 = .ok (.iload_n 2, 1) := dk_i kdX4_readRoad_119 2 rfl
theorem dX4_readRoad_124 : decode cX4_readRoad 124 = .ok (.iload_n 3, 1) := dk_i kdX4_readRoad_119 3 rfl
theorem dX4_readRoad_125 : decode cX4_readRoad 125 = .ok (.invokevirtual 144, 3) := dk_i kdX4_readRoad_119 4 rfl
theorem dX4_readRoad_128 : decode cX4_readRoad 128 = .ok (.iconst 1, 1) := dk_i kdX4_readRoad_119 5 rfl
theorem dX4_readRoad_129 : decode cX4_readRoad 129 = .ok (.ireturn, 1) := dk_i kdX4_readRoad_119 6 rfl
def ldX4_readPalm_0 : List (Nat × ClassFile.Instr × Nat) := [(0, .aload_n 0, 1), (1, .invokevirtual 138, 3), (4, .istore_n 1, 1), (5, .iload_n 1, 1), (6, .iconst (-1), 1), (7, .if_icmp .ne 5, 3), (10, .iconst 0, 1), (11, .ireturn, 1), (12, .aload_n 0, 1), (13, .getfield 35, 3), (16, .getfield 147, 3), (19, .iload_n 1, 1), (20, .iaload, 1), (21, .iconst (-1), 1), (22, .if_icmp .eq 19, 3), (25, .aload_n 0, 1)]
theorem kdX4_readPalm_0 : dkO cX4_readPalm 0 ldX4_readPalm_0 = true := by decide +kernel
theorem dX4_readPalm_0 : decode cX4_readPalm 0 = .ok (.aload_n 0, 1) := dk_i kdX4_readPalm_0 0 rfl
theorem dX4_readPalm_1 : decode cX4_readPalm 1 = .ok (.invokevirtual 138, 3) := dk_i kdX4_readPalm_0 1 rfl
theorem dX4_readPalm_4 : decode cX4_readPalm 4 = .ok (.istore_n 1, 1) := dk_i kdX4_readPalm_0 2 rfl
theorem dX4_readPalm_5 : decode cX4_readPalm 5 = .ok (.iload_n 1, 1) := dk_i kdX4_readPalm_0 3 rfl
theorem dX4_readPalm_6 : decode cX4_readPalm 6 = .ok (.iconst (-1), 1) := dk_i kdX4_readPalm_0 4 rfl
theorem dX4_readPalm_7 : decode cX4_readPalm 7 = .ok (.if_icmp .ne 5, 3) := dk_i kdX4_readPalm_0 5 rfl
theorem dX4_readPalm_10 : decode cX4_readPalm 10 = .ok (.iconst 0, 1) := dk_i kdX4_readPalm_0 6 rfl
theorem dX4_readPalm_11 : decode cX4_readPalm 11 = .ok (.ireturn, 1) := dk_i kdX4_readPalm_0 7 rfl
theorem dX4_readPalm_12 : decode cX4_readPalm 12 = .ok (.aload_n 0, 1) := dk_i kdX4_readPalm_0 8 rfl
theorem dX4_readPalm_13 : decode cX4_readPalm 13 = .ok (.getfield 35, 3) := dk_i kdX4_readPalm_0 9 rfl
theorem dX4_readPalm_16 : decode cX4_readPalm 16 = .ok (.getfield 147, 3) := dk_i kdX4_readPalm_0 10 rfl
theorem dX4_readPalm_19 : decode cX4_readPalm 19 = .ok (.iload_n 1, 1) := dk_i kdX4_readPalm_0 11 rfl
theorem dX4_readPalm_20 : decode cX4_readPalm 20 = .ok (.iaload, 1) := dk_i kdX4_readPalm_0 12 rfl
theorem dX4_readPalm_21 : decode cX4_readPalm 21 = .ok (.iconst (-1), 1) := dk_i kdX4_readPalm_0 13 rfl
theorem dX4_readPalm_22 : decode cX4_readPalm 22 = .ok (.if_icmp .eq 19, 3) := dk_i kdX4_readPalm_0 14 rfl
theorem dX4_readPalm_25 : decode cX4_readPalm 25 = .ok (.aload_n 0, 1) := dk_i kdX4_readPalm_0 15 rfl
def ldX4_readPalm_26 : List (Nat × ClassFile.Instr × Nat) := [(26, .getfield 14, 3), (29, .iconst 3, 1), (30, .aload_n 0, 1), (31, .getfield 14, 3), (34, .getfield 60, 3), (37, .invokevirtual 63, 3), (40, .ireturn, 1), (41, .aload_n 0, 1), (42, .getfield 14, 3), (45, .invokevirtual 119, 3), (48, .aload_n 0, 1), (49, .getfield 14, 3), (52, .sipush 268, 3), (55, .invokevirtual 53, 3), (58, .ifCond .ne 5, 3), (61, .iconst 0, 1)]
theorem kdX4_readPalm_26 : dkO cX4_readPalm 26 ldX4_readPalm_26 = true := by decide +kernel
theorem dX4_readPalm_26 : decode cX4_readPalm 26 = .ok (.getfield 14, 3) := dk_i kdX4_readPalm_26 0 rfl
theorem dX4_readPalm_29 : decode cX4_readPalm 29 = .ok (.iconst 3, 1) := dk_i kdX4_readPalm_26 1 rfl
theorem dX4_readPalm_30 : decode cX4_readPalm 30 = .ok (.aload_n 0, 1) := dk_i kdX4_readPalm_26 2 rfl
theorem dX4_readPalm_31 : decode cX4_readPalm 31 = .ok (.getfield 14, 3) := dk_i kdX4_readPalm_26 3 rfl
theorem dX4_readPalm_34 : decode cX4_readPalm 34 = .ok (.getfield 60, 3) := dk_i kdX4_readPalm_26 4 rfl
theorem dX4_readPalm_37 : decode cX4_readPalm 37 = .ok (.invokevirtual 63, 3) := dk_i kdX4_readPalm_26 5 rfl
theorem dX4_readPalm_40 : decode cX4_readPalm 40 = .ok (.ireturn, 1) := dk_i kdX4_readPalm_26 6 rfl
theorem dX4_readPalm_41 : decode cX4_readPalm 41 = .ok (.aload_n 0, 1) := dk_i kdX4_readPalm_26 7 rfl
theorem dX4_readPalm_42 : decode cX4_readPalm 42 = .ok (.getfield 14, 3) := dk_i kdX4_readPalm_26 8 rfl
theorem dX4_readPalm_45 : decode cX4_readPalm 45 = .ok (.invokevirtual 119, 3) := dk_i kdX4_readPalm_26 9 rfl
theorem dX4_readPalm_48 : decode cX4_readPalm 48 = .ok (.aload_n 0, 1) := dk_i kdX4_readPalm_26 10 rfl
theorem dX4_readPalm_49 : decode cX4_readPalm 49 = .ok (.getfield 14, 3) := dk_i kdX4_readPalm_26 11 rfl
theorem dX4_readPalm_52 : decode cX4_readPalm 52 = .ok (.sipush 268, 3) := dk_i kdX4_readPalm_26 12 rfl
theorem dX4_readPalm_55 : decode cX4_readPalm 55 = .ok (.invokevirtual 53, 3) := dk_i kdX4_readPalm_26 13 rfl
theorem dX4_readPalm_58 : decode cX4_readPalm 58 = .ok (.ifCond .ne 5, 3) := dk_i kdX4_readPalm_26 14 rfl
theorem dX4_readPalm_61 : decode cX4_readPalm 61 = .ok (.iconst 0, 1) := dk_i kdX4_readPalm_26 15 rfl
def ldX4_readPalm_62 : List (Nat × ClassFile.Instr × Nat) := [(62, .ireturn, 1), (63, .aload_n 0, 1), (64, .getfield 14, 3), (67, .getfield 45, 3), (70, .sipush 257, 3), (73, .if_icmp .eq 11, 3), (76, .aload_n 0, 1), (77, .getfield 14, 3), (80, .invokevirtual 116, 3), (83, .ireturn, 1), (84, .aload_n 0, 1), (85, .getfield 35, 3), (88, .aload_n 0, 1), (89, .getfield 14, 3), (92, .getfield 151, 3), (95, .invokevirtual 154, 3)]
theorem kdX4_readPalm_62 : dkO cX4_readPalm 62 ldX4_readPalm_62 = true := by decide +kernel
theorem dX4_readPalm_62 : decode cX4_readPalm 62 = .ok (.ireturn, 1) := dk_i kdX4_readPalm_62 0 rfl
theorem dX4_readPalm_63 : decode cX4_readPalm 63 = .ok (.aload_n 0, 1) := dk_i kdX4_readPalm_62 1 rfl
theorem dX4_readPalm_64 : decode cX4_readPalm 64 = .ok (.getfield 14, 3) := dk_i kdX4_readPalm_62 2 rfl
theorem dX4_readPalm_67 : decode cX4_readPalm 67 = .ok (.getfield 45, 3) := dk_i kdX4_readPalm_62 3 rfl
theorem dX4_readPalm_70 : decode cX4_readPalm 70 = .ok (.sipush 257, 3) := dk_i kdX4_readPalm_62 4 rfl
theorem dX4_readPalm_73 : decode cX4_readPalm 73 = .ok (.if_icmp .eq 11, 3) := dk_i kdX4_readPalm_62 5 rfl
theorem dX4_readPalm_76 : decode cX4_readPalm 76 = .ok (.aload_n 0, 1) := dk_i kdX4_readPalm_62 6 rfl
theorem dX4_readPalm_77 : decode cX4_readPalm 77 = .ok (.getfield 14, 3) := dk_i kdX4_readPalm_62 7 rfl
theorem dX4_readPalm_80 : decode cX4_readPalm 80 = .ok (.invokevirtual 116, 3) := dk_i kdX4_readPalm_62 8 rfl
theorem dX4_readPalm_83 : decode cX4_readPalm 83 = .ok (.ireturn, 1) := dk_i kdX4_readPalm_62 9 rfl
theorem dX4_readPalm_84 : decode cX4_readPalm 84 = .ok (.aload_n 0, 1) := dk_i kdX4_readPalm_62 10 rfl
theorem dX4_readPalm_85 : decode cX4_readPalm 85 = .ok (.getfield 35, 3) := dk_i kdX4_readPalm_62 11 rfl
theorem dX4_readPalm_88 : decode cX4_readPalm 88 = .ok (.aload_n 0, 1) := dk_i kdX4_readPalm_62 12 rfl
theorem dX4_readPalm_89 : decode cX4_readPalm 89 = .ok (.getfield 14, 3) := dk_i kdX4_readPalm_62 13 rfl
theorem dX4_readPalm_92 : decode cX4_readPalm 92 = .ok (.getfield 151, 3) := dk_i kdX4_readPalm_62 14 rfl
theorem dX4_readPalm_95 : decode cX4_readPalm 95 = .ok (.invokevirtual 154, 3) := dk_i kdX4_readPalm_62 15 rfl
def ldX4_readPalm_98 : List (Nat × ClassFile.Instr × Nat) := [(98, .istore_n 2, 1), (99, .iload_n 2, 1), (100, .iconst (-1), 1), (101, .if_icmp .ne 19, 3), (104, .aload_n 0, 1), (105, .getfield 14, 3), (108, .iconst 3, 1), (109, .aload_n 0, 1), (110, .getfield 14, 3), (113, .getfield 60, 3), (116, .invokevirtual 63, 3), (119, .ireturn, 1), (120, .aload_n 0, 1), (121, .getfield 14, 3), (124, .invokevirtual 119, 3), (127, .aload_n 0, 1)]
theorem kdX4_readPalm_98 : dkO cX4_readPalm 98 ldX4_readPalm_98 = true := by decide +kernel
theorem dX4_readPalm_98 : decode cX4_readPalm 98 = .ok (.istore_n 2, 1) := dk_i kdX4_readPalm_98 0 rfl
theorem dX4_readPalm_99 : decode cX4_readPalm 99 = .ok (.iload_n 2, 1) := dk_i kdX4_readPalm_98 1 rfl
theorem dX4_readPalm_100 : decode cX4_readPalm 100 = .ok (.iconst (-1), 1) := dk_i kdX4_readPalm_98 2 rfl
theorem dX4_readPalm_101 : decode cX4_readPalm 101 = .ok (.if_icmp .ne 19, 3) := dk_i kdX4_readPalm_98 3 rfl
theorem dX4_readPalm_104 : decode cX4_readPalm 104 = .ok (.aload_n 0, 1) := dk_i kdX4_readPalm_98 4 rfl
theorem dX4_readPalm_105 : decode cX4_readPalm 105 = .ok (.getfield 14, 3) := dk_i kdX4_readPalm_98 5 rfl
theorem dX4_readPalm_108 : decode cX4_readPalm 108 = .ok (.iconst 3, 1) := dk_i kdX4_readPalm_98 6 rfl
theorem dX4_readPalm_109 : decode cX4_readPalm 109 = .ok (.aload_n 0, 1) := dk_i kdX4_readPalm_98 7 rfl
theorem dX4_readPalm_110 : decode cX4_readPalm 110 = .ok (.getfield 14, 3) := dk_i kdX4_readPalm_98 8 rfl
theorem dX4_readPalm_113 : decode cX4_readPalm 113 = .ok (.getfield 60, 3) := dk_i kdX4_readPalm_98 9 rfl
theorem dX4_readPalm_116 : decode cX4_readPalm 116 = .ok (.invokevirtual 63, 3) := dk_i kdX4_readPalm_98 10 rfl
theorem dX4_readPalm_119 : decode cX4_readPalm 119 = .ok (.ireturn, 1) := dk_i kdX4_readPalm_98 11 rfl
theorem dX4_readPalm_120 : decode cX4_readPalm 120 = .ok (.aload_n 0, 1) := dk_i kdX4_readPalm_98 12 rfl
theorem dX4_readPalm_121 : decode cX4_readPalm 121 = .ok (.getfield 14, 3) := dk_i kdX4_readPalm_98 13 rfl
theorem dX4_readPalm_124 : decode cX4_readPalm 124 = .ok (.invokevirtual 119, 3) := dk_i kdX4_readPalm_98 14 rfl
theorem dX4_readPalm_127 : decode cX4_readPalm 127 = .ok (.aload_n 0, 1) := dk_i kdX4_readPalm_98 15 rfl
def ldX4_readPalm_128 : List (Nat × ClassFile.Instr × Nat) := [(128, .getfield 35, 3), (131, .getfield 147, 3), (134, .iload_n 1, 1), (135, .iload_n 2, 1), (136, .iastore, 1), (137, .iconst 1, 1), (138, .ireturn, 1)]
theorem kdX4_readPalm_128 : dkO cX4_readPalm 128 ldX4_readPalm_128 = true := by decide +kernel
theorem dX4_readPalm_128 : decode cX4_readPalm 128 = .ok (.getfield 35, 3) := dk_i kdX4_readPalm_128 0 rfl
theorem dX4_readPalm_131 : decode cX4_readPalm 131 = .ok (.getfield 147, 3) := dk_i kdX4_readPalm_128 1 rfl
theorem dX4_readPalm_134 : decode cX4_readPalm 134 = .ok (.iload_n 1, 1) := dk_i kdX4_readPalm_128 2 rfl
theorem dX4_readPalm_135 : decode cX4_readPalm 135 = .ok (.iload_n 2, 1) := dk_i kdX4_readPalm_128 3 rfl
theorem dX4_readPalm_136 : decode cX4_readPalm 136 = .ok (.iastore, 1) := dk_i kdX4_readPalm_128 4 rfl
theorem dX4_readPalm_137 : decode cX4_readPalm 137 = .ok (.iconst 1, 1) := dk_i kdX4_readPalm_128 5 rfl
theorem dX4_readPalm_138 : decode cX4_readPalm 138 = .ok (.ireturn, 1) := dk_i kdX4_readPalm_128 6 rfl
def ldX4_readDoing_0 : List (Nat × ClassFile.Instr × Nat) := [(0, .aload_n 0, 1), (1, .invokevirtual 122, 3), (4, .istore_n 1, 1), (5, .iload_n 1, 1), (6, .iconst (-1), 1), (7, .if_icmp .eq 16, 3), (10, .aload_n 0, 1), (11, .getfield 14, 3), (14, .sipush 270, 3), (17, .invokevirtual 53, 3), (20, .ifCond .ne 5, 3), (23, .iconst 0, 1), (24, .ireturn, 1), (25, .aload_n 0, 1), (26, .invokevirtual 138, 3), (29, .istore_n 2, 1)]
theorem kdX4_readDoing_0 : dkO cX4_readDoing 0 ldX4_readDoing_0 = true := by decide +kernel
theorem dX4_readDoing_0 : decode cX4_readDoing 0 = .ok (.aload_n 0, 1) := dk_i kdX4_readDoing_0 0 rfl
theorem dX4_readDoing_1 : decode cX4_readDoing 1 = .ok (.invokevirtual 122, 3) := dk_i kdX4_readDoing_0 1 rfl
theorem dX4_readDoing_4 : decode cX4_readDoing 4 = .ok (.istore_n 1, 1) := dk_i kdX4_readDoing_0 2 rfl
theorem dX4_readDoing_5 : decode cX4_readDoing 5 = .ok (.iload_n 1, 1) := dk_i kdX4_readDoing_0 3 rfl
theorem dX4_readDoing_6 : decode cX4_readDoing 6 = .ok (.iconst (-1), 1) := dk_i kdX4_readDoing_0 4 rfl
theorem dX4_readDoing_7 : decode cX4_readDoing 7 = .ok (.if_icmp .eq 16, 3) := dk_i kdX4_readDoing_0 5 rfl
theorem dX4_readDoing_10 : decode cX4_readDoing 10 = .ok (.aload_n 0, 1) := dk_i kdX4_readDoing_0 6 rfl
theorem dX4_readDoing_11 : decode cX4_readDoing 11 = .ok (.getfield 14, 3) := dk_i kdX4_readDoing_0 7 rfl
theorem dX4_readDoing_14 : decode cX4_readDoing 14 = .ok (.sipush 270, 3) := dk_i kdX4_readDoing_0 8 rfl
theorem dX4_readDoing_17 : decode cX4_readDoing 17 = .ok (.invokevirtual 53, 3) := dk_i kdX4_readDoing_0 9 rfl
theorem dX4_readDoing_20 : decode cX4_readDoing 20 = .ok (.ifCond .ne 5, 3) := dk_i kdX4_readDoing_0 10 rfl
theorem dX4_readDoing_23 : decode cX4_readDoing 23 = .ok (.iconst 0, 1) := dk_i kdX4_readDoing_0 11 rfl
theorem dX4_readDoing_24 : decode cX4_readDoing 24 = .ok (.ireturn, 1) := dk_i kdX4_readDoing_0 12 rfl
theorem dX4_readDoing_25 : decode cX4_readDoing 25 = .ok (.aload_n 0, 1) := dk_i kdX4_readDoing_0 13 rfl
theorem dX4_readDoing_26 : decode cX4_readDoing 26 = .ok (.invokevirtual 138, 3) := dk_i kdX4_readDoing_0 14 rfl
theorem dX4_readDoing_29 : decode cX4_readDoing 29 = .ok (.istore_n 2, 1) := dk_i kdX4_readDoing_0 15 rfl
def ldX4_readDoing_30 : List (Nat × ClassFile.Instr × Nat) := [(30, .iload_n 2, 1), (31, .iconst (-1), 1), (32, .if_icmp .ne 5, 3), (35, .iconst 0, 1), (36, .ireturn, 1), (37, .aload_n 0, 1), (38, .getfield 14, 3), (41, .invokevirtual 119, 3), (44, .aload_n 0, 1), (45, .getfield 14, 3), (48, .sipush 271, 3), (51, .invokevirtual 53, 3), (54, .ifCond .eq 13, 3), (57, .aload_n 0, 1), (58, .iconst 0, 1), (59, .bipush 23, 2)]
theorem kdX4_readDoing_30 : dkO cX4_readDoing 30 ldX4_readDoing_30 = true := by decide +kernel
theorem dX4_readDoing_30 : decode cX4_readDoing 30 = .ok (.iload_n 2, 1) := dk_i kdX4_readDoing_30 0 rfl
theorem dX4_readDoing_31 : decode cX4_readDoing 31 = .ok (.iconst (-1), 1) := dk_i kdX4_readDoing_30 1 rfl
theorem dX4_readDoing_32 : decode cX4_readDoing 32 = .ok (.if_icmp .ne 5, 3) := dk_i kdX4_readDoing_30 2 rfl
theorem dX4_readDoing_35 : decode cX4_readDoing 35 = .ok (.iconst 0, 1) := dk_i kdX4_readDoing_30 3 rfl
theorem dX4_readDoing_36 : decode cX4_readDoing 36 = .ok (.ireturn, 1) := dk_i kdX4_readDoing_30 4 rfl
theorem dX4_readDoing_37 : decode cX4_readDoing 37 = .ok (.aload_n 0, 1) := dk_i kdX4_readDoing_30 5 rfl
theorem dX4_readDoing_38 : decode cX4_readDoing 38 = .ok (.getfield 14, 3) := dk_i kdX4_readDoing_30 6 rfl
theorem dX4_readDoing_41 : decode cX4_readDoing 41 = .ok (.invokevirtual 119, 3) := dk_i kdX4_readDoing_30 7 rfl
theorem dX4_readDoing_44 : decode cX4_readDoing 44 = .ok (.aload_n 0, 1) := dk_i kdX4_readDoing_30 8 rfl
theorem dX4_readDoing_45 : decode cX4_readDoing 45 = .ok (.getfield 14, 3) := dk_i kdX4_readDoing_30 9 rfl
theorem dX4_readDoing_48 : decode cX4_readDoing 48 = .ok (.sipush 271, 3) := dk_i kdX4_readDoing_30 10 rfl
theorem dX4_readDoing_51 : decode cX4_readDoing 51 = .ok (.invokevirtual 53, 3) := dk_i kdX4_readDoing_30 11 rfl
theorem dX4_readDoing_54 : decode cX4_readDoing 54 = .ok (.ifCond .eq 13, 3) := dk_i kdX4_readDoing_30 12 rfl
theorem dX4_readDoing_57 : decode cX4_readDoing 57 = .ok (.aload_n 0, 1) := dk_i kdX4_readDoing_30 13 rfl
theorem dX4_readDoing_58 : decode cX4_readDoing 58 = .ok (.iconst 0, 1) := dk_i kdX4_readDoing_30 14 rfl
theorem dX4_readDoing_59 : decode cX4_readDoing 59 = .ok (.bipush 23, 2) := dk_i kdX4_readDoing_30 15 rfl
def ldX4_readDoing_61 : List (Nat × ClassFile.Instr × Nat) := [(61, .invokevirtual 126, 3), (64, .goto 4, 3), (67, .iconst (-1), 1), (68, .istore_n 3, 1), (69, .iload_n 3, 1), (70, .iconst (-1), 1), (71, .if_icmp .ne 5, 3), (74, .iconst 0, 1), (75, .ireturn, 1), (76, .aload_n 0, 1), (77, .getfield 35, 3), (80, .iload_n 1, 1), (81, .iload_n 2, 1), (82, .iload_n 3, 1), (83, .invokevirtual 158, 3), (86, .iconst 1, 1)]
theorem kdX4_readDoing_61 : dkO cX4_readDoing 61 ldX4_readDoing_61 = true := by decide +kernel
theorem dX4_readDoing_61 : decode cX4_readDoing 61 = .ok (.invokevirtual 126, 3) := dk_i kdX4_readDoing_61 0 rfl
theorem dX4_readDoing_64 : decode cX4_readDoing 64 = .ok (.goto 4, 3) := dk_i kdX4_readDoing_61 1 rfl
theorem dX4_readDoing_67 : decode cX4_readDoing 67 = .ok (.iconst (-1), 1) := dk_i kdX4_readDoing_61 2 rfl
theorem dX4_readDoing_68 : decode cX4_readDoing 68 = .ok (.istore_n 3, 1) := dk_i kdX4_readDoing_61 3 rfl
theorem dX4_readDoing_69 : decode cX4_readDoing 69 = .ok (.iload_n 3, 1) := dk_i kdX4_readDoing_61 4 rfl
theorem dX4_readDoing_70 : decode cX4_readDoing 70 = .ok (.iconst (-1), 1) := dk_i kdX4_readDoing_61 5 rfl
theorem dX4_readDoing_71 : decode cX4_readDoing 71 = .ok (.if_icmp .ne 5, 3) := dk_i kdX4_readDoing_61 6 rfl
theorem dX4_readDoing_74 : decode cX4_readDoing 74 = .ok (.iconst 0, 1) := dk_i kdX4_readDoing_61 7 rfl
theorem dX4_readDoing_75 : decode cX4_readDoing 75 = .ok (.ireturn, 1) := dk_i kdX4_readDoing_61 8 rfl
theorem dX4_readDoing_76 : decode cX4_readDoing 76 = .ok (.aload_n 0, 1) := dk_i kdX4_readDoing_61 9 rfl
theorem dX4_readDoing_77 : decode cX4_readDoing 77 = .ok (.getfield 35, 3) := dk_i kdX4_readDoing_61 10 rfl
theorem dX4_readDoing_80 : decode cX4_readDoing 80 = .ok (.iload_n 1, 1) := dk_i kdX4_readDoing_61 11 rfl
theorem dX4_readDoing_81 : decode cX4_readDoing 81 = .ok (.iload_n 2, 1) := dk_i kdX4_readDoing_61 12 rfl
theorem dX4_readDoing_82 : decode cX4_readDoing 82 = .ok (.iload_n 3, 1) := dk_i kdX4_readDoing_61 13 rfl
theorem dX4_readDoing_83 : decode cX4_readDoing 83 = .ok (.invokevirtual 158, 3) := dk_i kdX4_readDoing_61 14 rfl
theorem dX4_readDoing_86 : decode cX4_readDoing 86 = .ok (.iconst 1, 1) := dk_i kdX4_readDoing_61 15 rfl
def ldX4_readDoing_87 : List (Nat × ClassFile.Instr × Nat) := [(87, .ireturn, 1)]
theorem kdX4_readDoing_87 : dkO cX4_readDoing 87 ldX4_readDoing_87 = true := by decide +kernel
theorem dX4_readDoing_87 : decode cX4_readDoing 87 = .ok (.ireturn, 1) := dk_i kdX4_readDoing_87 0 rfl
def ldX4_readPass_0 : List (Nat × ClassFile.Instr × Nat) := [(0, .aload_n 0, 1), (1, .iconst 0, 1), (2, .bipush 100, 2), (4, .invokevirtual 126, 3), (7, .istore_n 1, 1), (8, .iload_n 1, 1), (9, .iconst (-1), 1), (10, .if_icmp .ne 5, 3), (13, .iconst 0, 1), (14, .ireturn, 1), (15, .aload_n 0, 1), (16, .getfield 35, 3), (19, .iload_n 1, 1), (20, .putfield 161, 3), (23, .iconst 1, 1), (24, .ireturn, 1)]
theorem kdX4_readPass_0 : dkO cX4_readPass 0 ldX4_readPass_0 = true := by decide +kernel
theorem dX4_readPass_0 : decode cX4_readPass 0 = .ok (.aload_n 0, 1) := dk_i kdX4_readPass_0 0 rfl
theorem dX4_readPass_1 : decode cX4_readPass 1 = .ok (.iconst 0, 1) := dk_i kdX4_readPass_0 1 rfl
theorem dX4_readPass_2 : decode cX4_readPass 2 = .ok (.bipush 100, 2) := dk_i kdX4_readPass_0 2 rfl
theorem dX4_readPass_4 : decode cX4_readPass 4 = .ok (.invokevirtual 126, 3) := dk_i kdX4_readPass_0 3 rfl
theorem dX4_readPass_7 : decode cX4_readPass 7 = .ok (.istore_n 1, 1) := dk_i kdX4_readPass_0 4 rfl
theorem dX4_readPass_8 : decode cX4_readPass 8 = .ok (.iload_n 1, 1) := dk_i kdX4_readPass_0 5 rfl
theorem dX4_readPass_9 : decode cX4_readPass 9 = .ok (.iconst (-1), 1) := dk_i kdX4_readPass_0 6 rfl
theorem dX4_readPass_10 : decode cX4_readPass 10 = .ok (.if_icmp .ne 5, 3) := dk_i kdX4_readPass_0 7 rfl
theorem dX4_readPass_13 : decode cX4_readPass 13 = .ok (.iconst 0, 1) := dk_i kdX4_readPass_0 8 rfl
theorem dX4_readPass_14 : decode cX4_readPass 14 = .ok (.ireturn, 1) := dk_i kdX4_readPass_0 9 rfl
theorem dX4_readPass_15 : decode cX4_readPass 15 = .ok (.aload_n 0, 1) := dk_i kdX4_readPass_0 10 rfl
theorem dX4_readPass_16 : decode cX4_readPass 16 = .ok (.getfield 35, 3) := dk_i kdX4_readPass_0 11 rfl
theorem dX4_readPass_19 : decode cX4_readPass 19 = .ok (.iload_n 1, 1) := dk_i kdX4_readPass_0 12 rfl
theorem dX4_readPass_20 : decode cX4_readPass 20 = .ok (.putfield 161, 3) := dk_i kdX4_readPass_0 13 rfl
theorem dX4_readPass_23 : decode cX4_readPass 23 = .ok (.iconst 1, 1) := dk_i kdX4_readPass_0 14 rfl
theorem dX4_readPass_24 : decode cX4_readPass 24 = .ok (.ireturn, 1) := dk_i kdX4_readPass_0 15 rfl
def ldX4_newName_0 : List (Nat × ClassFile.Instr × Nat) := [(0, .aload_n 0, 1), (1, .getfield 14, 3), (4, .getfield 151, 3), (7, .istore_n 1, 1), (8, .aload_n 0, 1), (9, .getfield 14, 3), (12, .getfield 45, 3), (15, .sipush 257, 3), (18, .if_icmp .eq 13, 3), (21, .aload_n 0, 1), (22, .getfield 14, 3), (25, .invokevirtual 116, 3), (28, .pop, 1), (29, .iconst (-1), 1), (30, .ireturn, 1), (31, .aload_n 0, 1)]
theorem kdX4_newName_0 : dkO cX4_newName 0 ldX4_newName_0 = true := by decide +kernel
theorem dX4_newName_0 : decode cX4_newName 0 = .ok (.aload_n 0, 1) := dk_i kdX4_newName_0 0 rfl
theorem dX4_newName_1 : decode cX4_newName 1 = .ok (.getfield 14, 3) := dk_i kdX4_newName_0 1 rfl
theorem dX4_newName_4 : decode cX4_newName 4 = .ok (.getfield 151, 3) := dk_i kdX4_newName_0 2 rfl
theorem dX4_newName_7 : decode cX4_newName 7 = .ok (.istore_n 1, 1) := dk_i kdX4_newName_0 3 rfl
theorem dX4_newName_8 : decode cX4_newName 8 = .ok (.aload_n 0, 1) := dk_i kdX4_newName_0 4 rfl
theorem dX4_newName_9 : decode cX4_newName 9 = .ok (.getfield 14, 3) := dk_i kdX4_newName_0 5 rfl
theorem dX4_newName_12 : decode cX4_newName 12 = .ok (.getfield 45, 3) := dk_i kdX4_newName_0 6 rfl
theorem dX4_newName_15 : decode cX4_newName 15 = .ok (.sipush 257, 3) := dk_i kdX4_newName_0 7 rfl
theorem dX4_newName_18 : decode cX4_newName 18 = .ok (.if_icmp .eq 13, 3) := dk_i kdX4_newName_0 8 rfl
theorem dX4_newName_21 : decode cX4_newName 21 = .ok (.aload_n 0, 1) := dk_i kdX4_newName_0 9 rfl
theorem dX4_newName_22 : decode cX4_newName 22 = .ok (.getfield 14, 3) := dk_i kdX4_newName_0 10 rfl
theorem dX4_newName_25 : decode cX4_newName 25 = .ok (.invokevirtual 116, 3) := dk_i kdX4_newName_0 11 rfl
theorem dX4_newName_28 : decode cX4_newName 28 = .ok (.pop, 1) := dk_i kdX4_newName_0 12 rfl
theorem dX4_newName_29 : decode cX4_newName 29 = .ok (.iconst (-1), 1) := dk_i kdX4_newName_0 13 rfl
theorem dX4_newName_30 : decode cX4_newName 30 = .ok (.ireturn, 1) := dk_i kdX4_newName_0 14 rfl
theorem dX4_newName_31 : decode cX4_newName 31 = .ok (.aload_n 0, 1) := dk_i kdX4_newName_0 15 rfl
def ldX4_newName_32 : List (Nat × ClassFile.Instr × Nat) := [(32, .getfield 35, 3), (35, .iload_n 1, 1), (36, .invokevirtual 154, 3), (39, .iconst (-1), 1), (40, .if_icmp .ne 27, 3), (43, .aload_n 0, 1), (44, .getfield 35, 3), (47, .iload_n 1, 1), (48, .invokevirtual 164, 3), (51, .iconst (-1), 1), (52, .if_icmp .ne 15, 3), (55, .aload_n 0, 1), (56, .getfield 35, 3), (59, .iload_n 1, 1), (60, .invokevirtual 167, 3), (63, .iconst (-1), 1)]
theorem kdX4_newName_32 : dkO cX4_newName 32 ldX4_newName_32 = true := by decide +kernel
theorem dX4_newName_32 : decode cX4_newName 32 = .ok (.getfield 35, 3) := dk_i kdX4_newName_32 0 rfl
theorem dX4_newName_35 : decode cX4_newName 35 = .ok (.iload_n 1, 1) := dk_i kdX4_newName_32 1 rfl
theorem dX4_newName_36 : decode cX4_newName 36 = .ok (.invokevirtual 154, 3) := dk_i kdX4_newName_32 2 rfl
theorem dX4_newName_39 : decode cX4_newName 39 = .ok (.iconst (-1), 1) := dk_i kdX4_newName_32 3 rfl
theorem dX4_newName_40 : decode cX4_newName 40 = .ok (.if_icmp .ne 27, 3) := dk_i kdX4_newName_32 4 rfl
theorem dX4_newName_43 : decode cX4_newName 43 = .ok (.aload_n 0, 1) := dk_i kdX4_newName_32 5 rfl
theorem dX4_newName_44 : decode cX4_newName 44 = .ok (.getfield 35, 3) := dk_i kdX4_newName_32 6 rfl
theorem dX4_newName_47 : decode cX4_newName 47 = .ok (.iload_n 1, 1) := dk_i kdX4_newName_32 7 rfl
theorem dX4_newName_48 : decode cX4_newName 48 = .ok (.invokevirtual 164, 3) := dk_i kdX4_newName_32 8 rfl
theorem dX4_newName_51 : decode cX4_newName 51 = .ok (.iconst (-1), 1) := dk_i kdX4_newName_32 9 rfl
theorem dX4_newName_52 : decode cX4_newName 52 = .ok (.if_icmp .ne 15, 3) := dk_i kdX4_newName_32 10 rfl
theorem dX4_newName_55 : decode cX4_newName 55 = .ok (.aload_n 0, 1) := dk_i kdX4_newName_32 11 rfl
theorem dX4_newName_56 : decode cX4_newName 56 = .ok (.getfield 35, 3) := dk_i kdX4_newName_32 12 rfl
theorem dX4_newName_59 : decode cX4_newName 59 = .ok (.iload_n 1, 1) := dk_i kdX4_newName_32 13 rfl
theorem dX4_newName_60 : decode cX4_newName 60 = .ok (.invokevirtual 167, 3) := dk_i kdX4_newName_32 14 rfl
theorem dX4_newName_63 : decode cX4_newName 63 = .ok (.iconst (-1), 1) := dk_i kdX4_newName_32 15 rfl
def ldX4_newName_64 : List (Nat × ClassFile.Instr × Nat) := [(64, .if_icmp .eq 21, 3), (67, .aload_n 0, 1), (68, .getfield 14, 3), (71, .iconst 2, 1), (72, .aload_n 0, 1), (73, .getfield 14, 3), (76, .getfield 60, 3), (79, .invokevirtual 63, 3), (82, .pop, 1), (83, .iconst (-1), 1), (84, .ireturn, 1), (85, .aload_n 0, 1), (86, .getfield 14, 3), (89, .invokevirtual 119, 3), (92, .iload_n 1, 1), (93, .ireturn, 1)]
theorem kdX4_newName_64 : dkO cX4_newName 64 ldX4_newName_64 = true := by decide +kernel
theorem dX4_newName_64 : decode cX4_newName 64 = .ok (.if_icmp .eq 21, 3) := dk_i kdX4_newName_64 0 rfl
theorem dX4_newName_67 : decode cX4_newName 67 = .ok (.aload_n 0, 1) := dk_i kdX4_newName_64 1 rfl
theorem dX4_newName_68 : decode cX4_newName 68 = .ok (.getfield 14, 3) := dk_i kdX4_newName_64 2 rfl
theorem dX4_newName_71 : decode cX4_newName 71 = .ok (.iconst 2, 1) := dk_i kdX4_newName_64 3 rfl
theorem dX4_newName_72 : decode cX4_newName 72 = .ok (.aload_n 0, 1) := dk_i kdX4_newName_64 4 rfl
theorem dX4_newName_73 : decode cX4_newName 73 = .ok (.getfield 14, 3) := dk_i kdX4_newName_64 5 rfl
theorem dX4_newName_76 : decode cX4_newName 76 = .ok (.getfield 60, 3) := dk_i kdX4_newName_64 6 rfl
theorem dX4_newName_79 : decode cX4_newName 79 = .ok (.invokevirtual 63, 3) := dk_i kdX4_newName_64 7 rfl
theorem dX4_newName_82 : decode cX4_newName 82 = .ok (.pop, 1) := dk_i kdX4_newName_64 8 rfl
theorem dX4_newName_83 : decode cX4_newName 83 = .ok (.iconst (-1), 1) := dk_i kdX4_newName_64 9 rfl
theorem dX4_newName_84 : decode cX4_newName 84 = .ok (.ireturn, 1) := dk_i kdX4_newName_64 10 rfl
theorem dX4_newName_85 : decode cX4_newName 85 = .ok (.aload_n 0, 1) := dk_i kdX4_newName_64 11 rfl
theorem dX4_newName_86 : decode cX4_newName 86 = .ok (.getfield 14, 3) := dk_i kdX4_newName_64 12 rfl
theorem dX4_newName_89 : decode cX4_newName 89 = .ok (.invokevirtual 119, 3) := dk_i kdX4_newName_64 13 rfl
theorem dX4_newName_92 : decode cX4_newName 92 = .ok (.iload_n 1, 1) := dk_i kdX4_newName_64 14 rfl
theorem dX4_newName_93 : decode cX4_newName 93 = .ok (.ireturn, 1) := dk_i kdX4_newName_64 15 rfl
def ldX4_cornerHere_0 : List (Nat × ClassFile.Instr × Nat) := [(0, .aload_n 0, 1), (1, .getfield 14, 3), (4, .getfield 45, 3), (7, .sipush 257, 3), (10, .if_icmp .eq 13, 3), (13, .aload_n 0, 1), (14, .getfield 14, 3), (17, .invokevirtual 116, 3), (20, .pop, 1), (21, .iconst (-1), 1), (22, .ireturn, 1), (23, .aload_n 0, 1), (24, .getfield 35, 3), (27, .aload_n 0, 1), (28, .getfield 14, 3), (31, .getfield 151, 3)]
theorem kdX4_cornerHere_0 : dkO cX4_cornerHere 0 ldX4_cornerHere_0 = true := by decide +kernel
theorem dX4_cornerHere_0 : decode cX4_cornerHere 0 = .ok (.aload_n 0, 1) := dk_i kdX4_cornerHere_0 0 rfl
theorem dX4_cornerHere_1 : decode cX4_cornerHere 1 = .ok (.getfield 14, 3) := dk_i kdX4_cornerHere_0 1 rfl
theorem dX4_cornerHere_4 : decode cX4_cornerHere 4 = .ok (.getfield 45, 3) := dk_i kdX4_cornerHere_0 2 rfl
theorem dX4_cornerHere_7 : decode cX4_cornerHere 7 = .ok (.sipush 257, 3) := dk_i kdX4_cornerHere_0 3 rfl
theorem dX4_cornerHere_10 : decode cX4_cornerHere 10 = .ok (.if_icmp .eq 13, 3) := dk_i kdX4_cornerHere_0 4 rfl
theorem dX4_cornerHere_13 : decode cX4_cornerHere 13 = .ok (.aload_n 0, 1) := dk_i kdX4_cornerHere_0 5 rfl
theorem dX4_cornerHere_14 : decode cX4_cornerHere 14 = .ok (.getfield 14, 3) := dk_i kdX4_cornerHere_0 6 rfl
theorem dX4_cornerHere_17 : decode cX4_cornerHere 17 = .ok (.invokevirtual 116, 3) := dk_i kdX4_cornerHere_0 7 rfl
theorem dX4_cornerHere_20 : decode cX4_cornerHere 20 = .ok (.pop, 1) := dk_i kdX4_cornerHere_0 8 rfl
theorem dX4_cornerHere_21 : decode cX4_cornerHere 21 = .ok (.iconst (-1), 1) := dk_i kdX4_cornerHere_0 9 rfl
theorem dX4_cornerHere_22 : decode cX4_cornerHere 22 = .ok (.ireturn, 1) := dk_i kdX4_cornerHere_0 10 rfl
theorem dX4_cornerHere_23 : decode cX4_cornerHere 23 = .ok (.aload_n 0, 1) := dk_i kdX4_cornerHere_0 11 rfl
theorem dX4_cornerHere_24 : decode cX4_cornerHere 24 = .ok (.getfield 35, 3) := dk_i kdX4_cornerHere_0 12 rfl
theorem dX4_cornerHere_27 : decode cX4_cornerHere 27 = .ok (.aload_n 0, 1) := dk_i kdX4_cornerHere_0 13 rfl
theorem dX4_cornerHere_28 : decode cX4_cornerHere 28 = .ok (.getfield 14, 3) := dk_i kdX4_cornerHere_0 14 rfl
theorem dX4_cornerHere_31 : decode cX4_cornerHere 31 = .ok (.getfield 151, 3) := dk_i kdX4_cornerHere_0 15 rfl
def ldX4_cornerHere_34 : List (Nat × ClassFile.Instr × Nat) := [(34, .invokevirtual 164, 3), (37, .istore_n 1, 1), (38, .iload_n 1, 1), (39, .iconst (-1), 1), (40, .if_icmp .ne 19, 3), (43, .aload_n 0, 1), (44, .getfield 14, 3), (47, .iconst 3, 1), (48, .aload_n 0, 1), (49, .getfield 14, 3), (52, .getfield 60, 3), (55, .invokevirtual 63, 3), (58, .pop, 1), (59, .iload_n 1, 1), (60, .ireturn, 1)]
theorem kdX4_cornerHere_34 : dkO cX4_cornerHere 34 ldX4_cornerHere_34 = true := by decide +kernel
theorem dX4_cornerHere_34 : decode cX4_cornerHere 34 = .ok (.invokevirtual 164, 3) := dk_i kdX4_cornerHere_34 0 rfl
theorem dX4_cornerHere_37 : decode cX4_cornerHere 37 = .ok (.istore_n 1, 1) := dk_i kdX4_cornerHere_34 1 rfl
theorem dX4_cornerHere_38 : decode cX4_cornerHere 38 = .ok (.iload_n 1, 1) := dk_i kdX4_cornerHere_34 2 rfl
theorem dX4_cornerHere_39 : decode cX4_cornerHere 39 = .ok (.iconst (-1), 1) := dk_i kdX4_cornerHere_34 3 rfl
theorem dX4_cornerHere_40 : decode cX4_cornerHere 40 = .ok (.if_icmp .ne 19, 3) := dk_i kdX4_cornerHere_34 4 rfl
theorem dX4_cornerHere_43 : decode cX4_cornerHere 43 = .ok (.aload_n 0, 1) := dk_i kdX4_cornerHere_34 5 rfl
theorem dX4_cornerHere_44 : decode cX4_cornerHere 44 = .ok (.getfield 14, 3) := dk_i kdX4_cornerHere_34 6 rfl
theorem dX4_cornerHere_47 : decode cX4_cornerHere 47 = .ok (.iconst 3, 1) := dk_i kdX4_cornerHere_34 7 rfl
theorem dX4_cornerHere_48 : decode cX4_cornerHere 48 = .ok (.aload_n 0, 1) := dk_i kdX4_cornerHere_34 8 rfl
theorem dX4_cornerHere_49 : decode cX4_cornerHere 49 = .ok (.getfield 14, 3) := dk_i kdX4_cornerHere_34 9 rfl
theorem dX4_cornerHere_52 : decode cX4_cornerHere 52 = .ok (.getfield 60, 3) := dk_i kdX4_cornerHere_34 10 rfl
theorem dX4_cornerHere_55 : decode cX4_cornerHere 55 = .ok (.invokevirtual 63, 3) := dk_i kdX4_cornerHere_34 11 rfl
theorem dX4_cornerHere_58 : decode cX4_cornerHere 58 = .ok (.pop, 1) := dk_i kdX4_cornerHere_34 12 rfl
theorem dX4_cornerHere_59 : decode cX4_cornerHere 59 = .ok (.iload_n 1, 1) := dk_i kdX4_cornerHere_34 13 rfl
theorem dX4_cornerHere_60 : decode cX4_cornerHere 60 = .ok (.ireturn, 1) := dk_i kdX4_cornerHere_34 14 rfl
def ldX4_number_0 : List (Nat × ClassFile.Instr × Nat) := [(0, .aload_n 0, 1), (1, .getfield 14, 3), (4, .getfield 151, 3), (7, .istore_n 3, 1), (8, .aload_n 0, 1), (9, .getfield 14, 3), (12, .getfield 45, 3), (15, .sipush 256, 3), (18, .if_icmp .eq 13, 3), (21, .aload_n 0, 1), (22, .getfield 14, 3), (25, .invokevirtual 116, 3), (28, .pop, 1), (29, .iconst (-1), 1), (30, .ireturn, 1), (31, .iload_n 3, 1)]
theorem kdX4_number_0 : dkO cX4_number 0 ldX4_number_0 = true := by decide +kernel
theorem dX4_number_0 : decode cX4_number 0 = .ok (.aload_n 0, 1) := dk_i kdX4_number_0 0 rfl
theorem dX4_number_1 : decode cX4_number 1 = .ok (.getfield 14, 3) := dk_i kdX4_number_0 1 rfl
theorem dX4_number_4 : decode cX4_number 4 = .ok (.getfield 151, 3) := dk_i kdX4_number_0 2 rfl
theorem dX4_number_7 : decode cX4_number 7 = .ok (.istore_n 3, 1) := dk_i kdX4_number_0 3 rfl
theorem dX4_number_8 : decode cX4_number 8 = .ok (.aload_n 0, 1) := dk_i kdX4_number_0 4 rfl
theorem dX4_number_9 : decode cX4_number 9 = .ok (.getfield 14, 3) := dk_i kdX4_number_0 5 rfl
theorem dX4_number_12 : decode cX4_number 12 = .ok (.getfield 45, 3) := dk_i kdX4_number_0 6 rfl
theorem dX4_number_15 : decode cX4_number 15 = .ok (.sipush 256, 3) := dk_i kdX4_number_0 7 rfl
theorem dX4_number_18 : decode cX4_number 18 = .ok (.if_icmp .eq 13, 3) := dk_i kdX4_number_0 8 rfl
theorem dX4_number_21 : decode cX4_number 21 = .ok (.aload_n 0, 1) := dk_i kdX4_number_0 9 rfl
theorem dX4_number_22 : decode cX4_number 22 = .ok (.getfield 14, 3) := dk_i kdX4_number_0 10 rfl
theorem dX4_number_25 : decode cX4_number 25 = .ok (.invokevirtual 116, 3) := dk_i kdX4_number_0 11 rfl
theorem dX4_number_28 : decode cX4_number 28 = .ok (.pop, 1) := dk_i kdX4_number_0 12 rfl
theorem dX4_number_29 : decode cX4_number 29 = .ok (.iconst (-1), 1) := dk_i kdX4_number_0 13 rfl
theorem dX4_number_30 : decode cX4_number 30 = .ok (.ireturn, 1) := dk_i kdX4_number_0 14 rfl
theorem dX4_number_31 : decode cX4_number 31 = .ok (.iload_n 3, 1) := dk_i kdX4_number_0 15 rfl
def ldX4_number_32 : List (Nat × ClassFile.Instr × Nat) := [(32, .iload_n 1, 1), (33, .if_icmp .lt 8, 3), (36, .iload_n 3, 1), (37, .iload_n 2, 1), (38, .if_icmp .le 21, 3), (41, .aload_n 0, 1), (42, .getfield 14, 3), (45, .iconst 4, 1), (46, .aload_n 0, 1), (47, .getfield 14, 3), (50, .getfield 60, 3), (53, .invokevirtual 63, 3), (56, .pop, 1), (57, .iconst (-1), 1), (58, .ireturn, 1), (59, .aload_n 0, 1)]
theorem kdX4_number_32 : dkO cX4_number 32 ldX4_number_32 = true := by decide +kernel
theorem dX4_number_32 : decode cX4_number 32 = .ok (.iload_n 1, 1) := dk_i kdX4_number_32 0 rfl
theorem dX4_number_33 : decode cX4_number 33 = .ok (.if_icmp .lt 8, 3) := dk_i kdX4_number_32 1 rfl
theorem dX4_number_36 : decode cX4_number 36 = .ok (.iload_n 3, 1) := dk_i kdX4_number_32 2 rfl
theorem dX4_number_37 : decode cX4_number 37 = .ok (.iload_n 2, 1) := dk_i kdX4_number_32 3 rfl
theorem dX4_number_38 : decode cX4_number 38 = .ok (.if_icmp .le 21, 3) := dk_i kdX4_number_32 4 rfl
theorem dX4_number_41 : decode cX4_number 41 = .ok (.aload_n 0, 1) := dk_i kdX4_number_32 5 rfl
theorem dX4_number_42 : decode cX4_number 42 = .ok (.getfield 14, 3) := dk_i kdX4_number_32 6 rfl
theorem dX4_number_45 : decode cX4_number 45 = .ok (.iconst 4, 1) := dk_i kdX4_number_32 7 rfl
theorem dX4_number_46 : decode cX4_number 46 = .ok (.aload_n 0, 1) := dk_i kdX4_number_32 8 rfl
theorem dX4_number_47 : decode cX4_number 47 = .ok (.getfield 14, 3) := dk_i kdX4_number_32 9 rfl
theorem dX4_number_50 : decode cX4_number 50 = .ok (.getfield 60, 3) := dk_i kdX4_number_32 10 rfl
theorem dX4_number_53 : decode cX4_number 53 = .ok (.invokevirtual 63, 3) := dk_i kdX4_number_32 11 rfl
theorem dX4_number_56 : decode cX4_number 56 = .ok (.pop, 1) := dk_i kdX4_number_32 12 rfl
theorem dX4_number_57 : decode cX4_number 57 = .ok (.iconst (-1), 1) := dk_i kdX4_number_32 13 rfl
theorem dX4_number_58 : decode cX4_number 58 = .ok (.ireturn, 1) := dk_i kdX4_number_32 14 rfl
theorem dX4_number_59 : decode cX4_number 59 = .ok (.aload_n 0, 1) := dk_i kdX4_number_32 15 rfl
def ldX4_number_60 : List (Nat × ClassFile.Instr × Nat) := [(60, .getfield 14, 3), (63, .invokevirtual 119, 3), (66, .iload_n 3, 1), (67, .ireturn, 1)]
theorem kdX4_number_60 : dkO cX4_number 60 ldX4_number_60 = true := by decide +kernel
theorem dX4_number_60 : decode cX4_number 60 = .ok (.getfield 14, 3) := dk_i kdX4_number_60 0 rfl
theorem dX4_number_63 : decode cX4_number 63 = .ok (.invokevirtual 119, 3) := dk_i kdX4_number_60 1 rfl
theorem dX4_number_66 : decode cX4_number 66 = .ok (.iload_n 3, 1) := dk_i kdX4_number_60 2 rfl
theorem dX4_number_67 : decode cX4_number 67 = .ok (.ireturn, 1) := dk_i kdX4_number_60 3 rfl
end
section
def ldX5_init_0 : List (Nat × ClassFile.Instr × Nat) := [(0, .aload_n 0, 1), (1, .invokespecial 3, 3), (4, .aload_n 0, 1), (5, .iconst 0, 1), (6, .putfield 9, 3), (9, .aload_n 0, 1), (10, .bipush 16, 2), (12, .newarray .int, 2), (14, .putfield 15, 3), (17, .aload_n 0, 1), (18, .bipush 16, 2), (20, .newarray .int, 2), (22, .putfield 19, 3), (25, .aload_n 0, 1), (26, .bipush 16, 2), (28, .newarray .int, 2)]
theorem kdX5_init_0 : dkO cX5_init 0 ldX5_init_0 = true := by decide +kernel
theorem dX5_init_0 : decode cX5_init 0 = .ok (.aload_n 0, 1) := dk_i kdX5_init_0 0 rfl
theorem dX5_init_1 : decode cX5_init 1 = .ok (.invokespecial 3, 3) := dk_i kdX5_init_0 1 rfl
theorem dX5_init_4 : decode cX5_init 4 = .ok (.aload_n 0, 1) := dk_i kdX5_init_0 2 rfl
theorem dX5_init_5 : decode cX5_init 5 = .ok (.iconst 0, 1) := dk_i kdX5_init_0 3 rfl
theorem dX5_init_6 : decode cX5_init 6 = .ok (.putfield 9, 3) := dk_i kdX5_init_0 4 rfl
theorem dX5_init_9 : decode cX5_init 9 = .ok (.aload_n 0, 1) := dk_i kdX5_init_0 5 rfl
theorem dX5_init_10 : decode cX5_init 10 = .ok (.bipush 16, 2) := dk_i kdX5_init_0 6 rfl
theorem dX5_init_12 : decode cX5_init 12 = .ok (.newarray .int, 2) := dk_i kdX5_init_0 7 rfl
theorem dX5_init_14 : decode cX5_init 14 = .ok (.putfield 15, 3) := dk_i kdX5_init_0 8 rfl
theorem dX5_init_17 : decode cX5_init 17 = .ok (.aload_n 0, 1) := dk_i kdX5_init_0 9 rfl
theorem dX5_init_18 : decode cX5_init 18 = .ok (.bipush 16, 2) := dk_i kdX5_init_0 10 rfl
theorem dX5_init_20 : decode cX5_init 20 = .ok (.newarray .int, 2) := dk_i kdX5_init_0 11 rfl
theorem dX5_init_22 : decode cX5_init 22 = .ok (.putfield 19, 3) := dk_i kdX5_init_0 12 rfl
theorem dX5_init_25 : decode cX5_init 25 = .ok (.aload_n 0, 1) := dk_i kdX5_init_0 13 rfl
theorem dX5_init_26 : decode cX5_init 26 = .ok (.bipush 16, 2) := dk_i kdX5_init_0 14 rfl
theorem dX5_init_28 : decode cX5_init 28 = .ok (.newarray .int, 2) := dk_i kdX5_init_0 15 rfl
def ldX5_init_30 : List (Nat × ClassFile.Instr × Nat) := [(30, .putfield 22, 3), (33, .aload_n 0, 1), (34, .bipush 7, 2), (36, .bipush 41, 2), (38, .multianewarray 25 2, 4), (42, .putfield 27, 3), (45, .return_, 1)]
theorem kdX5_init_30 : dkO cX5_init 30 ldX5_init_30 = true := by decide +kernel
theorem dX5_init_30 : decode cX5_init 30 = .ok (.putfield 22, 3) := dk_i kdX5_init_30 0 rfl
theorem dX5_init_33 : decode cX5_init 33 = .ok (.aload_n 0, 1) := dk_i kdX5_init_30 1 rfl
theorem dX5_init_34 : decode cX5_init 34 = .ok (.bipush 7, 2) := dk_i kdX5_init_30 2 rfl
theorem dX5_init_36 : decode cX5_init 36 = .ok (.bipush 41, 2) := dk_i kdX5_init_30 3 rfl
theorem dX5_init_38 : decode cX5_init 38 = .ok (.multianewarray 25 2, 4) := dk_i kdX5_init_30 4 rfl
theorem dX5_init_42 : decode cX5_init 42 = .ok (.putfield 27, 3) := dk_i kdX5_init_30 5 rfl
theorem dX5_init_45 : decode cX5_init 45 = .ok (.return_, 1) := dk_i kdX5_init_30 6 rfl
def ldX5_read_0 : List (Nat × ClassFile.Instr × Nat) := [(0, .aload_n 1, 1), (1, .getfield 30, 3), (4, .iconst 3, 1), (5, .idiv, 1), (6, .istore_n 3, 1), (7, .iload_n 3, 1), (8, .iconst 1, 1), (9, .if_icmp .lt 19, 3), (12, .iload_n 3, 1), (13, .bipush 16, 2), (15, .if_icmp .gt 13, 3), (18, .aload_n 1, 1), (19, .getfield 30, 3), (22, .iconst 3, 1), (23, .iload_n 3, 1), (24, .imul, 1)]
theorem kdX5_read_0 : dkO cX5_read 0 ldX5_read_0 = true := by decide +kernel
theorem dX5_read_0 : decode cX5_read 0 = .ok (.aload_n 1, 1) := dk_i kdX5_read_0 0 rfl
theorem dX5_read_1 : decode cX5_read 1 = .ok (.getfield 30, 3) := dk_i kdX5_read_0 1 rfl
theorem dX5_read_4 : decode cX5_read 4 = .ok (.iconst 3, 1) := dk_i kdX5_read_0 2 rfl
theorem dX5_read_5 : decode cX5_read 5 = .ok (.idiv, 1) := dk_i kdX5_read_0 3 rfl
theorem dX5_read_6 : decode cX5_read 6 = .ok (.istore_n 3, 1) := dk_i kdX5_read_0 4 rfl
theorem dX5_read_7 : decode cX5_read 7 = .ok (.iload_n 3, 1) := dk_i kdX5_read_0 5 rfl
theorem dX5_read_8 : decode cX5_read 8 = .ok (.iconst 1, 1) := dk_i kdX5_read_0 6 rfl
theorem dX5_read_9 : decode cX5_read 9 = .ok (.if_icmp .lt 19, 3) := dk_i kdX5_read_0 7 rfl
theorem dX5_read_12 : decode cX5_read 12 = .ok (.iload_n 3, 1) := dk_i kdX5_read_0 8 rfl
theorem dX5_read_13 : decode cX5_read 13 = .ok (.bipush 16, 2) := dk_i kdX5_read_0 9 rfl
theorem dX5_read_15 : decode cX5_read 15 = .ok (.if_icmp .gt 13, 3) := dk_i kdX5_read_0 10 rfl
theorem dX5_read_18 : decode cX5_read 18 = .ok (.aload_n 1, 1) := dk_i kdX5_read_0 11 rfl
theorem dX5_read_19 : decode cX5_read 19 = .ok (.getfield 30, 3) := dk_i kdX5_read_0 12 rfl
theorem dX5_read_22 : decode cX5_read 22 = .ok (.iconst 3, 1) := dk_i kdX5_read_0 13 rfl
theorem dX5_read_23 : decode cX5_read 23 = .ok (.iload_n 3, 1) := dk_i kdX5_read_0 14 rfl
theorem dX5_read_24 : decode cX5_read 24 = .ok (.imul, 1) := dk_i kdX5_read_0 15 rfl
def ldX5_read_25 : List (Nat × ClassFile.Instr × Nat) := [(25, .if_icmp .eq 5, 3), (28, .iconst 0, 1), (29, .ireturn, 1), (30, .iconst 0, 1), (31, .istore 4, 2), (33, .iload 4, 2), (35, .iload_n 3, 1), (36, .if_icmp .ge 68, 3), (39, .aload_n 1, 1), (40, .iconst 3, 1), (41, .iload 4, 2), (43, .imul, 1), (44, .invokevirtual 35, 3), (47, .bipush 40, 2), (49, .if_icmp .gt 24, 3), (52, .aload_n 2, 1)]
theorem kdX5_read_25 : dkO cX5_read 25 ldX5_read_25 = true := by decide +kernel
theorem dX5_read_25 : decode cX5_read 25 = .ok (.if_icmp .eq 5, 3) := dk_i kdX5_read_25 0 rfl
theorem dX5_read_28 : decode cX5_read 28 = .ok (.iconst 0, 1) := dk_i kdX5_read_25 1 rfl
theorem dX5_read_29 : decode cX5_read 29 = .ok (.ireturn, 1) := dk_i kdX5_read_25 2 rfl
theorem dX5_read_30 : decode cX5_read 30 = .ok (.iconst 0, 1) := dk_i kdX5_read_25 3 rfl
theorem dX5_read_31 : decode cX5_read 31 = .ok (.istore 4, 2) := dk_i kdX5_read_25 4 rfl
theorem dX5_read_33 : decode cX5_read 33 = .ok (.iload 4, 2) := dk_i kdX5_read_25 5 rfl
theorem dX5_read_35 : decode cX5_read 35 = .ok (.iload_n 3, 1) := dk_i kdX5_read_25 6 rfl
theorem dX5_read_36 : decode cX5_read 36 = .ok (.if_icmp .ge 68, 3) := dk_i kdX5_read_25 7 rfl
theorem dX5_read_39 : decode cX5_read 39 = .ok (.aload_n 1, 1) := dk_i kdX5_read_25 8 rfl
theorem dX5_read_40 : decode cX5_read 40 = .ok (.iconst 3, 1) := dk_i kdX5_read_25 9 rfl
theorem dX5_read_41 : decode cX5_read 41 = .ok (.iload 4, 2) := dk_i kdX5_read_25 10 rfl
theorem dX5_read_43 : decode cX5_read 43 = .ok (.imul, 1) := dk_i kdX5_read_25 11 rfl
theorem dX5_read_44 : decode cX5_read 44 = .ok (.invokevirtual 35, 3) := dk_i kdX5_read_25 12 rfl
theorem dX5_read_47 : decode cX5_read 47 = .ok (.bipush 40, 2) := dk_i kdX5_read_25 13 rfl
theorem dX5_read_49 : decode cX5_read 49 = .ok (.if_icmp .gt 24, 3) := dk_i kdX5_read_25 14 rfl
theorem dX5_read_52 : decode cX5_read 52 = .ok (.aload_n 2, 1) := dk_i kdX5_read_25 15 rfl
def ldX5_read_53 : List (Nat × ClassFile.Instr × Nat) := [(53, .aload_n 1, 1), (54, .iconst 3, 1), (55, .iload 4, 2), (57, .imul, 1), (58, .iconst 1, 1), (59, .iadd, 1), (60, .invokevirtual 35, 3), (63, .invokevirtual 39, 3), (66, .ifCond .eq 7, 3), (69, .iconst 1, 1), (70, .goto 4, 3), (73, .iconst 0, 1), (74, .istore 5, 2), (76, .iload 5, 2), (78, .ifCond .eq 18, 3), (81, .aload_n 1, 1)]
theorem kdX5_read_53 : dkO cX5_read 53 ldX5_read_53 = true := by decide +kernel
theorem dX5_read_53 : decode cX5_read 53 = .ok (.aload_n 1, 1) := dk_i kdX5_read_53 0 rfl
theorem dX5_read_54 : decode cX5_read 54 = .ok (.iconst 3, 1) := dk_i kdX5_read_53 1 rfl
theorem dX5_read_55 : decode cX5_read 55 = .ok (.iload 4, 2) := dk_i kdX5_read_53 2 rfl
theorem dX5_read_57 : decode cX5_read 57 = .ok (.imul, 1) := dk_i kdX5_read_53 3 rfl
theorem dX5_read_58 : decode cX5_read 58 = .ok (.iconst 1, 1) := dk_i kdX5_read_53 4 rfl
theorem dX5_read_59 : decode cX5_read 59 = .ok (.iadd, 1) := dk_i kdX5_read_53 5 rfl
theorem dX5_read_60 : decode cX5_read 60 = .ok (.invokevirtual 35, 3) := dk_i kdX5_read_53 6 rfl
theorem dX5_read_63 : decode cX5_read 63 = .ok (.invokevirtual 39, 3) := dk_i kdX5_read_53 7 rfl
theorem dX5_read_66 : decode cX5_read 66 = .ok (.ifCond .eq 7, 3) := dk_i kdX5_read_53 8 rfl
theorem dX5_read_69 : decode cX5_read 69 = .ok (.iconst 1, 1) := dk_i kdX5_read_53 9 rfl
theorem dX5_read_70 : decode cX5_read 70 = .ok (.goto 4, 3) := dk_i kdX5_read_53 10 rfl
theorem dX5_read_73 : decode cX5_read 73 = .ok (.iconst 0, 1) := dk_i kdX5_read_53 11 rfl
theorem dX5_read_74 : decode cX5_read 74 = .ok (.istore 5, 2) := dk_i kdX5_read_53 12 rfl
theorem dX5_read_76 : decode cX5_read 76 = .ok (.iload 5, 2) := dk_i kdX5_read_53 13 rfl
theorem dX5_read_78 : decode cX5_read 78 = .ok (.ifCond .eq 18, 3) := dk_i kdX5_read_53 14 rfl
theorem dX5_read_81 : decode cX5_read 81 = .ok (.aload_n 1, 1) := dk_i kdX5_read_53 15 rfl
def ldX5_read_82 : List (Nat × ClassFile.Instr × Nat) := [(82, .iconst 3, 1), (83, .iload 4, 2), (85, .imul, 1), (86, .iconst 2, 1), (87, .iadd, 1), (88, .invokevirtual 35, 3), (91, .bipush 23, 2), (93, .if_icmp .le 5, 3), (96, .iconst 0, 1), (97, .ireturn, 1), (98, .iinc 4 1, 3), (101, .goto (-68), 3), (104, .iconst 0, 1), (105, .istore 4, 2), (107, .iload 4, 2), (109, .iload_n 3, 1)]
theorem kdX5_read_82 : dkO cX5_read 82 ldX5_read_82 = true := by decide +kernel
theorem dX5_read_82 : decode cX5_read 82 = .ok (.iconst 3, 1) := dk_i kdX5_read_82 0 rfl
theorem dX5_read_83 : decode cX5_read 83 = .ok (.iload 4, 2) := dk_i kdX5_read_82 1 rfl
theorem dX5_read_85 : decode cX5_read 85 = .ok (.imul, 1) := dk_i kdX5_read_82 2 rfl
theorem dX5_read_86 : decode cX5_read 86 = .ok (.iconst 2, 1) := dk_i kdX5_read_82 3 rfl
theorem dX5_read_87 : decode cX5_read 87 = .ok (.iadd, 1) := dk_i kdX5_read_82 4 rfl
theorem dX5_read_88 : decode cX5_read 88 = .ok (.invokevirtual 35, 3) := dk_i kdX5_read_82 5 rfl
theorem dX5_read_91 : decode cX5_read 91 = .ok (.bipush 23, 2) := dk_i kdX5_read_82 6 rfl
theorem dX5_read_93 : decode cX5_read 93 = .ok (.if_icmp .le 5, 3) := dk_i kdX5_read_82 7 rfl
theorem dX5_read_96 : decode cX5_read 96 = .ok (.iconst 0, 1) := dk_i kdX5_read_82 8 rfl
theorem dX5_read_97 : decode cX5_read 97 = .ok (.ireturn, 1) := dk_i kdX5_read_82 9 rfl
theorem dX5_read_98 : decode cX5_read 98 = .ok (.iinc 4 1, 3) := dk_i kdX5_read_82 10 rfl
theorem dX5_read_101 : decode cX5_read 101 = .ok (.goto (-68), 3) := dk_i kdX5_read_82 11 rfl
theorem dX5_read_104 : decode cX5_read 104 = .ok (.iconst 0, 1) := dk_i kdX5_read_82 12 rfl
theorem dX5_read_105 : decode cX5_read 105 = .ok (.istore 4, 2) := dk_i kdX5_read_82 13 rfl
theorem dX5_read_107 : decode cX5_read 107 = .ok (.iload 4, 2) := dk_i kdX5_read_82 14 rfl
theorem dX5_read_109 : decode cX5_read 109 = .ok (.iload_n 3, 1) := dk_i kdX5_read_82 15 rfl
def ldX5_read_110 : List (Nat × ClassFile.Instr × Nat) := [(110, .if_icmp .ge 58, 3), (113, .aload_n 0, 1), (114, .getfield 15, 3), (117, .iload 4, 2), (119, .aload_n 1, 1), (120, .iconst 3, 1), (121, .iload 4, 2), (123, .imul, 1), (124, .invokevirtual 35, 3), (127, .iastore, 1), (128, .aload_n 0, 1), (129, .getfield 19, 3), (132, .iload 4, 2), (134, .aload_n 1, 1), (135, .iconst 3, 1), (136, .iload 4, 2)]
theorem kdX5_read_110 : dkO cX5_read 110 ldX5_read_110 = true := by decide +kernel
theorem dX5_read_110 : decode cX5_read 110 = .ok (.if_icmp .ge 58, 3) := dk_i kdX5_read_110 0 rfl
theorem dX5_read_113 : decode cX5_read 113 = .ok (.aload_n 0, 1) := dk_i kdX5_read_110 1 rfl
theorem dX5_read_114 : decode cX5_read 114 = .ok (.getfield 15, 3) := dk_i kdX5_read_110 2 rfl
theorem dX5_read_117 : decode cX5_read 117 = .ok (.iload 4, 2) := dk_i kdX5_read_110 3 rfl
theorem dX5_read_119 : decode cX5_read 119 = .ok (.aload_n 1, 1) := dk_i kdX5_read_110 4 rfl
theorem dX5_read_120 : decode cX5_read 120 = .ok (.iconst 3, 1) := dk_i kdX5_read_110 5 rfl
theorem dX5_read_121 : decode cX5_read 121 = .ok (.iload 4, 2) := dk_i kdX5_read_110 6 rfl
theorem dX5_read_123 : decode cX5_read 123 = .ok (.imul, 1) := dk_i kdX5_read_110 7 rfl
theorem dX5_read_124 : decode cX5_read 124 = .ok (.invokevirtual 35, 3) := dk_i kdX5_read_110 8 rfl
theorem dX5_read_127 : decode cX5_read 127 = .ok (.iastore, 1) := dk_i kdX5_read_110 9 rfl
theorem dX5_read_128 : decode cX5_read 128 = .ok (.aload_n 0, 1) := dk_i kdX5_read_110 10 rfl
theorem dX5_read_129 : decode cX5_read 129 = .ok (.getfield 19, 3) := dk_i kdX5_read_110 11 rfl
theorem dX5_read_132 : decode cX5_read 132 = .ok (.iload 4, 2) := dk_i kdX5_read_110 12 rfl
theorem dX5_read_134 : decode cX5_read 134 = .ok (.aload_n 1, 1) := dk_i kdX5_read_110 13 rfl
theorem dX5_read_135 : decode cX5_read 135 = .ok (.iconst 3, 1) := dk_i kdX5_read_110 14 rfl
theorem dX5_read_136 : decode cX5_read 136 = .ok (.iload 4, 2) := dk_i kdX5_read_110 15 rfl
def ldX5_read_138 : List (Nat × ClassFile.Instr × Nat) := [(138, .imul, 1), (139, .iconst 1, 1), (140, .iadd, 1), (141, .invokevirtual 35, 3), (144, .iastore, 1), (145, .aload_n 0, 1), (146, .getfield 22, 3), (149, .iload 4, 2), (151, .aload_n 1, 1), (152, .iconst 3, 1), (153, .iload 4, 2), (155, .imul, 1), (156, .iconst 2, 1), (157, .iadd, 1), (158, .invokevirtual 35, 3), (161, .iastore, 1)]
theorem kdX5_read_138 : dkO cX5_read 138 ldX5_read_138 = true := by decide +kernel
theorem dX5_read_138 : decode cX5_read 138 = .ok (.imul, 1) := dk_i kdX5_read_138 0 rfl
theorem dX5_read_139 : decode cX5_read 139 = .ok (.iconst 1, 1) := dk_i kdX5_read_138 1 rfl
theorem dX5_read_140 : decode cX5_read 140 = .ok (.iadd, 1) := dk_i kdX5_read_138 2 rfl
theorem dX5_read_141 : decode cX5_read 141 = .ok (.invokevirtual 35, 3) := dk_i kdX5_read_138 3 rfl
theorem dX5_read_144 : decode cX5_read 144 = .ok (.iastore, 1) := dk_i kdX5_read_138 4 rfl
theorem dX5_read_145 : decode cX5_read 145 = .ok (.aload_n 0, 1) := dk_i kdX5_read_138 5 rfl
theorem dX5_read_146 : decode cX5_read 146 = .ok (.getfield 22, 3) := dk_i kdX5_read_138 6 rfl
theorem dX5_read_149 : decode cX5_read 149 = .ok (.iload 4, 2) := dk_i kdX5_read_138 7 rfl
theorem dX5_read_151 : decode cX5_read 151 = .ok (.aload_n 1, 1) := dk_i kdX5_read_138 8 rfl
theorem dX5_read_152 : decode cX5_read 152 = .ok (.iconst 3, 1) := dk_i kdX5_read_138 9 rfl
theorem dX5_read_153 : decode cX5_read 153 = .ok (.iload 4, 2) := dk_i kdX5_read_138 10 rfl
theorem dX5_read_155 : decode cX5_read 155 = .ok (.imul, 1) := dk_i kdX5_read_138 11 rfl
theorem dX5_read_156 : decode cX5_read 156 = .ok (.iconst 2, 1) := dk_i kdX5_read_138 12 rfl
theorem dX5_read_157 : decode cX5_read 157 = .ok (.iadd, 1) := dk_i kdX5_read_138 13 rfl
theorem dX5_read_158 : decode cX5_read 158 = .ok (.invokevirtual 35, 3) := dk_i kdX5_read_138 14 rfl
theorem dX5_read_161 : decode cX5_read 161 = .ok (.iastore, 1) := dk_i kdX5_read_138 15 rfl
def ldX5_read_162 : List (Nat × ClassFile.Instr × Nat) := [(162, .iinc 4 1, 3), (165, .goto (-58), 3), (168, .aload_n 0, 1), (169, .iload_n 3, 1), (170, .putfield 9, 3), (173, .iconst 1, 1), (174, .ireturn, 1)]
theorem kdX5_read_162 : dkO cX5_read 162 ldX5_read_162 = true := by decide +kernel
theorem dX5_read_162 : decode cX5_read 162 = .ok (.iinc 4 1, 3) := dk_i kdX5_read_162 0 rfl
theorem dX5_read_165 : decode cX5_read 165 = .ok (.goto (-58), 3) := dk_i kdX5_read_162 1 rfl
theorem dX5_read_168 : decode cX5_read 168 = .ok (.aload_n 0, 1) := dk_i kdX5_read_162 2 rfl
theorem dX5_read_169 : decode cX5_read 169 = .ok (.iload_n 3, 1) := dk_i kdX5_read_162 3 rfl
theorem dX5_read_170 : decode cX5_read 170 = .ok (.putfield 9, 3) := dk_i kdX5_read_162 4 rfl
theorem dX5_read_173 : decode cX5_read 173 = .ok (.iconst 1, 1) := dk_i kdX5_read_162 5 rfl
theorem dX5_read_174 : decode cX5_read 174 = .ok (.ireturn, 1) := dk_i kdX5_read_162 6 rfl
def ldX5_isAbout_0 : List (Nat × ClassFile.Instr × Nat) := [(0, .iconst 0, 1), (1, .istore_n 2, 1), (2, .iload_n 2, 1), (3, .aload_n 0, 1), (4, .getfield 9, 3), (7, .if_icmp .ge 21, 3), (10, .aload_n 0, 1), (11, .getfield 19, 3), (14, .iload_n 2, 1), (15, .iaload, 1), (16, .iload_n 1, 1), (17, .if_icmp .ne 5, 3), (20, .iconst 1, 1), (21, .ireturn, 1), (22, .iinc 2 1, 3), (25, .goto (-23), 3)]
theorem kdX5_isAbout_0 : dkO cX5_isAbout 0 ldX5_isAbout_0 = true := by decide +kernel
theorem dX5_isAbout_0 : decode cX5_isAbout 0 = .ok (.iconst 0, 1) := dk_i kdX5_isAbout_0 0 rfl
theorem dX5_isAbout_1 : decode cX5_isAbout 1 = .ok (.istore_n 2, 1) := dk_i kdX5_isAbout_0 1 rfl
theorem dX5_isAbout_2 : decode cX5_isAbout 2 = .ok (.iload_n 2, 1) := dk_i kdX5_isAbout_0 2 rfl
theorem dX5_isAbout_3 : decode cX5_isAbout 3 = .ok (.aload_n 0, 1) := dk_i kdX5_isAbout_0 3 rfl
theorem dX5_isAbout_4 : decode cX5_isAbout 4 = .ok (.getfield 9, 3) := dk_i kdX5_isAbout_0 4 rfl
theorem dX5_isAbout_7 : decode cX5_isAbout 7 = .ok (.if_icmp .ge 21, 3) := dk_i kdX5_isAbout_0 5 rfl
theorem dX5_isAbout_10 : decode cX5_isAbout 10 = .ok (.aload_n 0, 1) := dk_i kdX5_isAbout_0 6 rfl
theorem dX5_isAbout_11 : decode cX5_isAbout 11 = .ok (.getfield 19, 3) := dk_i kdX5_isAbout_0 7 rfl
theorem dX5_isAbout_14 : decode cX5_isAbout 14 = .ok (.iload_n 2, 1) := dk_i kdX5_isAbout_0 8 rfl
theorem dX5_isAbout_15 : decode cX5_isAbout 15 = .ok (.iaload, 1) := dk_i kdX5_isAbout_0 9 rfl
theorem dX5_isAbout_16 : decode cX5_isAbout 16 = .ok (.iload_n 1, 1) := dk_i kdX5_isAbout_0 10 rfl
theorem dX5_isAbout_17 : decode cX5_isAbout 17 = .ok (.if_icmp .ne 5, 3) := dk_i kdX5_isAbout_0 11 rfl
theorem dX5_isAbout_20 : decode cX5_isAbout 20 = .ok (.iconst 1, 1) := dk_i kdX5_isAbout_0 12 rfl
theorem dX5_isAbout_21 : decode cX5_isAbout 21 = .ok (.ireturn, 1) := dk_i kdX5_isAbout_0 13 rfl
theorem dX5_isAbout_22 : decode cX5_isAbout 22 = .ok (.iinc 2 1, 3) := dk_i kdX5_isAbout_0 14 rfl
theorem dX5_isAbout_25 : decode cX5_isAbout 25 = .ok (.goto (-23), 3) := dk_i kdX5_isAbout_0 15 rfl
def ldX5_isAbout_28 : List (Nat × ClassFile.Instr × Nat) := [(28, .iconst 0, 1), (29, .ireturn, 1)]
theorem kdX5_isAbout_28 : dkO cX5_isAbout 28 ldX5_isAbout_28 = true := by decide +kernel
theorem dX5_isAbout_28 : decode cX5_isAbout 28 = .ok (.iconst 0, 1) := dk_i kdX5_isAbout_28 0 rfl
theorem dX5_isAbout_29 : decode cX5_isAbout 29 = .ok (.ireturn, 1) := dk_i kdX5_isAbout_28 1 rfl
def ldX5_isSo_0 : List (Nat × ClassFile.Instr × Nat) := [(0, .iconst 0, 1), (1, .istore 4, 2), (3, .iload 4, 2), (5, .aload_n 0, 1), (6, .getfield 9, 3), (9, .if_icmp .ge 76, 3), (12, .aload_n 0, 1), (13, .getfield 19, 3), (16, .iload 4, 2), (18, .iaload, 1), (19, .iload_n 1, 1), (20, .if_icmp .ne 59, 3), (23, .aload_n 0, 1), (24, .getfield 15, 3), (27, .iload 4, 2), (29, .iaload, 1)]
theorem kdX5_isSo_0 : dkO cX5_isSo 0 ldX5_isSo_0 = true := by decide +kernel
theorem dX5_isSo_0 : decode cX5_isSo 0 = .ok (.iconst 0, 1) := dk_i kdX5_isSo_0 0 rfl
theorem dX5_isSo_1 : decode cX5_isSo 1 = .ok (.istore 4, 2) := dk_i kdX5_isSo_0 1 rfl
theorem dX5_isSo_3 : decode cX5_isSo 3 = .ok (.iload 4, 2) := dk_i kdX5_isSo_0 2 rfl
theorem dX5_isSo_5 : decode cX5_isSo 5 = .ok (.aload_n 0, 1) := dk_i kdX5_isSo_0 3 rfl
theorem dX5_isSo_6 : decode cX5_isSo 6 = .ok (.getfield 9, 3) := dk_i kdX5_isSo_0 4 rfl
theorem dX5_isSo_9 : decode cX5_isSo 9 = .ok (.if_icmp .ge 76, 3) := dk_i kdX5_isSo_0 5 rfl
theorem dX5_isSo_12 : decode cX5_isSo 12 = .ok (.aload_n 0, 1) := dk_i kdX5_isSo_0 6 rfl
theorem dX5_isSo_13 : decode cX5_isSo 13 = .ok (.getfield 19, 3) := dk_i kdX5_isSo_0 7 rfl
theorem dX5_isSo_16 : decode cX5_isSo 16 = .ok (.iload 4, 2) := dk_i kdX5_isSo_0 8 rfl
theorem dX5_isSo_18 : decode cX5_isSo 18 = .ok (.iaload, 1) := dk_i kdX5_isSo_0 9 rfl
theorem dX5_isSo_19 : decode cX5_isSo 19 = .ok (.iload_n 1, 1) := dk_i kdX5_isSo_0 10 rfl
theorem dX5_isSo_20 : decode cX5_isSo 20 = .ok (.if_icmp .ne 59, 3) := dk_i kdX5_isSo_0 11 rfl
theorem dX5_isSo_23 : decode cX5_isSo 23 = .ok (.aload_n 0, 1) := dk_i kdX5_isSo_0 12 rfl
theorem dX5_isSo_24 : decode cX5_isSo 24 = .ok (.getfield 15, 3) := dk_i kdX5_isSo_0 13 rfl
theorem dX5_isSo_27 : decode cX5_isSo 27 = .ok (.iload 4, 2) := dk_i kdX5_isSo_0 14 rfl
theorem dX5_isSo_29 : decode cX5_isSo 29 = .ok (.iaload, 1) := dk_i kdX5_isSo_0 15 rfl
def ldX5_isSo_30 : List (Nat × ClassFile.Instr × Nat) := [(30, .iload_n 3, 1), (31, .if_icmp .gt 19, 3), (34, .aload_n 0, 1), (35, .getfield 15, 3), (38, .iload 4, 2), (40, .iaload, 1), (41, .aload_n 2, 1), (42, .arraylength, 1), (43, .if_icmp .ge 7, 3), (46, .iconst 1, 1), (47, .goto 4, 3), (50, .iconst 0, 1), (51, .istore 5, 2), (53, .iload 5, 2), (55, .ifCond .eq 22, 3), (58, .aload_n 2, 1)]
theorem kdX5_isSo_30 : dkO cX5_isSo 30 ldX5_isSo_30 = true := by decide +kernel
theorem dX5_isSo_30 : decode cX5_isSo 30 = .ok (.iload_n 3, 1) := dk_i kdX5_isSo_30 0 rfl
theorem dX5_isSo_31 : decode cX5_isSo 31 = .ok (.if_icmp .gt 19, 3) := dk_i kdX5_isSo_30 1 rfl
theorem dX5_isSo_34 : decode cX5_isSo 34 = .ok (.aload_n 0, 1) := dk_i kdX5_isSo_30 2 rfl
theorem dX5_isSo_35 : decode cX5_isSo 35 = .ok (.getfield 15, 3) := dk_i kdX5_isSo_30 3 rfl
theorem dX5_isSo_38 : decode cX5_isSo 38 = .ok (.iload 4, 2) := dk_i kdX5_isSo_30 4 rfl
theorem dX5_isSo_40 : decode cX5_isSo 40 = .ok (.iaload, 1) := dk_i kdX5_isSo_30 5 rfl
theorem dX5_isSo_41 : decode cX5_isSo 41 = .ok (.aload_n 2, 1) := dk_i kdX5_isSo_30 6 rfl
theorem dX5_isSo_42 : decode cX5_isSo 42 = .ok (.arraylength, 1) := dk_i kdX5_isSo_30 7 rfl
theorem dX5_isSo_43 : decode cX5_isSo 43 = .ok (.if_icmp .ge 7, 3) := dk_i kdX5_isSo_30 8 rfl
theorem dX5_isSo_46 : decode cX5_isSo 46 = .ok (.iconst 1, 1) := dk_i kdX5_isSo_30 9 rfl
theorem dX5_isSo_47 : decode cX5_isSo 47 = .ok (.goto 4, 3) := dk_i kdX5_isSo_30 10 rfl
theorem dX5_isSo_50 : decode cX5_isSo 50 = .ok (.iconst 0, 1) := dk_i kdX5_isSo_30 11 rfl
theorem dX5_isSo_51 : decode cX5_isSo 51 = .ok (.istore 5, 2) := dk_i kdX5_isSo_30 12 rfl
theorem dX5_isSo_53 : decode cX5_isSo 53 = .ok (.iload 5, 2) := dk_i kdX5_isSo_30 13 rfl
theorem dX5_isSo_55 : decode cX5_isSo 55 = .ok (.ifCond .eq 22, 3) := dk_i kdX5_isSo_30 14 rfl
theorem dX5_isSo_58 : decode cX5_isSo 58 = .ok (.aload_n 2, 1) := dk_i kdX5_isSo_30 15 rfl
def ldX5_isSo_59 : List (Nat × ClassFile.Instr × Nat) := [(59, .aload_n 0, 1), (60, .getfield 15, 3), (63, .iload 4, 2), (65, .iaload, 1), (66, .iaload, 1), (67, .aload_n 0, 1), (68, .getfield 22, 3), (71, .iload 4, 2), (73, .iaload, 1), (74, .if_icmp .eq 5, 3), (77, .iconst 0, 1), (78, .ireturn, 1), (79, .iinc 4 1, 3), (82, .goto (-79), 3), (85, .iconst 1, 1), (86, .ireturn, 1)]
theorem kdX5_isSo_59 : dkO cX5_isSo 59 ldX5_isSo_59 = true := by decide +kernel
theorem dX5_isSo_59 : decode cX5_isSo 59 = .ok (.aload_n 0, 1) := dk_i kdX5_isSo_59 0 rfl
theorem dX5_isSo_60 : decode cX5_isSo 60 = .ok (.getfield 15, 3) := dk_i kdX5_isSo_59 1 rfl
theorem dX5_isSo_63 : decode cX5_isSo 63 = .ok (.iload 4, 2) := dk_i kdX5_isSo_59 2 rfl
theorem dX5_isSo_65 : decode cX5_isSo 65 = .ok (.iaload, 1) := dk_i kdX5_isSo_59 3 rfl
theorem dX5_isSo_66 : decode cX5_isSo 66 = .ok (.iaload, 1) := dk_i kdX5_isSo_59 4 rfl
theorem dX5_isSo_67 : decode cX5_isSo 67 = .ok (.aload_n 0, 1) := dk_i kdX5_isSo_59 5 rfl
theorem dX5_isSo_68 : decode cX5_isSo 68 = .ok (.getfield 22, 3) := dk_i kdX5_isSo_59 6 rfl
theorem dX5_isSo_71 : decode cX5_isSo 71 = .ok (.iload 4, 2) := dk_i kdX5_isSo_59 7 rfl
theorem dX5_isSo_73 : decode cX5_isSo 73 = .ok (.iaload, 1) := dk_i kdX5_isSo_59 8 rfl
theorem dX5_isSo_74 : decode cX5_isSo 74 = .ok (.if_icmp .eq 5, 3) := dk_i kdX5_isSo_59 9 rfl
theorem dX5_isSo_77 : decode cX5_isSo 77 = .ok (.iconst 0, 1) := dk_i kdX5_isSo_59 10 rfl
theorem dX5_isSo_78 : decode cX5_isSo 78 = .ok (.ireturn, 1) := dk_i kdX5_isSo_59 11 rfl
theorem dX5_isSo_79 : decode cX5_isSo 79 = .ok (.iinc 4 1, 3) := dk_i kdX5_isSo_59 12 rfl
theorem dX5_isSo_82 : decode cX5_isSo 82 = .ok (.goto (-79), 3) := dk_i kdX5_isSo_59 13 rfl
theorem dX5_isSo_85 : decode cX5_isSo 85 = .ok (.iconst 1, 1) := dk_i kdX5_isSo_59 14 rfl
theorem dX5_isSo_86 : decode cX5_isSo 86 = .ok (.ireturn, 1) := dk_i kdX5_isSo_59 15 rfl
def ldX5_noteHours_0 : List (Nat × ClassFile.Instr × Nat) := [(0, .iload_n 1, 1), (1, .ifCond .lt 9, 3), (4, .iload_n 1, 1), (5, .bipush 7, 2), (7, .if_icmp .lt 4, 3), (10, .return_, 1), (11, .iconst 0, 1), (12, .istore 4, 2), (14, .iload 4, 2), (16, .iload_n 3, 1), (17, .if_icmp .gt 36, 3), (20, .iload 4, 2), (22, .bipush 40, 2), (24, .if_icmp .gt 29, 3), (27, .iload 4, 2), (29, .aload_n 2, 1)]
theorem kdX5_noteHours_0 : dkO cX5_noteHours 0 ldX5_noteHours_0 = true := by decide +kernel
theorem dX5_noteHours_0 : decode cX5_noteHours 0 = .ok (.iload_n 1, 1) := dk_i kdX5_noteHours_0 0 rfl
theorem dX5_noteHours_1 : decode cX5_noteHours 1 = .ok (.ifCond .lt 9, 3) := dk_i kdX5_noteHours_0 1 rfl
theorem dX5_noteHours_4 : decode cX5_noteHours 4 = .ok (.iload_n 1, 1) := dk_i kdX5_noteHours_0 2 rfl
theorem dX5_noteHours_5 : decode cX5_noteHours 5 = .ok (.bipush 7, 2) := dk_i kdX5_noteHours_0 3 rfl
theorem dX5_noteHours_7 : decode cX5_noteHours 7 = .ok (.if_icmp .lt 4, 3) := dk_i kdX5_noteHours_0 4 rfl
theorem dX5_noteHours_10 : decode cX5_noteHours 10 = .ok (.return_, 1) := dk_i kdX5_noteHours_0 5 rfl
theorem dX5_noteHours_11 : decode cX5_noteHours 11 = .ok (.iconst 0, 1) := dk_i kdX5_noteHours_0 6 rfl
theorem dX5_noteHours_12 : decode cX5_noteHours 12 = .ok (.istore 4, 2) := dk_i kdX5_noteHours_0 7 rfl
theorem dX5_noteHours_14 : decode cX5_noteHours 14 = .ok (.iload 4, 2) := dk_i kdX5_noteHours_0 8 rfl
theorem dX5_noteHours_16 : decode cX5_noteHours 16 = .ok (.iload_n 3, 1) := dk_i kdX5_noteHours_0 9 rfl
theorem dX5_noteHours_17 : decode cX5_noteHours 17 = .ok (.if_icmp .gt 36, 3) := dk_i kdX5_noteHours_0 10 rfl
theorem dX5_noteHours_20 : decode cX5_noteHours 20 = .ok (.iload 4, 2) := dk_i kdX5_noteHours_0 11 rfl
theorem dX5_noteHours_22 : decode cX5_noteHours 22 = .ok (.bipush 40, 2) := dk_i kdX5_noteHours_0 12 rfl
theorem dX5_noteHours_24 : decode cX5_noteHours 24 = .ok (.if_icmp .gt 29, 3) := dk_i kdX5_noteHours_0 13 rfl
theorem dX5_noteHours_27 : decode cX5_noteHours 27 = .ok (.iload 4, 2) := dk_i kdX5_noteHours_0 14 rfl
theorem dX5_noteHours_29 : decode cX5_noteHours 29 = .ok (.aload_n 2, 1) := dk_i kdX5_noteHours_0 15 rfl
def ldX5_noteHours_30 : List (Nat × ClassFile.Instr × Nat) := [(30, .arraylength, 1), (31, .if_icmp .ge 22, 3), (34, .aload_n 0, 1), (35, .getfield 27, 3), (38, .iload_n 1, 1), (39, .aaload, 1), (40, .iload 4, 2), (42, .aload_n 2, 1), (43, .iload 4, 2), (45, .iaload, 1), (46, .iastore, 1), (47, .iinc 4 1, 3), (50, .goto (-36), 3), (53, .return_, 1)]
theorem kdX5_noteHours_30 : dkO cX5_noteHours 30 ldX5_noteHours_30 = true := by decide +kernel
theorem dX5_noteHours_30 : decode cX5_noteHours 30 = .ok (.arraylength, 1) := dk_i kdX5_noteHours_30 0 rfl
theorem dX5_noteHours_31 : decode cX5_noteHours 31 = .ok (.if_icmp .ge 22, 3) := dk_i kdX5_noteHours_30 1 rfl
theorem dX5_noteHours_34 : decode cX5_noteHours 34 = .ok (.aload_n 0, 1) := dk_i kdX5_noteHours_30 2 rfl
theorem dX5_noteHours_35 : decode cX5_noteHours 35 = .ok (.getfield 27, 3) := dk_i kdX5_noteHours_30 3 rfl
theorem dX5_noteHours_38 : decode cX5_noteHours 38 = .ok (.iload_n 1, 1) := dk_i kdX5_noteHours_30 4 rfl
theorem dX5_noteHours_39 : decode cX5_noteHours 39 = .ok (.aaload, 1) := dk_i kdX5_noteHours_30 5 rfl
theorem dX5_noteHours_40 : decode cX5_noteHours 40 = .ok (.iload 4, 2) := dk_i kdX5_noteHours_30 6 rfl
theorem dX5_noteHours_42 : decode cX5_noteHours 42 = .ok (.aload_n 2, 1) := dk_i kdX5_noteHours_30 7 rfl
theorem dX5_noteHours_43 : decode cX5_noteHours 43 = .ok (.iload 4, 2) := dk_i kdX5_noteHours_30 8 rfl
theorem dX5_noteHours_45 : decode cX5_noteHours 45 = .ok (.iaload, 1) := dk_i kdX5_noteHours_30 9 rfl
theorem dX5_noteHours_46 : decode cX5_noteHours 46 = .ok (.iastore, 1) := dk_i kdX5_noteHours_30 10 rfl
theorem dX5_noteHours_47 : decode cX5_noteHours 47 = .ok (.iinc 4 1, 3) := dk_i kdX5_noteHours_30 11 rfl
theorem dX5_noteHours_50 : decode cX5_noteHours 50 = .ok (.goto (-36), 3) := dk_i kdX5_noteHours_30 12 rfl
theorem dX5_noteHours_53 : decode cX5_noteHours 53 = .ok (.return_, 1) := dk_i kdX5_noteHours_30 13 rfl
def ldX5_mostLeft_0 : List (Nat × ClassFile.Instr × Nat) := [(0, .iload_n 2, 1), (1, .ifCond .lt 9, 3), (4, .iload_n 2, 1), (5, .bipush 40, 2), (7, .if_icmp .le 5, 3), (10, .iconst 0, 1), (11, .ireturn, 1), (12, .iconst 0, 1), (13, .istore_n 3, 1), (14, .iconst 0, 1), (15, .istore 4, 2), (17, .iload 4, 2), (19, .bipush 7, 2), (21, .if_icmp .ge 91, 3), (24, .iconst 0, 1), (25, .istore 5, 2)]
theorem kdX5_mostLeft_0 : dkO cX5_mostLeft 0 ldX5_mostLeft_0 = true := by decide +kernel
theorem dX5_mostLeft_0 : decode cX5_mostLeft 0 = .ok (.iload_n 2, 1) := dk_i kdX5_mostLeft_0 0 rfl
theorem dX5_mostLeft_1 : decode cX5_mostLeft 1 = .ok (.ifCond .lt 9, 3) := dk_i kdX5_mostLeft_0 1 rfl
theorem dX5_mostLeft_4 : decode cX5_mostLeft 4 = .ok (.iload_n 2, 1) := dk_i kdX5_mostLeft_0 2 rfl
theorem dX5_mostLeft_5 : decode cX5_mostLeft 5 = .ok (.bipush 40, 2) := dk_i kdX5_mostLeft_0 3 rfl
theorem dX5_mostLeft_7 : decode cX5_mostLeft 7 = .ok (.if_icmp .le 5, 3) := dk_i kdX5_mostLeft_0 4 rfl
theorem dX5_mostLeft_10 : decode cX5_mostLeft 10 = .ok (.iconst 0, 1) := dk_i kdX5_mostLeft_0 5 rfl
theorem dX5_mostLeft_11 : decode cX5_mostLeft 11 = .ok (.ireturn, 1) := dk_i kdX5_mostLeft_0 6 rfl
theorem dX5_mostLeft_12 : decode cX5_mostLeft 12 = .ok (.iconst 0, 1) := dk_i kdX5_mostLeft_0 7 rfl
theorem dX5_mostLeft_13 : decode cX5_mostLeft 13 = .ok (.istore_n 3, 1) := dk_i kdX5_mostLeft_0 8 rfl
theorem dX5_mostLeft_14 : decode cX5_mostLeft 14 = .ok (.iconst 0, 1) := dk_i kdX5_mostLeft_0 9 rfl
theorem dX5_mostLeft_15 : decode cX5_mostLeft 15 = .ok (.istore 4, 2) := dk_i kdX5_mostLeft_0 10 rfl
theorem dX5_mostLeft_17 : decode cX5_mostLeft 17 = .ok (.iload 4, 2) := dk_i kdX5_mostLeft_0 11 rfl
theorem dX5_mostLeft_19 : decode cX5_mostLeft 19 = .ok (.bipush 7, 2) := dk_i kdX5_mostLeft_0 12 rfl
theorem dX5_mostLeft_21 : decode cX5_mostLeft 21 = .ok (.if_icmp .ge 91, 3) := dk_i kdX5_mostLeft_0 13 rfl
theorem dX5_mostLeft_24 : decode cX5_mostLeft 24 = .ok (.iconst 0, 1) := dk_i kdX5_mostLeft_0 14 rfl
theorem dX5_mostLeft_25 : decode cX5_mostLeft 25 = .ok (.istore 5, 2) := dk_i kdX5_mostLeft_0 15 rfl
def ldX5_mostLeft_27 : List (Nat × ClassFile.Instr × Nat) := [(27, .iconst 0, 1), (28, .istore 6, 2), (30, .iload 6, 2), (32, .bipush 7, 2), (34, .if_icmp .ge 65, 3), (37, .iload_n 1, 1), (38, .iload 4, 2), (40, .ishr, 1), (41, .iconst 1, 1), (42, .iand, 1), (43, .iconst 1, 1), (44, .if_icmp .ne 17, 3), (47, .iload_n 1, 1), (48, .iload 6, 2), (50, .ishr, 1), (51, .iconst 1, 1)]
theorem kdX5_mostLeft_27 : dkO cX5_mostLeft 27 ldX5_mostLeft_27 = true := by decide +kernel
theorem dX5_mostLeft_27 : decode cX5_mostLeft 27 = .ok (.iconst 0, 1) := dk_i kdX5_mostLeft_27 0 rfl
theorem dX5_mostLeft_28 : decode cX5_mostLeft 28 = .ok (.istore 6, 2) := dk_i kdX5_mostLeft_27 1 rfl
theorem dX5_mostLeft_30 : decode cX5_mostLeft 30 = .ok (.iload 6, 2) := dk_i kdX5_mostLeft_27 2 rfl
theorem dX5_mostLeft_32 : decode cX5_mostLeft 32 = .ok (.bipush 7, 2) := dk_i kdX5_mostLeft_27 3 rfl
theorem dX5_mostLeft_34 : decode cX5_mostLeft 34 = .ok (.if_icmp .ge 65, 3) := dk_i kdX5_mostLeft_27 4 rfl
theorem dX5_mostLeft_37 : decode cX5_mostLeft 37 = .ok (.iload_n 1, 1) := dk_i kdX5_mostLeft_27 5 rfl
theorem dX5_mostLeft_38 : decode cX5_mostLeft 38 = .ok (.iload 4, 2) := dk_i kdX5_mostLeft_27 6 rfl
theorem dX5_mostLeft_40 : decode cX5_mostLeft 40 = .ok (.ishr, 1) := dk_i kdX5_mostLeft_27 7 rfl
theorem dX5_mostLeft_41 : decode cX5_mostLeft 41 = .ok (.iconst 1, 1) := dk_i kdX5_mostLeft_27 8 rfl
theorem dX5_mostLeft_42 : decode cX5_mostLeft 42 = .ok (.iand, 1) := dk_i kdX5_mostLeft_27 9 rfl
theorem dX5_mostLeft_43 : decode cX5_mostLeft 43 = .ok (.iconst 1, 1) := dk_i kdX5_mostLeft_27 10 rfl
theorem dX5_mostLeft_44 : decode cX5_mostLeft 44 = .ok (.if_icmp .ne 17, 3) := dk_i kdX5_mostLeft_27 11 rfl
theorem dX5_mostLeft_47 : decode cX5_mostLeft 47 = .ok (.iload_n 1, 1) := dk_i kdX5_mostLeft_27 12 rfl
theorem dX5_mostLeft_48 : decode cX5_mostLeft 48 = .ok (.iload 6, 2) := dk_i kdX5_mostLeft_27 13 rfl
theorem dX5_mostLeft_50 : decode cX5_mostLeft 50 = .ok (.ishr, 1) := dk_i kdX5_mostLeft_27 14 rfl
theorem dX5_mostLeft_51 : decode cX5_mostLeft 51 = .ok (.iconst 1, 1) := dk_i kdX5_mostLeft_27 15 rfl
def ldX5_mostLeft_52 : List (Nat × ClassFile.Instr × Nat) := [(52, .iand, 1), (53, .iconst 1, 1), (54, .if_icmp .ne 7, 3), (57, .iconst 1, 1), (58, .goto 4, 3), (61, .iconst 0, 1), (62, .istore 7, 2), (64, .iload 7, 2), (66, .ifCond .eq 27, 3), (69, .aload_n 0, 1), (70, .getfield 27, 3), (73, .iload 4, 2), (75, .aaload, 1), (76, .iload_n 2, 1), (77, .iaload, 1), (78, .aload_n 0, 1)]
theorem kdX5_mostLeft_52 : dkO cX5_mostLeft 52 ldX5_mostLeft_52 = true := by decide +kernel
theorem dX5_mostLeft_52 : decode cX5_mostLeft 52 = .ok (.iand, 1) := dk_i kdX5_mostLeft_52 0 rfl
theorem dX5_mostLeft_53 : decode cX5_mostLeft 53 = .ok (.iconst 1, 1) := dk_i kdX5_mostLeft_52 1 rfl
theorem dX5_mostLeft_54 : decode cX5_mostLeft 54 = .ok (.if_icmp .ne 7, 3) := dk_i kdX5_mostLeft_52 2 rfl
theorem dX5_mostLeft_57 : decode cX5_mostLeft 57 = .ok (.iconst 1, 1) := dk_i kdX5_mostLeft_52 3 rfl
theorem dX5_mostLeft_58 : decode cX5_mostLeft 58 = .ok (.goto 4, 3) := dk_i kdX5_mostLeft_52 4 rfl
theorem dX5_mostLeft_61 : decode cX5_mostLeft 61 = .ok (.iconst 0, 1) := dk_i kdX5_mostLeft_52 5 rfl
theorem dX5_mostLeft_62 : decode cX5_mostLeft 62 = .ok (.istore 7, 2) := dk_i kdX5_mostLeft_52 6 rfl
theorem dX5_mostLeft_64 : decode cX5_mostLeft 64 = .ok (.iload 7, 2) := dk_i kdX5_mostLeft_52 7 rfl
theorem dX5_mostLeft_66 : decode cX5_mostLeft 66 = .ok (.ifCond .eq 27, 3) := dk_i kdX5_mostLeft_52 8 rfl
theorem dX5_mostLeft_69 : decode cX5_mostLeft 69 = .ok (.aload_n 0, 1) := dk_i kdX5_mostLeft_52 9 rfl
theorem dX5_mostLeft_70 : decode cX5_mostLeft 70 = .ok (.getfield 27, 3) := dk_i kdX5_mostLeft_52 10 rfl
theorem dX5_mostLeft_73 : decode cX5_mostLeft 73 = .ok (.iload 4, 2) := dk_i kdX5_mostLeft_52 11 rfl
theorem dX5_mostLeft_75 : decode cX5_mostLeft 75 = .ok (.aaload, 1) := dk_i kdX5_mostLeft_52 12 rfl
theorem dX5_mostLeft_76 : decode cX5_mostLeft 76 = .ok (.iload_n 2, 1) := dk_i kdX5_mostLeft_52 13 rfl
theorem dX5_mostLeft_77 : decode cX5_mostLeft 77 = .ok (.iaload, 1) := dk_i kdX5_mostLeft_52 14 rfl
theorem dX5_mostLeft_78 : decode cX5_mostLeft 78 = .ok (.aload_n 0, 1) := dk_i kdX5_mostLeft_52 15 rfl
def ldX5_mostLeft_79 : List (Nat × ClassFile.Instr × Nat) := [(79, .getfield 27, 3), (82, .iload 6, 2), (84, .aaload, 1), (85, .iload_n 2, 1), (86, .iaload, 1), (87, .if_icmp .ne 6, 3), (90, .iinc 5 1, 3), (93, .iinc 6 1, 3), (96, .goto (-66), 3), (99, .iload_n 3, 1), (100, .iload 5, 2), (102, .invokestatic 45, 3), (105, .istore_n 3, 1), (106, .iinc 4 1, 3), (109, .goto (-92), 3), (112, .iload_n 3, 1)]
theorem kdX5_mostLeft_79 : dkO cX5_mostLeft 79 ldX5_mostLeft_79 = true := by decide +kernel
theorem dX5_mostLeft_79 : decode cX5_mostLeft 79 = .ok (.getfield 27, 3) := dk_i kdX5_mostLeft_79 0 rfl
theorem dX5_mostLeft_82 : decode cX5_mostLeft 82 = .ok (.iload 6, 2) := dk_i kdX5_mostLeft_79 1 rfl
theorem dX5_mostLeft_84 : decode cX5_mostLeft 84 = .ok (.aaload, 1) := dk_i kdX5_mostLeft_79 2 rfl
theorem dX5_mostLeft_85 : decode cX5_mostLeft 85 = .ok (.iload_n 2, 1) := dk_i kdX5_mostLeft_79 3 rfl
theorem dX5_mostLeft_86 : decode cX5_mostLeft 86 = .ok (.iaload, 1) := dk_i kdX5_mostLeft_79 4 rfl
theorem dX5_mostLeft_87 : decode cX5_mostLeft 87 = .ok (.if_icmp .ne 6, 3) := dk_i kdX5_mostLeft_79 5 rfl
theorem dX5_mostLeft_90 : decode cX5_mostLeft 90 = .ok (.iinc 5 1, 3) := dk_i kdX5_mostLeft_79 6 rfl
theorem dX5_mostLeft_93 : decode cX5_mostLeft 93 = .ok (.iinc 6 1, 3) := dk_i kdX5_mostLeft_79 7 rfl
theorem dX5_mostLeft_96 : decode cX5_mostLeft 96 = .ok (.goto (-66), 3) := dk_i kdX5_mostLeft_79 8 rfl
theorem dX5_mostLeft_99 : decode cX5_mostLeft 99 = .ok (.iload_n 3, 1) := dk_i kdX5_mostLeft_79 9 rfl
theorem dX5_mostLeft_100 : decode cX5_mostLeft 100 = .ok (.iload 5, 2) := dk_i kdX5_mostLeft_79 10 rfl
theorem dX5_mostLeft_102 : decode cX5_mostLeft 102 = .ok (.invokestatic 45, 3) := dk_i kdX5_mostLeft_79 11 rfl
theorem dX5_mostLeft_105 : decode cX5_mostLeft 105 = .ok (.istore_n 3, 1) := dk_i kdX5_mostLeft_79 12 rfl
theorem dX5_mostLeft_106 : decode cX5_mostLeft 106 = .ok (.iinc 4 1, 3) := dk_i kdX5_mostLeft_79 13 rfl
theorem dX5_mostLeft_109 : decode cX5_mostLeft 109 = .ok (.goto (-92), 3) := dk_i kdX5_mostLeft_79 14 rfl
theorem dX5_mostLeft_112 : decode cX5_mostLeft 112 = .ok (.iload_n 3, 1) := dk_i kdX5_mostLeft_79 15 rfl
def ldX5_mostLeft_113 : List (Nat × ClassFile.Instr × Nat) := [(113, .ireturn, 1)]
theorem kdX5_mostLeft_113 : dkO cX5_mostLeft 113 ldX5_mostLeft_113 = true := by decide +kernel
theorem dX5_mostLeft_113 : decode cX5_mostLeft 113 = .ok (.ireturn, 1) := dk_i kdX5_mostLeft_113 0 rfl
end
section
def ldX6_init_0 : List (Nat × ClassFile.Instr × Nat) := [(0, .aload_n 0, 1), (1, .invokespecial 3, 3), (4, .aload_n 0, 1), (5, .iconst 0, 1), (6, .putfield 9, 3), (9, .aload_n 0, 1), (10, .iconst 5, 1), (11, .newarray .int, 2), (13, .putfield 15, 3), (16, .aload_n 0, 1), (17, .iconst 5, 1), (18, .newarray .int, 2), (20, .putfield 19, 3), (23, .aload_n 0, 1), (24, .bipush 6, 2), (26, .newarray .int, 2)]
theorem kdX6_init_0 : dkO cX6_init 0 ldX6_init_0 = true := by decide +kernel
theorem dX6_init_0 : decode cX6_init 0 = .ok (.aload_n 0, 1) := dk_i kdX6_init_0 0 rfl
theorem dX6_init_1 : decode cX6_init 1 = .ok (.invokespecial 3, 3) := dk_i kdX6_init_0 1 rfl
theorem dX6_init_4 : decode cX6_init 4 = .ok (.aload_n 0, 1) := dk_i kdX6_init_0 2 rfl
theorem dX6_init_5 : decode cX6_init 5 = .ok (.iconst 0, 1) := dk_i kdX6_init_0 3 rfl
theorem dX6_init_6 : decode cX6_init 6 = .ok (.putfield 9, 3) := dk_i kdX6_init_0 4 rfl
theorem dX6_init_9 : decode cX6_init 9 = .ok (.aload_n 0, 1) := dk_i kdX6_init_0 5 rfl
theorem dX6_init_10 : decode cX6_init 10 = .ok (.iconst 5, 1) := dk_i kdX6_init_0 6 rfl
theorem dX6_init_11 : decode cX6_init 11 = .ok (.newarray .int, 2) := dk_i kdX6_init_0 7 rfl
theorem dX6_init_13 : decode cX6_init 13 = .ok (.putfield 15, 3) := dk_i kdX6_init_0 8 rfl
theorem dX6_init_16 : decode cX6_init 16 = .ok (.aload_n 0, 1) := dk_i kdX6_init_0 9 rfl
theorem dX6_init_17 : decode cX6_init 17 = .ok (.iconst 5, 1) := dk_i kdX6_init_0 10 rfl
theorem dX6_init_18 : decode cX6_init 18 = .ok (.newarray .int, 2) := dk_i kdX6_init_0 11 rfl
theorem dX6_init_20 : decode cX6_init 20 = .ok (.putfield 19, 3) := dk_i kdX6_init_0 12 rfl
theorem dX6_init_23 : decode cX6_init 23 = .ok (.aload_n 0, 1) := dk_i kdX6_init_0 13 rfl
theorem dX6_init_24 : decode cX6_init 24 = .ok (.bipush 6, 2) := dk_i kdX6_init_0 14 rfl
theorem dX6_init_26 : decode cX6_init 26 = .ok (.newarray .int, 2) := dk_i kdX6_init_0 15 rfl
def ldX6_init_28 : List (Nat × ClassFile.Instr × Nat) := [(28, .putfield 22, 3), (31, .aload_n 0, 1), (32, .iconst 0, 1), (33, .putfield 25, 3), (36, .aload_n 0, 1), (37, .bipush 6, 2), (39, .newarray .int, 2), (41, .putfield 28, 3), (44, .aload_n 0, 1), (45, .bipush 6, 2), (47, .newarray .int, 2), (49, .putfield 31, 3), (52, .aload_n 0, 1), (53, .aload_n 1, 1), (54, .putfield 34, 3), (57, .return_, 1)]
theorem kdX6_init_28 : dkO cX6_init 28 ldX6_init_28 = true := by decide +kernel
theorem dX6_init_28 : decode cX6_init 28 = .ok (.putfield 22, 3) := dk_i kdX6_init_28 0 rfl
theorem dX6_init_31 : decode cX6_init 31 = .ok (.aload_n 0, 1) := dk_i kdX6_init_28 1 rfl
theorem dX6_init_32 : decode cX6_init 32 = .ok (.iconst 0, 1) := dk_i kdX6_init_28 2 rfl
theorem dX6_init_33 : decode cX6_init 33 = .ok (.putfield 25, 3) := dk_i kdX6_init_28 3 rfl
theorem dX6_init_36 : decode cX6_init 36 = .ok (.aload_n 0, 1) := dk_i kdX6_init_28 4 rfl
theorem dX6_init_37 : decode cX6_init 37 = .ok (.bipush 6, 2) := dk_i kdX6_init_28 5 rfl
theorem dX6_init_39 : decode cX6_init 39 = .ok (.newarray .int, 2) := dk_i kdX6_init_28 6 rfl
theorem dX6_init_41 : decode cX6_init 41 = .ok (.putfield 28, 3) := dk_i kdX6_init_28 7 rfl
theorem dX6_init_44 : decode cX6_init 44 = .ok (.aload_n 0, 1) := dk_i kdX6_init_28 8 rfl
theorem dX6_init_45 : decode cX6_init 45 = .ok (.bipush 6, 2) := dk_i kdX6_init_28 9 rfl
theorem dX6_init_47 : decode cX6_init 47 = .ok (.newarray .int, 2) := dk_i kdX6_init_28 10 rfl
theorem dX6_init_49 : decode cX6_init 49 = .ok (.putfield 31, 3) := dk_i kdX6_init_28 11 rfl
theorem dX6_init_52 : decode cX6_init 52 = .ok (.aload_n 0, 1) := dk_i kdX6_init_28 12 rfl
theorem dX6_init_53 : decode cX6_init 53 = .ok (.aload_n 1, 1) := dk_i kdX6_init_28 13 rfl
theorem dX6_init_54 : decode cX6_init 54 = .ok (.putfield 34, 3) := dk_i kdX6_init_28 14 rfl
theorem dX6_init_57 : decode cX6_init 57 = .ok (.return_, 1) := dk_i kdX6_init_28 15 rfl
def ldX6_begin_0 : List (Nat × ClassFile.Instr × Nat) := [(0, .aload_n 0, 1), (1, .aload_n 1, 1), (2, .putfield 34, 3), (5, .aload_n 0, 1), (6, .iconst 0, 1), (7, .putfield 9, 3), (10, .aload_n 0, 1), (11, .iconst 0, 1), (12, .putfield 25, 3), (15, .iconst 0, 1), (16, .istore_n 2, 1), (17, .iload_n 2, 1), (18, .aload_n 0, 1), (19, .getfield 34, 3), (22, .getfield 38, 3), (25, .if_icmp .ge 23, 3)]
theorem kdX6_begin_0 : dkO cX6_begin 0 ldX6_begin_0 = true := by decide +kernel
theorem dX6_begin_0 : decode cX6_begin 0 = .ok (.aload_n 0, 1) := dk_i kdX6_begin_0 0 rfl
theorem dX6_begin_1 : decode cX6_begin 1 = .ok (.aload_n 1, 1) := dk_i kdX6_begin_0 1 rfl
theorem dX6_begin_2 : decode cX6_begin 2 = .ok (.putfield 34, 3) := dk_i kdX6_begin_0 2 rfl
theorem dX6_begin_5 : decode cX6_begin 5 = .ok (.aload_n 0, 1) := dk_i kdX6_begin_0 3 rfl
theorem dX6_begin_6 : decode cX6_begin 6 = .ok (.iconst 0, 1) := dk_i kdX6_begin_0 4 rfl
theorem dX6_begin_7 : decode cX6_begin 7 = .ok (.putfield 9, 3) := dk_i kdX6_begin_0 5 rfl
theorem dX6_begin_10 : decode cX6_begin 10 = .ok (.aload_n 0, 1) := dk_i kdX6_begin_0 6 rfl
theorem dX6_begin_11 : decode cX6_begin 11 = .ok (.iconst 0, 1) := dk_i kdX6_begin_0 7 rfl
theorem dX6_begin_12 : decode cX6_begin 12 = .ok (.putfield 25, 3) := dk_i kdX6_begin_0 8 rfl
theorem dX6_begin_15 : decode cX6_begin 15 = .ok (.iconst 0, 1) := dk_i kdX6_begin_0 9 rfl
theorem dX6_begin_16 : decode cX6_begin 16 = .ok (.istore_n 2, 1) := dk_i kdX6_begin_0 10 rfl
theorem dX6_begin_17 : decode cX6_begin 17 = .ok (.iload_n 2, 1) := dk_i kdX6_begin_0 11 rfl
theorem dX6_begin_18 : decode cX6_begin 18 = .ok (.aload_n 0, 1) := dk_i kdX6_begin_0 12 rfl
theorem dX6_begin_19 : decode cX6_begin 19 = .ok (.getfield 34, 3) := dk_i kdX6_begin_0 13 rfl
theorem dX6_begin_22 : decode cX6_begin 22 = .ok (.getfield 38, 3) := dk_i kdX6_begin_0 14 rfl
theorem dX6_begin_25 : decode cX6_begin 25 = .ok (.if_icmp .ge 23, 3) := dk_i kdX6_begin_0 15 rfl
def ldX6_begin_28 : List (Nat × ClassFile.Instr × Nat) := [(28, .aload_n 0, 1), (29, .iload_n 2, 1), (30, .aload_n 0, 1), (31, .getfield 34, 3), (34, .getfield 43, 3), (37, .iload_n 2, 1), (38, .iaload, 1), (39, .invokevirtual 46, 3), (42, .iinc 2 1, 3), (45, .goto (-28), 3), (48, .iconst 0, 1), (49, .istore_n 2, 1), (50, .iload_n 2, 1), (51, .aload_n 0, 1), (52, .getfield 34, 3), (55, .getfield 50, 3)]
theorem kdX6_begin_28 : dkO cX6_begin 28 ldX6_begin_28 = true := by decide +kernel
theorem dX6_begin_28 : decode cX6_begin 28 = .ok (.aload_n 0, 1) := dk_i kdX6_begin_28 0 rfl
theorem dX6_begin_29 : decode cX6_begin 29 = .ok (.iload_n 2, 1) := dk_i kdX6_begin_28 1 rfl
theorem dX6_begin_30 : decode cX6_begin 30 = .ok (.aload_n 0, 1) := dk_i kdX6_begin_28 2 rfl
theorem dX6_begin_31 : decode cX6_begin 31 = .ok (.getfield 34, 3) := dk_i kdX6_begin_28 3 rfl
theorem dX6_begin_34 : decode cX6_begin 34 = .ok (.getfield 43, 3) := dk_i kdX6_begin_28 4 rfl
theorem dX6_begin_37 : decode cX6_begin 37 = .ok (.iload_n 2, 1) := dk_i kdX6_begin_28 5 rfl
theorem dX6_begin_38 : decode cX6_begin 38 = .ok (.iaload, 1) := dk_i kdX6_begin_28 6 rfl
theorem dX6_begin_39 : decode cX6_begin 39 = .ok (.invokevirtual 46, 3) := dk_i kdX6_begin_28 7 rfl
theorem dX6_begin_42 : decode cX6_begin 42 = .ok (.iinc 2 1, 3) := dk_i kdX6_begin_28 8 rfl
theorem dX6_begin_45 : decode cX6_begin 45 = .ok (.goto (-28), 3) := dk_i kdX6_begin_28 9 rfl
theorem dX6_begin_48 : decode cX6_begin 48 = .ok (.iconst 0, 1) := dk_i kdX6_begin_28 10 rfl
theorem dX6_begin_49 : decode cX6_begin 49 = .ok (.istore_n 2, 1) := dk_i kdX6_begin_28 11 rfl
theorem dX6_begin_50 : decode cX6_begin 50 = .ok (.iload_n 2, 1) := dk_i kdX6_begin_28 12 rfl
theorem dX6_begin_51 : decode cX6_begin 51 = .ok (.aload_n 0, 1) := dk_i kdX6_begin_28 13 rfl
theorem dX6_begin_52 : decode cX6_begin 52 = .ok (.getfield 34, 3) := dk_i kdX6_begin_28 14 rfl
theorem dX6_begin_55 : decode cX6_begin 55 = .ok (.getfield 50, 3) := dk_i kdX6_begin_28 15 rfl
def ldX6_begin_58 : List (Nat × ClassFile.Instr × Nat) := [(58, .if_icmp .ge 16, 3), (61, .aload_n 0, 1), (62, .getfield 22, 3), (65, .iload_n 2, 1), (66, .iconst 0, 1), (67, .iastore, 1), (68, .iinc 2 1, 3), (71, .goto (-21), 3), (74, .return_, 1)]
theorem kdX6_begin_58 : dkO cX6_begin 58 ldX6_begin_58 = true := by decide +kernel
theorem dX6_begin_58 : decode cX6_begin 58 = .ok (.if_icmp .ge 16, 3) := dk_i kdX6_begin_58 0 rfl
theorem dX6_begin_61 : decode cX6_begin 61 = .ok (.aload_n 0, 1) := dk_i kdX6_begin_58 1 rfl
theorem dX6_begin_62 : decode cX6_begin 62 = .ok (.getfield 22, 3) := dk_i kdX6_begin_58 2 rfl
theorem dX6_begin_65 : decode cX6_begin 65 = .ok (.iload_n 2, 1) := dk_i kdX6_begin_58 3 rfl
theorem dX6_begin_66 : decode cX6_begin 66 = .ok (.iconst 0, 1) := dk_i kdX6_begin_58 4 rfl
theorem dX6_begin_67 : decode cX6_begin 67 = .ok (.iastore, 1) := dk_i kdX6_begin_58 5 rfl
theorem dX6_begin_68 : decode cX6_begin 68 = .ok (.iinc 2 1, 3) := dk_i kdX6_begin_58 6 rfl
theorem dX6_begin_71 : decode cX6_begin 71 = .ok (.goto (-21), 3) := dk_i kdX6_begin_58 7 rfl
theorem dX6_begin_74 : decode cX6_begin 74 = .ok (.return_, 1) := dk_i kdX6_begin_58 8 rfl
def ldX6_countDone_0 : List (Nat × ClassFile.Instr × Nat) := [(0, .iconst 0, 1), (1, .istore_n 1, 1), (2, .iconst 0, 1), (3, .istore_n 2, 1), (4, .iload_n 2, 1), (5, .aload_n 0, 1), (6, .getfield 34, 3), (9, .getfield 50, 3), (12, .if_icmp .ge 18, 3), (15, .iload_n 1, 1), (16, .aload_n 0, 1), (17, .getfield 22, 3), (20, .iload_n 2, 1), (21, .iaload, 1), (22, .iadd, 1), (23, .istore_n 1, 1)]
theorem kdX6_countDone_0 : dkO cX6_countDone 0 ldX6_countDone_0 = true := by decide +kernel
theorem dX6_countDone_0 : decode cX6_countDone 0 = .ok (.iconst 0, 1) := dk_i kdX6_countDone_0 0 rfl
theorem dX6_countDone_1 : decode cX6_countDone 1 = .ok (.istore_n 1, 1) := dk_i kdX6_countDone_0 1 rfl
theorem dX6_countDone_2 : decode cX6_countDone 2 = .ok (.iconst 0, 1) := dk_i kdX6_countDone_0 2 rfl
theorem dX6_countDone_3 : decode cX6_countDone 3 = .ok (.istore_n 2, 1) := dk_i kdX6_countDone_0 3 rfl
theorem dX6_countDone_4 : decode cX6_countDone 4 = .ok (.iload_n 2, 1) := dk_i kdX6_countDone_0 4 rfl
theorem dX6_countDone_5 : decode cX6_countDone 5 = .ok (.aload_n 0, 1) := dk_i kdX6_countDone_0 5 rfl
theorem dX6_countDone_6 : decode cX6_countDone 6 = .ok (.getfield 34, 3) := dk_i kdX6_countDone_0 6 rfl
theorem dX6_countDone_9 : decode cX6_countDone 9 = .ok (.getfield 50, 3) := dk_i kdX6_countDone_0 7 rfl
theorem dX6_countDone_12 : decode cX6_countDone 12 = .ok (.if_icmp .ge 18, 3) := dk_i kdX6_countDone_0 8 rfl
theorem dX6_countDone_15 : decode cX6_countDone 15 = .ok (.iload_n 1, 1) := dk_i kdX6_countDone_0 9 rfl
theorem dX6_countDone_16 : decode cX6_countDone 16 = .ok (.aload_n 0, 1) := dk_i kdX6_countDone_0 10 rfl
theorem dX6_countDone_17 : decode cX6_countDone 17 = .ok (.getfield 22, 3) := dk_i kdX6_countDone_0 11 rfl
theorem dX6_countDone_20 : decode cX6_countDone 20 = .ok (.iload_n 2, 1) := dk_i kdX6_countDone_0 12 rfl
theorem dX6_countDone_21 : decode cX6_countDone 21 = .ok (.iaload, 1) := dk_i kdX6_countDone_0 13 rfl
theorem dX6_countDone_22 : decode cX6_countDone 22 = .ok (.iadd, 1) := dk_i kdX6_countDone_0 14 rfl
theorem dX6_countDone_23 : decode cX6_countDone 23 = .ok (.istore_n 1, 1) := dk_i kdX6_countDone_0 15 rfl
def ldX6_countDone_24 : List (Nat × ClassFile.Instr × Nat) := [(24, .iinc 2 1, 3), (27, .goto (-23), 3), (30, .iload_n 1, 1), (31, .ireturn, 1)]
theorem kdX6_countDone_24 : dkO cX6_countDone 24 ldX6_countDone_24 = true := by decide +kernel
theorem dX6_countDone_24 : decode cX6_countDone 24 = .ok (.iinc 2 1, 3) := dk_i kdX6_countDone_24 0 rfl
theorem dX6_countDone_27 : decode cX6_countDone 27 = .ok (.goto (-23), 3) := dk_i kdX6_countDone_24 1 rfl
theorem dX6_countDone_30 : decode cX6_countDone 30 = .ok (.iload_n 1, 1) := dk_i kdX6_countDone_24 2 rfl
theorem dX6_countDone_31 : decode cX6_countDone 31 = .ok (.ireturn, 1) := dk_i kdX6_countDone_24 3 rfl
def ldX6_countEmpty_0 : List (Nat × ClassFile.Instr × Nat) := [(0, .iconst 0, 1), (1, .istore_n 1, 1), (2, .iconst 0, 1), (3, .istore_n 2, 1), (4, .iload_n 2, 1), (5, .aload_n 0, 1), (6, .getfield 34, 3), (9, .getfield 38, 3), (12, .if_icmp .ge 22, 3), (15, .aload_n 0, 1), (16, .getfield 15, 3), (19, .iload_n 2, 1), (20, .iaload, 1), (21, .iconst (-1), 1), (22, .if_icmp .ne 6, 3), (25, .iinc 1 1, 3)]
theorem kdX6_countEmpty_0 : dkO cX6_countEmpty 0 ldX6_countEmpty_0 = true := by decide +kernel
theorem dX6_countEmpty_0 : decode cX6_countEmpty 0 = .ok (.iconst 0, 1) := dk_i kdX6_countEmpty_0 0 rfl
theorem dX6_countEmpty_1 : decode cX6_countEmpty 1 = .ok (.istore_n 1, 1) := dk_i kdX6_countEmpty_0 1 rfl
theorem dX6_countEmpty_2 : decode cX6_countEmpty 2 = .ok (.iconst 0, 1) := dk_i kdX6_countEmpty_0 2 rfl
theorem dX6_countEmpty_3 : decode cX6_countEmpty 3 = .ok (.istore_n 2, 1) := dk_i kdX6_countEmpty_0 3 rfl
theorem dX6_countEmpty_4 : decode cX6_countEmpty 4 = .ok (.iload_n 2, 1) := dk_i kdX6_countEmpty_0 4 rfl
theorem dX6_countEmpty_5 : decode cX6_countEmpty 5 = .ok (.aload_n 0, 1) := dk_i kdX6_countEmpty_0 5 rfl
theorem dX6_countEmpty_6 : decode cX6_countEmpty 6 = .ok (.getfield 34, 3) := dk_i kdX6_countEmpty_0 6 rfl
theorem dX6_countEmpty_9 : decode cX6_countEmpty 9 = .ok (.getfield 38, 3) := dk_i kdX6_countEmpty_0 7 rfl
theorem dX6_countEmpty_12 : decode cX6_countEmpty 12 = .ok (.if_icmp .ge 22, 3) := dk_i kdX6_countEmpty_0 8 rfl
theorem dX6_countEmpty_15 : decode cX6_countEmpty 15 = .ok (.aload_n 0, 1) := dk_i kdX6_countEmpty_0 9 rfl
theorem dX6_countEmpty_16 : decode cX6_countEmpty 16 = .ok (.getfield 15, 3) := dk_i kdX6_countEmpty_0 10 rfl
theorem dX6_countEmpty_19 : decode cX6_countEmpty 19 = .ok (.iload_n 2, 1) := dk_i kdX6_countEmpty_0 11 rfl
theorem dX6_countEmpty_20 : decode cX6_countEmpty 20 = .ok (.iaload, 1) := dk_i kdX6_countEmpty_0 12 rfl
theorem dX6_countEmpty_21 : decode cX6_countEmpty 21 = .ok (.iconst (-1), 1) := dk_i kdX6_countEmpty_0 13 rfl
theorem dX6_countEmpty_22 : decode cX6_countEmpty 22 = .ok (.if_icmp .ne 6, 3) := dk_i kdX6_countEmpty_0 14 rfl
theorem dX6_countEmpty_25 : decode cX6_countEmpty 25 = .ok (.iinc 1 1, 3) := dk_i kdX6_countEmpty_0 15 rfl
def ldX6_countEmpty_28 : List (Nat × ClassFile.Instr × Nat) := [(28, .iinc 2 1, 3), (31, .goto (-27), 3), (34, .iload_n 1, 1), (35, .ireturn, 1)]
theorem kdX6_countEmpty_28 : dkO cX6_countEmpty 28 ldX6_countEmpty_28 = true := by decide +kernel
theorem dX6_countEmpty_28 : decode cX6_countEmpty 28 = .ok (.iinc 2 1, 3) := dk_i kdX6_countEmpty_28 0 rfl
theorem dX6_countEmpty_31 : decode cX6_countEmpty 31 = .ok (.goto (-27), 3) := dk_i kdX6_countEmpty_28 1 rfl
theorem dX6_countEmpty_34 : decode cX6_countEmpty 34 = .ok (.iload_n 1, 1) := dk_i kdX6_countEmpty_28 2 rfl
theorem dX6_countEmpty_35 : decode cX6_countEmpty 35 = .ok (.ireturn, 1) := dk_i kdX6_countEmpty_28 3 rfl
def ldX6_put_0 : List (Nat × ClassFile.Instr × Nat) := [(0, .iload_n 1, 1), (1, .ifCond .lt 22, 3), (4, .iload_n 1, 1), (5, .iconst 5, 1), (6, .if_icmp .ge 17, 3), (9, .aload_n 0, 1), (10, .getfield 15, 3), (13, .iload_n 1, 1), (14, .iload_n 2, 1), (15, .iastore, 1), (16, .aload_n 0, 1), (17, .getfield 19, 3), (20, .iload_n 1, 1), (21, .iconst 0, 1), (22, .iastore, 1), (23, .return_, 1)]
theorem kdX6_put_0 : dkO cX6_put 0 ldX6_put_0 = true := by decide +kernel
theorem dX6_put_0 : decode cX6_put 0 = .ok (.iload_n 1, 1) := dk_i kdX6_put_0 0 rfl
theorem dX6_put_1 : decode cX6_put 1 = .ok (.ifCond .lt 22, 3) := dk_i kdX6_put_0 1 rfl
theorem dX6_put_4 : decode cX6_put 4 = .ok (.iload_n 1, 1) := dk_i kdX6_put_0 2 rfl
theorem dX6_put_5 : decode cX6_put 5 = .ok (.iconst 5, 1) := dk_i kdX6_put_0 3 rfl
theorem dX6_put_6 : decode cX6_put 6 = .ok (.if_icmp .ge 17, 3) := dk_i kdX6_put_0 4 rfl
theorem dX6_put_9 : decode cX6_put 9 = .ok (.aload_n 0, 1) := dk_i kdX6_put_0 5 rfl
theorem dX6_put_10 : decode cX6_put 10 = .ok (.getfield 15, 3) := dk_i kdX6_put_0 6 rfl
theorem dX6_put_13 : decode cX6_put 13 = .ok (.iload_n 1, 1) := dk_i kdX6_put_0 7 rfl
theorem dX6_put_14 : decode cX6_put 14 = .ok (.iload_n 2, 1) := dk_i kdX6_put_0 8 rfl
theorem dX6_put_15 : decode cX6_put 15 = .ok (.iastore, 1) := dk_i kdX6_put_0 9 rfl
theorem dX6_put_16 : decode cX6_put 16 = .ok (.aload_n 0, 1) := dk_i kdX6_put_0 10 rfl
theorem dX6_put_17 : decode cX6_put 17 = .ok (.getfield 19, 3) := dk_i kdX6_put_0 11 rfl
theorem dX6_put_20 : decode cX6_put 20 = .ok (.iload_n 1, 1) := dk_i kdX6_put_0 12 rfl
theorem dX6_put_21 : decode cX6_put 21 = .ok (.iconst 0, 1) := dk_i kdX6_put_0 13 rfl
theorem dX6_put_22 : decode cX6_put 22 = .ok (.iastore, 1) := dk_i kdX6_put_0 14 rfl
theorem dX6_put_23 : decode cX6_put 23 = .ok (.return_, 1) := dk_i kdX6_put_0 15 rfl
def ldX6_goOn_0 : List (Nat × ClassFile.Instr × Nat) := [(0, .iconst 0, 1), (1, .istore_n 2, 1), (2, .iload_n 2, 1), (3, .aload_n 0, 1), (4, .getfield 34, 3), (7, .getfield 38, 3), (10, .if_icmp .ge 54, 3), (13, .aload_n 1, 1), (14, .iload_n 2, 1), (15, .aload_n 0, 1), (16, .getfield 15, 3), (19, .iload_n 2, 1), (20, .iaload, 1), (21, .aload_n 0, 1), (22, .getfield 19, 3), (25, .iload_n 2, 1)]
theorem kdX6_goOn_0 : dkO cX6_goOn 0 ldX6_goOn_0 = true := by decide +kernel
theorem dX6_goOn_0 : decode cX6_goOn 0 = .ok (.iconst 0, 1) := dk_i kdX6_goOn_0 0 rfl
theorem dX6_goOn_1 : decode cX6_goOn 1 = .ok (.istore_n 2, 1) := dk_i kdX6_goOn_0 1 rfl
theorem dX6_goOn_2 : decode cX6_goOn 2 = .ok (.iload_n 2, 1) := dk_i kdX6_goOn_0 2 rfl
theorem dX6_goOn_3 : decode cX6_goOn 3 = .ok (.aload_n 0, 1) := dk_i kdX6_goOn_0 3 rfl
theorem dX6_goOn_4 : decode cX6_goOn 4 = .ok (.getfield 34, 3) := dk_i kdX6_goOn_0 4 rfl
theorem dX6_goOn_7 : decode cX6_goOn 7 = .ok (.getfield 38, 3) := dk_i kdX6_goOn_0 5 rfl
theorem dX6_goOn_10 : decode cX6_goOn 10 = .ok (.if_icmp .ge 54, 3) := dk_i kdX6_goOn_0 6 rfl
theorem dX6_goOn_13 : decode cX6_goOn 13 = .ok (.aload_n 1, 1) := dk_i kdX6_goOn_0 7 rfl
theorem dX6_goOn_14 : decode cX6_goOn 14 = .ok (.iload_n 2, 1) := dk_i kdX6_goOn_0 8 rfl
theorem dX6_goOn_15 : decode cX6_goOn 15 = .ok (.aload_n 0, 1) := dk_i kdX6_goOn_0 9 rfl
theorem dX6_goOn_16 : decode cX6_goOn 16 = .ok (.getfield 15, 3) := dk_i kdX6_goOn_0 10 rfl
theorem dX6_goOn_19 : decode cX6_goOn 19 = .ok (.iload_n 2, 1) := dk_i kdX6_goOn_0 11 rfl
theorem dX6_goOn_20 : decode cX6_goOn 20 = .ok (.iaload, 1) := dk_i kdX6_goOn_0 12 rfl
theorem dX6_goOn_21 : decode cX6_goOn 21 = .ok (.aload_n 0, 1) := dk_i kdX6_goOn_0 13 rfl
theorem dX6_goOn_22 : decode cX6_goOn 22 = .ok (.getfield 19, 3) := dk_i kdX6_goOn_0 14 rfl
theorem dX6_goOn_25 : decode cX6_goOn 25 = .ok (.iload_n 2, 1) := dk_i kdX6_goOn_0 15 rfl
def ldX6_goOn_26 : List (Nat × ClassFile.Instr × Nat) := [(26, .iaload, 1), (27, .aload_n 0, 1), (28, .getfield 9, 3), (31, .invokevirtual 53, 3), (34, .aload_n 1, 1), (35, .invokevirtual 59, 3), (38, .aload_n 0, 1), (39, .getfield 15, 3), (42, .iload_n 2, 1), (43, .aload_n 1, 1), (44, .getfield 62, 3), (47, .iastore, 1), (48, .aload_n 0, 1), (49, .getfield 19, 3), (52, .iload_n 2, 1), (53, .aload_n 1, 1)]
theorem kdX6_goOn_26 : dkO cX6_goOn 26 ldX6_goOn_26 = true := by decide +kernel
theorem dX6_goOn_26 : decode cX6_goOn 26 = .ok (.iaload, 1) := dk_i kdX6_goOn_26 0 rfl
theorem dX6_goOn_27 : decode cX6_goOn 27 = .ok (.aload_n 0, 1) := dk_i kdX6_goOn_26 1 rfl
theorem dX6_goOn_28 : decode cX6_goOn 28 = .ok (.getfield 9, 3) := dk_i kdX6_goOn_26 2 rfl
theorem dX6_goOn_31 : decode cX6_goOn 31 = .ok (.invokevirtual 53, 3) := dk_i kdX6_goOn_26 3 rfl
theorem dX6_goOn_34 : decode cX6_goOn 34 = .ok (.aload_n 1, 1) := dk_i kdX6_goOn_26 4 rfl
theorem dX6_goOn_35 : decode cX6_goOn 35 = .ok (.invokevirtual 59, 3) := dk_i kdX6_goOn_26 5 rfl
theorem dX6_goOn_38 : decode cX6_goOn 38 = .ok (.aload_n 0, 1) := dk_i kdX6_goOn_26 6 rfl
theorem dX6_goOn_39 : decode cX6_goOn 39 = .ok (.getfield 15, 3) := dk_i kdX6_goOn_26 7 rfl
theorem dX6_goOn_42 : decode cX6_goOn 42 = .ok (.iload_n 2, 1) := dk_i kdX6_goOn_26 8 rfl
theorem dX6_goOn_43 : decode cX6_goOn 43 = .ok (.aload_n 1, 1) := dk_i kdX6_goOn_26 9 rfl
theorem dX6_goOn_44 : decode cX6_goOn 44 = .ok (.getfield 62, 3) := dk_i kdX6_goOn_26 10 rfl
theorem dX6_goOn_47 : decode cX6_goOn 47 = .ok (.iastore, 1) := dk_i kdX6_goOn_26 11 rfl
theorem dX6_goOn_48 : decode cX6_goOn 48 = .ok (.aload_n 0, 1) := dk_i kdX6_goOn_26 12 rfl
theorem dX6_goOn_49 : decode cX6_goOn 49 = .ok (.getfield 19, 3) := dk_i kdX6_goOn_26 13 rfl
theorem dX6_goOn_52 : decode cX6_goOn 52 = .ok (.iload_n 2, 1) := dk_i kdX6_goOn_26 14 rfl
theorem dX6_goOn_53 : decode cX6_goOn 53 = .ok (.aload_n 1, 1) := dk_i kdX6_goOn_26 15 rfl
def ldX6_goOn_54 : List (Nat × ClassFile.Instr × Nat) := [(54, .getfield 65, 3), (57, .iastore, 1), (58, .iinc 2 1, 3), (61, .goto (-59), 3), (64, .aload_n 0, 1), (65, .sipush 9999, 3), (68, .aload_n 0, 1), (69, .getfield 9, 3), (72, .iconst 1, 1), (73, .iadd, 1), (74, .invokestatic 67, 3), (77, .putfield 9, 3), (80, .return_, 1)]
theorem kdX6_goOn_54 : dkO cX6_goOn 54 ldX6_goOn_54 = true := by decide +kernel
theorem dX6_goOn_54 : decode cX6_goOn 54 = .ok (.getfield 65, 3) := dk_i kdX6_goOn_54 0 rfl
theorem dX6_goOn_57 : decode cX6_goOn 57 = .ok (.iastore, 1) := dk_i kdX6_goOn_54 1 rfl
theorem dX6_goOn_58 : decode cX6_goOn 58 = .ok (.iinc 2 1, 3) := dk_i kdX6_goOn_54 2 rfl
theorem dX6_goOn_61 : decode cX6_goOn 61 = .ok (.goto (-59), 3) := dk_i kdX6_goOn_54 3 rfl
theorem dX6_goOn_64 : decode cX6_goOn 64 = .ok (.aload_n 0, 1) := dk_i kdX6_goOn_54 4 rfl
theorem dX6_goOn_65 : decode cX6_goOn 65 = .ok (.sipush 9999, 3) := dk_i kdX6_goOn_54 5 rfl
theorem dX6_goOn_68 : decode cX6_goOn 68 = .ok (.aload_n 0, 1) := dk_i kdX6_goOn_54 6 rfl
theorem dX6_goOn_69 : decode cX6_goOn 69 = .ok (.getfield 9, 3) := dk_i kdX6_goOn_54 7 rfl
theorem dX6_goOn_72 : decode cX6_goOn 72 = .ok (.iconst 1, 1) := dk_i kdX6_goOn_54 8 rfl
theorem dX6_goOn_73 : decode cX6_goOn 73 = .ok (.iadd, 1) := dk_i kdX6_goOn_54 9 rfl
theorem dX6_goOn_74 : decode cX6_goOn 74 = .ok (.invokestatic 67, 3) := dk_i kdX6_goOn_54 10 rfl
theorem dX6_goOn_77 : decode cX6_goOn 77 = .ok (.putfield 9, 3) := dk_i kdX6_goOn_54 11 rfl
theorem dX6_goOn_80 : decode cX6_goOn 80 = .ok (.return_, 1) := dk_i kdX6_goOn_54 12 rfl
def ldX6_doWhatIsDue_0 : List (Nat × ClassFile.Instr × Nat) := [(0, .iconst 0, 1), (1, .istore_n 2, 1), (2, .iconst 0, 1), (3, .istore_n 3, 1), (4, .iload_n 3, 1), (5, .aload_n 0, 1), (6, .getfield 34, 3), (9, .getfield 50, 3), (12, .if_icmp .ge 42, 3), (15, .aload_n 0, 1), (16, .getfield 22, 3), (19, .iload_n 3, 1), (20, .iaload, 1), (21, .ifCond .ne 27, 3), (24, .aload_n 0, 1), (25, .iload_n 3, 1)]
theorem kdX6_doWhatIsDue_0 : dkO cX6_doWhatIsDue 0 ldX6_doWhatIsDue_0 = true := by decide +kernel
theorem dX6_doWhatIsDue_0 : decode cX6_doWhatIsDue 0 = .ok (.iconst 0, 1) := dk_i kdX6_doWhatIsDue_0 0 rfl
theorem dX6_doWhatIsDue_1 : decode cX6_doWhatIsDue 1 = .ok (.istore_n 2, 1) := dk_i kdX6_doWhatIsDue_0 1 rfl
theorem dX6_doWhatIsDue_2 : decode cX6_doWhatIsDue 2 = .ok (.iconst 0, 1) := dk_i kdX6_doWhatIsDue_0 2 rfl
theorem dX6_doWhatIsDue_3 : decode cX6_doWhatIsDue 3 = .ok (.istore_n 3, 1) := dk_i kdX6_doWhatIsDue_0 3 rfl
theorem dX6_doWhatIsDue_4 : decode cX6_doWhatIsDue 4 = .ok (.iload_n 3, 1) := dk_i kdX6_doWhatIsDue_0 4 rfl
theorem dX6_doWhatIsDue_5 : decode cX6_doWhatIsDue 5 = .ok (.aload_n 0, 1) := dk_i kdX6_doWhatIsDue_0 5 rfl
theorem dX6_doWhatIsDue_6 : decode cX6_doWhatIsDue 6 = .ok (.getfield 34, 3) := dk_i kdX6_doWhatIsDue_0 6 rfl
theorem dX6_doWhatIsDue_9 : decode cX6_doWhatIsDue 9 = .ok (.getfield 50, 3) := dk_i kdX6_doWhatIsDue_0 7 rfl
theorem dX6_doWhatIsDue_12 : decode cX6_doWhatIsDue 12 = .ok (.if_icmp .ge 42, 3) := dk_i kdX6_doWhatIsDue_0 8 rfl
theorem dX6_doWhatIsDue_15 : decode cX6_doWhatIsDue 15 = .ok (.aload_n 0, 1) := dk_i kdX6_doWhatIsDue_0 9 rfl
theorem dX6_doWhatIsDue_16 : decode cX6_doWhatIsDue 16 = .ok (.getfield 22, 3) := dk_i kdX6_doWhatIsDue_0 10 rfl
theorem dX6_doWhatIsDue_19 : decode cX6_doWhatIsDue 19 = .ok (.iload_n 3, 1) := dk_i kdX6_doWhatIsDue_0 11 rfl
theorem dX6_doWhatIsDue_20 : decode cX6_doWhatIsDue 20 = .ok (.iaload, 1) := dk_i kdX6_doWhatIsDue_0 12 rfl
theorem dX6_doWhatIsDue_21 : decode cX6_doWhatIsDue 21 = .ok (.ifCond .ne 27, 3) := dk_i kdX6_doWhatIsDue_0 13 rfl
theorem dX6_doWhatIsDue_24 : decode cX6_doWhatIsDue 24 = .ok (.aload_n 0, 1) := dk_i kdX6_doWhatIsDue_0 14 rfl
theorem dX6_doWhatIsDue_25 : decode cX6_doWhatIsDue 25 = .ok (.iload_n 3, 1) := dk_i kdX6_doWhatIsDue_0 15 rfl
def ldX6_doWhatIsDue_26 : List (Nat × ClassFile.Instr × Nat) := [(26, .aload_n 1, 1), (27, .invokevirtual 73, 3), (30, .ifCond .eq 18, 3), (33, .aload_n 0, 1), (34, .getfield 22, 3), (37, .iload_n 3, 1), (38, .iconst 1, 1), (39, .iastore, 1), (40, .aload_n 0, 1), (41, .iload_n 3, 1), (42, .invokevirtual 77, 3), (45, .iinc 2 1, 3), (48, .iinc 3 1, 3), (51, .goto (-47), 3), (54, .iload_n 2, 1), (55, .ireturn, 1)]
theorem kdX6_doWhatIsDue_26 : dkO cX6_doWhatIsDue 26 ldX6_doWhatIsDue_26 = true := by decide +kernel
theorem dX6_doWhatIsDue_26 : decode cX6_doWhatIsDue 26 = .ok (.aload_n 1, 1) := dk_i kdX6_doWhatIsDue_26 0 rfl
theorem dX6_doWhatIsDue_27 : decode cX6_doWhatIsDue 27 = .ok (.invokevirtual 73, 3) := dk_i kdX6_doWhatIsDue_26 1 rfl
theorem dX6_doWhatIsDue_30 : decode cX6_doWhatIsDue 30 = .ok (.ifCond .eq 18, 3) := dk_i kdX6_doWhatIsDue_26 2 rfl
theorem dX6_doWhatIsDue_33 : decode cX6_doWhatIsDue 33 = .ok (.aload_n 0, 1) := dk_i kdX6_doWhatIsDue_26 3 rfl
theorem dX6_doWhatIsDue_34 : decode cX6_doWhatIsDue 34 = .ok (.getfield 22, 3) := dk_i kdX6_doWhatIsDue_26 4 rfl
theorem dX6_doWhatIsDue_37 : decode cX6_doWhatIsDue 37 = .ok (.iload_n 3, 1) := dk_i kdX6_doWhatIsDue_26 5 rfl
theorem dX6_doWhatIsDue_38 : decode cX6_doWhatIsDue 38 = .ok (.iconst 1, 1) := dk_i kdX6_doWhatIsDue_26 6 rfl
theorem dX6_doWhatIsDue_39 : decode cX6_doWhatIsDue 39 = .ok (.iastore, 1) := dk_i kdX6_doWhatIsDue_26 7 rfl
theorem dX6_doWhatIsDue_40 : decode cX6_doWhatIsDue 40 = .ok (.aload_n 0, 1) := dk_i kdX6_doWhatIsDue_26 8 rfl
theorem dX6_doWhatIsDue_41 : decode cX6_doWhatIsDue 41 = .ok (.iload_n 3, 1) := dk_i kdX6_doWhatIsDue_26 9 rfl
theorem dX6_doWhatIsDue_42 : decode cX6_doWhatIsDue 42 = .ok (.invokevirtual 77, 3) := dk_i kdX6_doWhatIsDue_26 10 rfl
theorem dX6_doWhatIsDue_45 : decode cX6_doWhatIsDue 45 = .ok (.iinc 2 1, 3) := dk_i kdX6_doWhatIsDue_26 11 rfl
theorem dX6_doWhatIsDue_48 : decode cX6_doWhatIsDue 48 = .ok (.iinc 3 1, 3) := dk_i kdX6_doWhatIsDue_26 12 rfl
theorem dX6_doWhatIsDue_51 : decode cX6_doWhatIsDue 51 = .ok (.goto (-47), 3) := dk_i kdX6_doWhatIsDue_26 13 rfl
theorem dX6_doWhatIsDue_54 : decode cX6_doWhatIsDue 54 = .ok (.iload_n 2, 1) := dk_i kdX6_doWhatIsDue_26 14 rfl
theorem dX6_doWhatIsDue_55 : decode cX6_doWhatIsDue 55 = .ok (.ireturn, 1) := dk_i kdX6_doWhatIsDue_26 15 rfl
def ldX6_isDue_0 : List (Nat × ClassFile.Instr × Nat) := [(0, .aload_n 0, 1), (1, .getfield 34, 3), (4, .getfield 81, 3), (7, .iload_n 1, 1), (8, .iaload, 1), (9, .istore_n 3, 1), (10, .aload_n 2, 1), (11, .iload_n 3, 1), (12, .aload_n 0, 1), (13, .getfield 15, 3), (16, .iload_n 3, 1), (17, .iaload, 1), (18, .aload_n 0, 1), (19, .getfield 19, 3), (22, .iload_n 3, 1), (23, .iaload, 1)]
theorem kdX6_isDue_0 : dkO cX6_isDue 0 ldX6_isDue_0 = true := by decide +kernel
theorem dX6_isDue_0 : decode cX6_isDue 0 = .ok (.aload_n 0, 1) := dk_i kdX6_isDue_0 0 rfl
theorem dX6_isDue_1 : decode cX6_isDue 1 = .ok (.getfield 34, 3) := dk_i kdX6_isDue_0 1 rfl
theorem dX6_isDue_4 : decode cX6_isDue 4 = .ok (.getfield 81, 3) := dk_i kdX6_isDue_0 2 rfl
theorem dX6_isDue_7 : decode cX6_isDue 7 = .ok (.iload_n 1, 1) := dk_i kdX6_isDue_0 3 rfl
theorem dX6_isDue_8 : decode cX6_isDue 8 = .ok (.iaload, 1) := dk_i kdX6_isDue_0 4 rfl
theorem dX6_isDue_9 : decode cX6_isDue 9 = .ok (.istore_n 3, 1) := dk_i kdX6_isDue_0 5 rfl
theorem dX6_isDue_10 : decode cX6_isDue 10 = .ok (.aload_n 2, 1) := dk_i kdX6_isDue_0 6 rfl
theorem dX6_isDue_11 : decode cX6_isDue 11 = .ok (.iload_n 3, 1) := dk_i kdX6_isDue_0 7 rfl
theorem dX6_isDue_12 : decode cX6_isDue 12 = .ok (.aload_n 0, 1) := dk_i kdX6_isDue_0 8 rfl
theorem dX6_isDue_13 : decode cX6_isDue 13 = .ok (.getfield 15, 3) := dk_i kdX6_isDue_0 9 rfl
theorem dX6_isDue_16 : decode cX6_isDue 16 = .ok (.iload_n 3, 1) := dk_i kdX6_isDue_0 10 rfl
theorem dX6_isDue_17 : decode cX6_isDue 17 = .ok (.iaload, 1) := dk_i kdX6_isDue_0 11 rfl
theorem dX6_isDue_18 : decode cX6_isDue 18 = .ok (.aload_n 0, 1) := dk_i kdX6_isDue_0 12 rfl
theorem dX6_isDue_19 : decode cX6_isDue 19 = .ok (.getfield 19, 3) := dk_i kdX6_isDue_0 13 rfl
theorem dX6_isDue_22 : decode cX6_isDue 22 = .ok (.iload_n 3, 1) := dk_i kdX6_isDue_0 14 rfl
theorem dX6_isDue_23 : decode cX6_isDue 23 = .ok (.iaload, 1) := dk_i kdX6_isDue_0 15 rfl
def ldX6_isDue_24 : List (Nat × ClassFile.Instr × Nat) := [(24, .aload_n 0, 1), (25, .getfield 9, 3), (28, .invokevirtual 53, 3), (31, .aload_n 2, 1), (32, .invokevirtual 84, 3), (35, .aload_n 0, 1), (36, .getfield 34, 3), (39, .getfield 88, 3), (42, .iload_n 1, 1), (43, .iaload, 1), (44, .if_icmp .ne 7, 3), (47, .iconst 1, 1), (48, .goto 4, 3), (51, .iconst 0, 1), (52, .ireturn, 1)]
theorem kdX6_isDue_24 : dkO cX6_isDue 24 ldX6_isDue_24 = true := by decide +kernel
theorem dX6_isDue_24 : decode cX6_isDue 24 = .ok (.aload_n 0, 1) := dk_i kdX6_isDue_24 0 rfl
theorem dX6_isDue_25 : decode cX6_isDue 25 = .ok (.getfield 9, 3) := dk_i kdX6_isDue_24 1 rfl
theorem dX6_isDue_28 : decode cX6_isDue 28 = .ok (.invokevirtual 53, 3) := dk_i kdX6_isDue_24 2 rfl
theorem dX6_isDue_31 : decode cX6_isDue 31 = .ok (.aload_n 2, 1) := dk_i kdX6_isDue_24 3 rfl
theorem dX6_isDue_32 : decode cX6_isDue 32 = .ok (.invokevirtual 84, 3) := dk_i kdX6_isDue_24 4 rfl
theorem dX6_isDue_35 : decode cX6_isDue 35 = .ok (.aload_n 0, 1) := dk_i kdX6_isDue_24 5 rfl
theorem dX6_isDue_36 : decode cX6_isDue 36 = .ok (.getfield 34, 3) := dk_i kdX6_isDue_24 6 rfl
theorem dX6_isDue_39 : decode cX6_isDue 39 = .ok (.getfield 88, 3) := dk_i kdX6_isDue_24 7 rfl
theorem dX6_isDue_42 : decode cX6_isDue 42 = .ok (.iload_n 1, 1) := dk_i kdX6_isDue_24 8 rfl
theorem dX6_isDue_43 : decode cX6_isDue 43 = .ok (.iaload, 1) := dk_i kdX6_isDue_24 9 rfl
theorem dX6_isDue_44 : decode cX6_isDue 44 = .ok (.if_icmp .ne 7, 3) := dk_i kdX6_isDue_24 10 rfl
theorem dX6_isDue_47 : decode cX6_isDue 47 = .ok (.iconst 1, 1) := dk_i kdX6_isDue_24 11 rfl
theorem dX6_isDue_48 : decode cX6_isDue 48 = .ok (.goto 4, 3) := dk_i kdX6_isDue_24 12 rfl
theorem dX6_isDue_51 : decode cX6_isDue 51 = .ok (.iconst 0, 1) := dk_i kdX6_isDue_24 13 rfl
theorem dX6_isDue_52 : decode cX6_isDue 52 = .ok (.ireturn, 1) := dk_i kdX6_isDue_24 14 rfl
def ldX6_keep_0 : List (Nat × ClassFile.Instr × Nat) := [(0, .aload_n 0, 1), (1, .getfield 25, 3), (4, .bipush 6, 2), (6, .if_icmp .ge 36, 3), (9, .aload_n 0, 1), (10, .getfield 28, 3), (13, .aload_n 0, 1), (14, .getfield 25, 3), (17, .aload_n 0, 1), (18, .getfield 9, 3), (21, .iastore, 1), (22, .aload_n 0, 1), (23, .getfield 31, 3), (26, .aload_n 0, 1), (27, .getfield 25, 3), (30, .iload_n 1, 1)]
theorem kdX6_keep_0 : dkO cX6_keep 0 ldX6_keep_0 = true := by decide +kernel
theorem dX6_keep_0 : decode cX6_keep 0 = .ok (.aload_n 0, 1) := dk_i kdX6_keep_0 0 rfl
theorem dX6_keep_1 : decode cX6_keep 1 = .ok (.getfield 25, 3) := dk_i kdX6_keep_0 1 rfl
theorem dX6_keep_4 : decode cX6_keep 4 = .ok (.bipush 6, 2) := dk_i kdX6_keep_0 2 rfl
theorem dX6_keep_6 : decode cX6_keep 6 = .ok (.if_icmp .ge 36, 3) := dk_i kdX6_keep_0 3 rfl
theorem dX6_keep_9 : decode cX6_keep 9 = .ok (.aload_n 0, 1) := dk_i kdX6_keep_0 4 rfl
theorem dX6_keep_10 : decode cX6_keep 10 = .ok (.getfield 28, 3) := dk_i kdX6_keep_0 5 rfl
theorem dX6_keep_13 : decode cX6_keep 13 = .ok (.aload_n 0, 1) := dk_i kdX6_keep_0 6 rfl
theorem dX6_keep_14 : decode cX6_keep 14 = .ok (.getfield 25, 3) := dk_i kdX6_keep_0 7 rfl
theorem dX6_keep_17 : decode cX6_keep 17 = .ok (.aload_n 0, 1) := dk_i kdX6_keep_0 8 rfl
theorem dX6_keep_18 : decode cX6_keep 18 = .ok (.getfield 9, 3) := dk_i kdX6_keep_0 9 rfl
theorem dX6_keep_21 : decode cX6_keep 21 = .ok (.iastore, 1) := dk_i kdX6_keep_0 10 rfl
theorem dX6_keep_22 : decode cX6_keep 22 = .ok (.aload_n 0, 1) := dk_i kdX6_keep_0 11 rfl
theorem dX6_keep_23 : decode cX6_keep 23 = .ok (.getfield 31, 3) := dk_i kdX6_keep_0 12 rfl
theorem dX6_keep_26 : decode cX6_keep 26 = .ok (.aload_n 0, 1) := dk_i kdX6_keep_0 13 rfl
theorem dX6_keep_27 : decode cX6_keep 27 = .ok (.getfield 25, 3) := dk_i kdX6_keep_0 14 rfl
theorem dX6_keep_30 : decode cX6_keep 30 = .ok (.iload_n 1, 1) := dk_i kdX6_keep_0 15 rfl
def ldX6_keep_31 : List (Nat × ClassFile.Instr × Nat) := [(31, .iastore, 1), (32, .aload_n 0, 1), (33, .dup, 1), (34, .getfield 25, 3), (37, .iconst 1, 1), (38, .iadd, 1), (39, .putfield 25, 3), (42, .return_, 1)]
theorem kdX6_keep_31 : dkO cX6_keep 31 ldX6_keep_31 = true := by decide +kernel
theorem dX6_keep_31 : decode cX6_keep 31 = .ok (.iastore, 1) := dk_i kdX6_keep_31 0 rfl
theorem dX6_keep_32 : decode cX6_keep 32 = .ok (.aload_n 0, 1) := dk_i kdX6_keep_31 1 rfl
theorem dX6_keep_33 : decode cX6_keep 33 = .ok (.dup, 1) := dk_i kdX6_keep_31 2 rfl
theorem dX6_keep_34 : decode cX6_keep 34 = .ok (.getfield 25, 3) := dk_i kdX6_keep_31 3 rfl
theorem dX6_keep_37 : decode cX6_keep 37 = .ok (.iconst 1, 1) := dk_i kdX6_keep_31 4 rfl
theorem dX6_keep_38 : decode cX6_keep 38 = .ok (.iadd, 1) := dk_i kdX6_keep_31 5 rfl
theorem dX6_keep_39 : decode cX6_keep 39 = .ok (.putfield 25, 3) := dk_i kdX6_keep_31 6 rfl
theorem dX6_keep_42 : decode cX6_keep 42 = .ok (.return_, 1) := dk_i kdX6_keep_31 7 rfl
def ldX6_save_0 : List (Nat × ClassFile.Instr × Nat) := [(0, .aload_n 1, 1), (1, .arraylength, 1), (2, .bipush 18, 2), (4, .if_icmp .ge 4, 3), (7, .return_, 1), (8, .aload_n 1, 1), (9, .iconst 0, 1), (10, .aload_n 0, 1), (11, .getfield 9, 3), (14, .iastore, 1), (15, .aload_n 1, 1), (16, .iconst 1, 1), (17, .aload_n 0, 1), (18, .getfield 25, 3), (21, .iastore, 1), (22, .aload_n 0, 1)]
theorem kdX6_save_0 : dkO cX6_save 0 ldX6_save_0 = true := by decide +kernel
theorem dX6_save_0 : decode cX6_save 0 = .ok (.aload_n 1, 1) := dk_i kdX6_save_0 0 rfl
theorem dX6_save_1 : decode cX6_save 1 = .ok (.arraylength, 1) := dk_i kdX6_save_0 1 rfl
theorem dX6_save_2 : decode cX6_save 2 = .ok (.bipush 18, 2) := dk_i kdX6_save_0 2 rfl
theorem dX6_save_4 : decode cX6_save 4 = .ok (.if_icmp .ge 4, 3) := dk_i kdX6_save_0 3 rfl
theorem dX6_save_7 : decode cX6_save 7 = .ok (.return_, 1) := dk_i kdX6_save_0 4 rfl
theorem dX6_save_8 : decode cX6_save 8 = .ok (.aload_n 1, 1) := dk_i kdX6_save_0 5 rfl
theorem dX6_save_9 : decode cX6_save 9 = .ok (.iconst 0, 1) := dk_i kdX6_save_0 6 rfl
theorem dX6_save_10 : decode cX6_save 10 = .ok (.aload_n 0, 1) := dk_i kdX6_save_0 7 rfl
theorem dX6_save_11 : decode cX6_save 11 = .ok (.getfield 9, 3) := dk_i kdX6_save_0 8 rfl
theorem dX6_save_14 : decode cX6_save 14 = .ok (.iastore, 1) := dk_i kdX6_save_0 9 rfl
theorem dX6_save_15 : decode cX6_save 15 = .ok (.aload_n 1, 1) := dk_i kdX6_save_0 10 rfl
theorem dX6_save_16 : decode cX6_save 16 = .ok (.iconst 1, 1) := dk_i kdX6_save_0 11 rfl
theorem dX6_save_17 : decode cX6_save 17 = .ok (.aload_n 0, 1) := dk_i kdX6_save_0 12 rfl
theorem dX6_save_18 : decode cX6_save 18 = .ok (.getfield 25, 3) := dk_i kdX6_save_0 13 rfl
theorem dX6_save_21 : decode cX6_save 21 = .ok (.iastore, 1) := dk_i kdX6_save_0 14 rfl
theorem dX6_save_22 : decode cX6_save 22 = .ok (.aload_n 0, 1) := dk_i kdX6_save_0 15 rfl
def ldX6_save_23 : List (Nat × ClassFile.Instr × Nat) := [(23, .getfield 15, 3), (26, .iconst 0, 1), (27, .aload_n 1, 1), (28, .iconst 2, 1), (29, .iconst 5, 1), (30, .invokestatic 91, 3), (33, .aload_n 0, 1), (34, .getfield 19, 3), (37, .iconst 0, 1), (38, .aload_n 1, 1), (39, .bipush 7, 2), (41, .iconst 5, 1), (42, .invokestatic 91, 3), (45, .aload_n 0, 1), (46, .getfield 22, 3), (49, .iconst 0, 1)]
theorem kdX6_save_23 : dkO cX6_save 23 ldX6_save_23 = true := by decide +kernel
theorem dX6_save_23 : decode cX6_save 23 = .ok (.getfield 15, 3) := dk_i kdX6_save_23 0 rfl
theorem dX6_save_26 : decode cX6_save 26 = .ok (.iconst 0, 1) := dk_i kdX6_save_23 1 rfl
theorem dX6_save_27 : decode cX6_save 27 = .ok (.aload_n 1, 1) := dk_i kdX6_save_23 2 rfl
theorem dX6_save_28 : decode cX6_save 28 = .ok (.iconst 2, 1) := dk_i kdX6_save_23 3 rfl
theorem dX6_save_29 : decode cX6_save 29 = .ok (.iconst 5, 1) := dk_i kdX6_save_23 4 rfl
theorem dX6_save_30 : decode cX6_save 30 = .ok (.invokestatic 91, 3) := dk_i kdX6_save_23 5 rfl
theorem dX6_save_33 : decode cX6_save 33 = .ok (.aload_n 0, 1) := dk_i kdX6_save_23 6 rfl
theorem dX6_save_34 : decode cX6_save 34 = .ok (.getfield 19, 3) := dk_i kdX6_save_23 7 rfl
theorem dX6_save_37 : decode cX6_save 37 = .ok (.iconst 0, 1) := dk_i kdX6_save_23 8 rfl
theorem dX6_save_38 : decode cX6_save 38 = .ok (.aload_n 1, 1) := dk_i kdX6_save_23 9 rfl
theorem dX6_save_39 : decode cX6_save 39 = .ok (.bipush 7, 2) := dk_i kdX6_save_23 10 rfl
theorem dX6_save_41 : decode cX6_save 41 = .ok (.iconst 5, 1) := dk_i kdX6_save_23 11 rfl
theorem dX6_save_42 : decode cX6_save 42 = .ok (.invokestatic 91, 3) := dk_i kdX6_save_23 12 rfl
theorem dX6_save_45 : decode cX6_save 45 = .ok (.aload_n 0, 1) := dk_i kdX6_save_23 13 rfl
theorem dX6_save_46 : decode cX6_save 46 = .ok (.getfield 22, 3) := dk_i kdX6_save_23 14 rfl
theorem dX6_save_49 : decode cX6_save 49 = .ok (.iconst 0, 1) := dk_i kdX6_save_23 15 rfl
def ldX6_save_50 : List (Nat × ClassFile.Instr × Nat) := [(50, .aload_n 1, 1), (51, .bipush 12, 2), (53, .bipush 6, 2), (55, .invokestatic 91, 3), (58, .return_, 1)]
theorem kdX6_save_50 : dkO cX6_save 50 ldX6_save_50 = true := by decide +kernel
theorem dX6_save_50 : decode cX6_save 50 = .ok (.aload_n 1, 1) := dk_i kdX6_save_50 0 rfl
theorem dX6_save_51 : decode cX6_save 51 = .ok (.bipush 12, 2) := dk_i kdX6_save_50 1 rfl
theorem dX6_save_53 : decode cX6_save 53 = .ok (.bipush 6, 2) := dk_i kdX6_save_50 2 rfl
theorem dX6_save_55 : decode cX6_save 55 = .ok (.invokestatic 91, 3) := dk_i kdX6_save_50 3 rfl
theorem dX6_save_58 : decode cX6_save 58 = .ok (.return_, 1) := dk_i kdX6_save_50 4 rfl
def ldX6_bringBack_0 : List (Nat × ClassFile.Instr × Nat) := [(0, .aload_n 1, 1), (1, .arraylength, 1), (2, .bipush 18, 2), (4, .if_icmp .ge 4, 3), (7, .return_, 1), (8, .aload_n 0, 1), (9, .aload_n 1, 1), (10, .iconst 0, 1), (11, .iaload, 1), (12, .putfield 9, 3), (15, .aload_n 0, 1), (16, .aload_n 1, 1), (17, .iconst 1, 1), (18, .iaload, 1), (19, .putfield 25, 3), (22, .aload_n 1, 1)]
theorem kdX6_bringBack_0 : dkO cX6_bringBack 0 ldX6_bringBack_0 = true := by decide +kernel
theorem dX6_bringBack_0 : decode cX6_bringBack 0 = .ok (.aload_n 1, 1) := dk_i kdX6_bringBack_0 0 rfl
theorem dX6_bringBack_1 : decode cX6_bringBack 1 = .ok (.arraylength, 1) := dk_i kdX6_bringBack_0 1 rfl
theorem dX6_bringBack_2 : decode cX6_bringBack 2 = .ok (.bipush 18, 2) := dk_i kdX6_bringBack_0 2 rfl
theorem dX6_bringBack_4 : decode cX6_bringBack 4 = .ok (.if_icmp .ge 4, 3) := dk_i kdX6_bringBack_0 3 rfl
theorem dX6_bringBack_7 : decode cX6_bringBack 7 = .ok (.return_, 1) := dk_i kdX6_bringBack_0 4 rfl
theorem dX6_bringBack_8 : decode cX6_bringBack 8 = .ok (.aload_n 0, 1) := dk_i kdX6_bringBack_0 5 rfl
theorem dX6_bringBack_9 : decode cX6_bringBack 9 = .ok (.aload_n 1, 1) := dk_i kdX6_bringBack_0 6 rfl
theorem dX6_bringBack_10 : decode cX6_bringBack 10 = .ok (.iconst 0, 1) := dk_i kdX6_bringBack_0 7 rfl
theorem dX6_bringBack_11 : decode cX6_bringBack 11 = .ok (.iaload, 1) := dk_i kdX6_bringBack_0 8 rfl
theorem dX6_bringBack_12 : decode cX6_bringBack 12 = .ok (.putfield 9, 3) := dk_i kdX6_bringBack_0 9 rfl
theorem dX6_bringBack_15 : decode cX6_bringBack 15 = .ok (.aload_n 0, 1) := dk_i kdX6_bringBack_0 10 rfl
theorem dX6_bringBack_16 : decode cX6_bringBack 16 = .ok (.aload_n 1, 1) := dk_i kdX6_bringBack_0 11 rfl
theorem dX6_bringBack_17 : decode cX6_bringBack 17 = .ok (.iconst 1, 1) := dk_i kdX6_bringBack_0 12 rfl
theorem dX6_bringBack_18 : decode cX6_bringBack 18 = .ok (.iaload, 1) := dk_i kdX6_bringBack_0 13 rfl
theorem dX6_bringBack_19 : decode cX6_bringBack 19 = .ok (.putfield 25, 3) := dk_i kdX6_bringBack_0 14 rfl
theorem dX6_bringBack_22 : decode cX6_bringBack 22 = .ok (.aload_n 1, 1) := dk_i kdX6_bringBack_0 15 rfl
def ldX6_bringBack_23 : List (Nat × ClassFile.Instr × Nat) := [(23, .iconst 2, 1), (24, .aload_n 0, 1), (25, .getfield 15, 3), (28, .iconst 0, 1), (29, .iconst 5, 1), (30, .invokestatic 91, 3), (33, .aload_n 1, 1), (34, .bipush 7, 2), (36, .aload_n 0, 1), (37, .getfield 19, 3), (40, .iconst 0, 1), (41, .iconst 5, 1), (42, .invokestatic 91, 3), (45, .aload_n 1, 1), (46, .bipush 12, 2), (48, .aload_n 0, 1)]
theorem kdX6_bringBack_23 : dkO cX6_bringBack 23 ldX6_bringBack_23 = true := by decide +kernel
theorem dX6_bringBack_23 : decode cX6_bringBack 23 = .ok (.iconst 2, 1) := dk_i kdX6_bringBack_23 0 rfl
theorem dX6_bringBack_24 : decode cX6_bringBack 24 = .ok (.aload_n 0, 1) := dk_i kdX6_bringBack_23 1 rfl
theorem dX6_bringBack_25 : decode cX6_bringBack 25 = .ok (.getfield 15, 3) := dk_i kdX6_bringBack_23 2 rfl
theorem dX6_bringBack_28 : decode cX6_bringBack 28 = .ok (.iconst 0, 1) := dk_i kdX6_bringBack_23 3 rfl
theorem dX6_bringBack_29 : decode cX6_bringBack 29 = .ok (.iconst 5, 1) := dk_i kdX6_bringBack_23 4 rfl
theorem dX6_bringBack_30 : decode cX6_bringBack 30 = .ok (.invokestatic 91, 3) := dk_i kdX6_bringBack_23 5 rfl
theorem dX6_bringBack_33 : decode cX6_bringBack 33 = .ok (.aload_n 1, 1) := dk_i kdX6_bringBack_23 6 rfl
theorem dX6_bringBack_34 : decode cX6_bringBack 34 = .ok (.bipush 7, 2) := dk_i kdX6_bringBack_23 7 rfl
theorem dX6_bringBack_36 : decode cX6_bringBack 36 = .ok (.aload_n 0, 1) := dk_i kdX6_bringBack_23 8 rfl
theorem dX6_bringBack_37 : decode cX6_bringBack 37 = .ok (.getfield 19, 3) := dk_i kdX6_bringBack_23 9 rfl
theorem dX6_bringBack_40 : decode cX6_bringBack 40 = .ok (.iconst 0, 1) := dk_i kdX6_bringBack_23 10 rfl
theorem dX6_bringBack_41 : decode cX6_bringBack 41 = .ok (.iconst 5, 1) := dk_i kdX6_bringBack_23 11 rfl
theorem dX6_bringBack_42 : decode cX6_bringBack 42 = .ok (.invokestatic 91, 3) := dk_i kdX6_bringBack_23 12 rfl
theorem dX6_bringBack_45 : decode cX6_bringBack 45 = .ok (.aload_n 1, 1) := dk_i kdX6_bringBack_23 13 rfl
theorem dX6_bringBack_46 : decode cX6_bringBack 46 = .ok (.bipush 12, 2) := dk_i kdX6_bringBack_23 14 rfl
theorem dX6_bringBack_48 : decode cX6_bringBack 48 = .ok (.aload_n 0, 1) := dk_i kdX6_bringBack_23 15 rfl
def ldX6_bringBack_49 : List (Nat × ClassFile.Instr × Nat) := [(49, .getfield 22, 3), (52, .iconst 0, 1), (53, .bipush 6, 2), (55, .invokestatic 91, 3), (58, .return_, 1)]
theorem kdX6_bringBack_49 : dkO cX6_bringBack 49 ldX6_bringBack_49 = true := by decide +kernel
theorem dX6_bringBack_49 : decode cX6_bringBack 49 = .ok (.getfield 22, 3) := dk_i kdX6_bringBack_49 0 rfl
theorem dX6_bringBack_52 : decode cX6_bringBack 52 = .ok (.iconst 0, 1) := dk_i kdX6_bringBack_49 1 rfl
theorem dX6_bringBack_53 : decode cX6_bringBack 53 = .ok (.bipush 6, 2) := dk_i kdX6_bringBack_49 2 rfl
theorem dX6_bringBack_55 : decode cX6_bringBack 55 = .ok (.invokestatic 91, 3) := dk_i kdX6_bringBack_49 3 rfl
theorem dX6_bringBack_58 : decode cX6_bringBack 58 = .ok (.return_, 1) := dk_i kdX6_bringBack_49 4 rfl
def ldX6_imageSize_0 : List (Nat × ClassFile.Instr × Nat) := [(0, .iconst 2, 1), (1, .iconst 3, 1), (2, .aload_n 0, 1), (3, .getfield 34, 3), (6, .getfield 38, 3), (9, .imul, 1), (10, .iadd, 1), (11, .aload_n 0, 1), (12, .getfield 34, 3), (15, .getfield 50, 3), (18, .iadd, 1), (19, .iconst 1, 1), (20, .iadd, 1), (21, .ireturn, 1)]
theorem kdX6_imageSize_0 : dkO cX6_imageSize 0 ldX6_imageSize_0 = true := by decide +kernel
theorem dX6_imageSize_0 : decode cX6_imageSize 0 = .ok (.iconst 2, 1) := dk_i kdX6_imageSize_0 0 rfl
theorem dX6_imageSize_1 : decode cX6_imageSize 1 = .ok (.iconst 3, 1) := dk_i kdX6_imageSize_0 1 rfl
theorem dX6_imageSize_2 : decode cX6_imageSize 2 = .ok (.aload_n 0, 1) := dk_i kdX6_imageSize_0 2 rfl
theorem dX6_imageSize_3 : decode cX6_imageSize 3 = .ok (.getfield 34, 3) := dk_i kdX6_imageSize_0 3 rfl
theorem dX6_imageSize_6 : decode cX6_imageSize 6 = .ok (.getfield 38, 3) := dk_i kdX6_imageSize_0 4 rfl
theorem dX6_imageSize_9 : decode cX6_imageSize 9 = .ok (.imul, 1) := dk_i kdX6_imageSize_0 5 rfl
theorem dX6_imageSize_10 : decode cX6_imageSize 10 = .ok (.iadd, 1) := dk_i kdX6_imageSize_0 6 rfl
theorem dX6_imageSize_11 : decode cX6_imageSize 11 = .ok (.aload_n 0, 1) := dk_i kdX6_imageSize_0 7 rfl
theorem dX6_imageSize_12 : decode cX6_imageSize 12 = .ok (.getfield 34, 3) := dk_i kdX6_imageSize_0 8 rfl
theorem dX6_imageSize_15 : decode cX6_imageSize 15 = .ok (.getfield 50, 3) := dk_i kdX6_imageSize_0 9 rfl
theorem dX6_imageSize_18 : decode cX6_imageSize 18 = .ok (.iadd, 1) := dk_i kdX6_imageSize_0 10 rfl
theorem dX6_imageSize_19 : decode cX6_imageSize 19 = .ok (.iconst 1, 1) := dk_i kdX6_imageSize_0 11 rfl
theorem dX6_imageSize_20 : decode cX6_imageSize 20 = .ok (.iadd, 1) := dk_i kdX6_imageSize_0 12 rfl
theorem dX6_imageSize_21 : decode cX6_imageSize 21 = .ok (.ireturn, 1) := dk_i kdX6_imageSize_0 13 rfl
def ldX6_checkOf_0 : List (Nat × ClassFile.Instr × Nat) := [(0, .sipush 227, 3), (3, .istore_n 2, 1), (4, .iconst 0, 1), (5, .istore_n 3, 1), (6, .iload_n 3, 1), (7, .iload_n 1, 1), (8, .if_icmp .ge 27, 3), (11, .iload_n 3, 1), (12, .aload_n 0, 1), (13, .arraylength, 1), (14, .if_icmp .ge 21, 3), (17, .iconst 5, 1), (18, .iload_n 2, 1), (19, .imul, 1), (20, .aload_n 0, 1), (21, .iload_n 3, 1)]
theorem kdX6_checkOf_0 : dkO cX6_checkOf 0 ldX6_checkOf_0 = true := by decide +kernel
theorem dX6_checkOf_0 : decode cX6_checkOf 0 = .ok (.sipush 227, 3) := dk_i kdX6_checkOf_0 0 rfl
theorem dX6_checkOf_3 : decode cX6_checkOf 3 = .ok (.istore_n 2, 1) := dk_i kdX6_checkOf_0 1 rfl
theorem dX6_checkOf_4 : decode cX6_checkOf 4 = .ok (.iconst 0, 1) := dk_i kdX6_checkOf_0 2 rfl
theorem dX6_checkOf_5 : decode cX6_checkOf 5 = .ok (.istore_n 3, 1) := dk_i kdX6_checkOf_0 3 rfl
theorem dX6_checkOf_6 : decode cX6_checkOf 6 = .ok (.iload_n 3, 1) := dk_i kdX6_checkOf_0 4 rfl
theorem dX6_checkOf_7 : decode cX6_checkOf 7 = .ok (.iload_n 1, 1) := dk_i kdX6_checkOf_0 5 rfl
theorem dX6_checkOf_8 : decode cX6_checkOf 8 = .ok (.if_icmp .ge 27, 3) := dk_i kdX6_checkOf_0 6 rfl
theorem dX6_checkOf_11 : decode cX6_checkOf 11 = .ok (.iload_n 3, 1) := dk_i kdX6_checkOf_0 7 rfl
theorem dX6_checkOf_12 : decode cX6_checkOf 12 = .ok (.aload_n 0, 1) := dk_i kdX6_checkOf_0 8 rfl
theorem dX6_checkOf_13 : decode cX6_checkOf 13 = .ok (.arraylength, 1) := dk_i kdX6_checkOf_0 9 rfl
theorem dX6_checkOf_14 : decode cX6_checkOf 14 = .ok (.if_icmp .ge 21, 3) := dk_i kdX6_checkOf_0 10 rfl
theorem dX6_checkOf_17 : decode cX6_checkOf 17 = .ok (.iconst 5, 1) := dk_i kdX6_checkOf_0 11 rfl
theorem dX6_checkOf_18 : decode cX6_checkOf 18 = .ok (.iload_n 2, 1) := dk_i kdX6_checkOf_0 12 rfl
theorem dX6_checkOf_19 : decode cX6_checkOf 19 = .ok (.imul, 1) := dk_i kdX6_checkOf_0 13 rfl
theorem dX6_checkOf_20 : decode cX6_checkOf 20 = .ok (.aload_n 0, 1) := dk_i kdX6_checkOf_0 14 rfl
theorem dX6_checkOf_21 : decode cX6_checkOf 21 = .ok (.iload_n 3, 1) := dk_i kdX6_checkOf_0 15 rfl
def ldX6_checkOf_22 : List (Nat × ClassFile.Instr × Nat) := [(22, .iaload, 1), (23, .iadd, 1), (24, .sipush 251, 3), (27, .irem, 1), (28, .istore_n 2, 1), (29, .iinc 3 1, 3), (32, .goto (-26), 3), (35, .iload_n 2, 1), (36, .ireturn, 1)]
theorem kdX6_checkOf_22 : dkO cX6_checkOf 22 ldX6_checkOf_22 = true := by decide +kernel
theorem dX6_checkOf_22 : decode cX6_checkOf 22 = .ok (.iaload, 1) := dk_i kdX6_checkOf_22 0 rfl
theorem dX6_checkOf_23 : decode cX6_checkOf 23 = .ok (.iadd, 1) := dk_i kdX6_checkOf_22 1 rfl
theorem dX6_checkOf_24 : decode cX6_checkOf 24 = .ok (.sipush 251, 3) := dk_i kdX6_checkOf_22 2 rfl
theorem dX6_checkOf_27 : decode cX6_checkOf 27 = .ok (.irem, 1) := dk_i kdX6_checkOf_22 3 rfl
theorem dX6_checkOf_28 : decode cX6_checkOf 28 = .ok (.istore_n 2, 1) := dk_i kdX6_checkOf_22 4 rfl
theorem dX6_checkOf_29 : decode cX6_checkOf 29 = .ok (.iinc 3 1, 3) := dk_i kdX6_checkOf_22 5 rfl
theorem dX6_checkOf_32 : decode cX6_checkOf 32 = .ok (.goto (-26), 3) := dk_i kdX6_checkOf_22 6 rfl
theorem dX6_checkOf_35 : decode cX6_checkOf 35 = .ok (.iload_n 2, 1) := dk_i kdX6_checkOf_22 7 rfl
theorem dX6_checkOf_36 : decode cX6_checkOf 36 = .ok (.ireturn, 1) := dk_i kdX6_checkOf_22 8 rfl
def ldX6_writeImage_0 : List (Nat × ClassFile.Instr × Nat) := [(0, .aload_n 0, 1), (1, .invokevirtual 97, 3), (4, .istore_n 2, 1), (5, .aload_n 1, 1), (6, .arraylength, 1), (7, .iload_n 2, 1), (8, .if_icmp .ge 5, 3), (11, .iconst 0, 1), (12, .ireturn, 1), (13, .aload_n 1, 1), (14, .iconst 0, 1), (15, .aload_n 0, 1), (16, .getfield 9, 3), (19, .bipush 8, 2), (21, .ishr, 1), (22, .iastore, 1)]
theorem kdX6_writeImage_0 : dkO cX6_writeImage 0 ldX6_writeImage_0 = true := by decide +kernel
theorem dX6_writeImage_0 : decode cX6_writeImage 0 = .ok (.aload_n 0, 1) := dk_i kdX6_writeImage_0 0 rfl
theorem dX6_writeImage_1 : decode cX6_writeImage 1 = .ok (.invokevirtual 97, 3) := dk_i kdX6_writeImage_0 1 rfl
theorem dX6_writeImage_4 : decode cX6_writeImage 4 = .ok (.istore_n 2, 1) := dk_i kdX6_writeImage_0 2 rfl
theorem dX6_writeImage_5 : decode cX6_writeImage 5 = .ok (.aload_n 1, 1) := dk_i kdX6_writeImage_0 3 rfl
theorem dX6_writeImage_6 : decode cX6_writeImage 6 = .ok (.arraylength, 1) := dk_i kdX6_writeImage_0 4 rfl
theorem dX6_writeImage_7 : decode cX6_writeImage 7 = .ok (.iload_n 2, 1) := dk_i kdX6_writeImage_0 5 rfl
theorem dX6_writeImage_8 : decode cX6_writeImage 8 = .ok (.if_icmp .ge 5, 3) := dk_i kdX6_writeImage_0 6 rfl
theorem dX6_writeImage_11 : decode cX6_writeImage 11 = .ok (.iconst 0, 1) := dk_i kdX6_writeImage_0 7 rfl
theorem dX6_writeImage_12 : decode cX6_writeImage 12 = .ok (.ireturn, 1) := dk_i kdX6_writeImage_0 8 rfl
theorem dX6_writeImage_13 : decode cX6_writeImage 13 = .ok (.aload_n 1, 1) := dk_i kdX6_writeImage_0 9 rfl
theorem dX6_writeImage_14 : decode cX6_writeImage 14 = .ok (.iconst 0, 1) := dk_i kdX6_writeImage_0 10 rfl
theorem dX6_writeImage_15 : decode cX6_writeImage 15 = .ok (.aload_n 0, 1) := dk_i kdX6_writeImage_0 11 rfl
theorem dX6_writeImage_16 : decode cX6_writeImage 16 = .ok (.getfield 9, 3) := dk_i kdX6_writeImage_0 12 rfl
theorem dX6_writeImage_19 : decode cX6_writeImage 19 = .ok (.bipush 8, 2) := dk_i kdX6_writeImage_0 13 rfl
theorem dX6_writeImage_21 : decode cX6_writeImage 21 = .ok (.ishr, 1) := dk_i kdX6_writeImage_0 14 rfl
theorem dX6_writeImage_22 : decode cX6_writeImage 22 = .ok (.iastore, 1) := dk_i kdX6_writeImage_0 15 rfl
def ldX6_writeImage_23 : List (Nat × ClassFile.Instr × Nat) := [(23, .aload_n 1, 1), (24, .iconst 1, 1), (25, .aload_n 0, 1), (26, .getfield 9, 3), (29, .sipush 255, 3), (32, .iand, 1), (33, .iastore, 1), (34, .iconst 0, 1), (35, .istore_n 3, 1), (36, .iload_n 3, 1), (37, .aload_n 0, 1), (38, .getfield 34, 3), (41, .getfield 38, 3), (44, .if_icmp .ge 73, 3), (47, .iconst 2, 1), (48, .iconst 3, 1)]
theorem kdX6_writeImage_23 : dkO cX6_writeImage 23 ldX6_writeImage_23 = true := by decide +kernel
theorem dX6_writeImage_23 : decode cX6_writeImage 23 = .ok (.aload_n 1, 1) := dk_i kdX6_writeImage_23 0 rfl
theorem dX6_writeImage_24 : decode cX6_writeImage 24 = .ok (.iconst 1, 1) := dk_i kdX6_writeImage_23 1 rfl
theorem dX6_writeImage_25 : decode cX6_writeImage 25 = .ok (.aload_n 0, 1) := dk_i kdX6_writeImage_23 2 rfl
theorem dX6_writeImage_26 : decode cX6_writeImage 26 = .ok (.getfield 9, 3) := dk_i kdX6_writeImage_23 3 rfl
theorem dX6_writeImage_29 : decode cX6_writeImage 29 = .ok (.sipush 255, 3) := dk_i kdX6_writeImage_23 4 rfl
theorem dX6_writeImage_32 : decode cX6_writeImage 32 = .ok (.iand, 1) := dk_i kdX6_writeImage_23 5 rfl
theorem dX6_writeImage_33 : decode cX6_writeImage 33 = .ok (.iastore, 1) := dk_i kdX6_writeImage_23 6 rfl
theorem dX6_writeImage_34 : decode cX6_writeImage 34 = .ok (.iconst 0, 1) := dk_i kdX6_writeImage_23 7 rfl
theorem dX6_writeImage_35 : decode cX6_writeImage 35 = .ok (.istore_n 3, 1) := dk_i kdX6_writeImage_23 8 rfl
theorem dX6_writeImage_36 : decode cX6_writeImage 36 = .ok (.iload_n 3, 1) := dk_i kdX6_writeImage_23 9 rfl
theorem dX6_writeImage_37 : decode cX6_writeImage 37 = .ok (.aload_n 0, 1) := dk_i kdX6_writeImage_23 10 rfl
theorem dX6_writeImage_38 : decode cX6_writeImage 38 = .ok (.getfield 34, 3) := dk_i kdX6_writeImage_23 11 rfl
theorem dX6_writeImage_41 : decode cX6_writeImage 41 = .ok (.getfield 38, 3) := dk_i kdX6_writeImage_23 12 rfl
theorem dX6_writeImage_44 : decode cX6_writeImage 44 = .ok (.if_icmp .ge 73, 3) := dk_i kdX6_writeImage_23 13 rfl
theorem dX6_writeImage_47 : decode cX6_writeImage 47 = .ok (.iconst 2, 1) := dk_i kdX6_writeImage_23 14 rfl
theorem dX6_writeImage_48 : decode cX6_writeImage 48 = .ok (.iconst 3, 1) := dk_i kdX6_writeImage_23 15 rfl
def ldX6_writeImage_49 : List (Nat × ClassFile.Instr × Nat) := [(49, .iload_n 3, 1), (50, .imul, 1), (51, .iadd, 1), (52, .istore 4, 2), (54, .aload_n 1, 1), (55, .iload 4, 2), (57, .aload_n 0, 1), (58, .getfield 15, 3), (61, .iload_n 3, 1), (62, .iaload, 1), (63, .iconst (-1), 1), (64, .if_icmp .ne 9, 3), (67, .sipush 255, 3), (70, .goto 9, 3), (73, .aload_n 0, 1), (74, .getfield 15, 3)]
theorem kdX6_writeImage_49 : dkO cX6_writeImage 49 ldX6_writeImage_49 = true := by decide +kernel
theorem dX6_writeImage_49 : decode cX6_writeImage 49 = .ok (.iload_n 3, 1) := dk_i kdX6_writeImage_49 0 rfl
theorem dX6_writeImage_50 : decode cX6_writeImage 50 = .ok (.imul, 1) := dk_i kdX6_writeImage_49 1 rfl
theorem dX6_writeImage_51 : decode cX6_writeImage 51 = .ok (.iadd, 1) := dk_i kdX6_writeImage_49 2 rfl
theorem dX6_writeImage_52 : decode cX6_writeImage 52 = .ok (.istore 4, 2) := dk_i kdX6_writeImage_49 3 rfl
theorem dX6_writeImage_54 : decode cX6_writeImage 54 = .ok (.aload_n 1, 1) := dk_i kdX6_writeImage_49 4 rfl
theorem dX6_writeImage_55 : decode cX6_writeImage 55 = .ok (.iload 4, 2) := dk_i kdX6_writeImage_49 5 rfl
theorem dX6_writeImage_57 : decode cX6_writeImage 57 = .ok (.aload_n 0, 1) := dk_i kdX6_writeImage_49 6 rfl
theorem dX6_writeImage_58 : decode cX6_writeImage 58 = .ok (.getfield 15, 3) := dk_i kdX6_writeImage_49 7 rfl
theorem dX6_writeImage_61 : decode cX6_writeImage 61 = .ok (.iload_n 3, 1) := dk_i kdX6_writeImage_49 8 rfl
theorem dX6_writeImage_62 : decode cX6_writeImage 62 = .ok (.iaload, 1) := dk_i kdX6_writeImage_49 9 rfl
theorem dX6_writeImage_63 : decode cX6_writeImage 63 = .ok (.iconst (-1), 1) := dk_i kdX6_writeImage_49 10 rfl
theorem dX6_writeImage_64 : decode cX6_writeImage 64 = .ok (.if_icmp .ne 9, 3) := dk_i kdX6_writeImage_49 11 rfl
theorem dX6_writeImage_67 : decode cX6_writeImage 67 = .ok (.sipush 255, 3) := dk_i kdX6_writeImage_49 12 rfl
theorem dX6_writeImage_70 : decode cX6_writeImage 70 = .ok (.goto 9, 3) := dk_i kdX6_writeImage_49 13 rfl
theorem dX6_writeImage_73 : decode cX6_writeImage 73 = .ok (.aload_n 0, 1) := dk_i kdX6_writeImage_49 14 rfl
theorem dX6_writeImage_74 : decode cX6_writeImage 74 = .ok (.getfield 15, 3) := dk_i kdX6_writeImage_49 15 rfl
def ldX6_writeImage_77 : List (Nat × ClassFile.Instr × Nat) := [(77, .iload_n 3, 1), (78, .iaload, 1), (79, .iastore, 1), (80, .aload_n 1, 1), (81, .iload 4, 2), (83, .iconst 1, 1), (84, .iadd, 1), (85, .aload_n 0, 1), (86, .getfield 19, 3), (89, .iload_n 3, 1), (90, .iaload, 1), (91, .bipush 8, 2), (93, .ishr, 1), (94, .iastore, 1), (95, .aload_n 1, 1), (96, .iload 4, 2)]
theorem kdX6_writeImage_77 : dkO cX6_writeImage 77 ldX6_writeImage_77 = true := by decide +kernel
theorem dX6_writeImage_77 : decode cX6_writeImage 77 = .ok (.iload_n 3, 1) := dk_i kdX6_writeImage_77 0 rfl
theorem dX6_writeImage_78 : decode cX6_writeImage 78 = .ok (.iaload, 1) := dk_i kdX6_writeImage_77 1 rfl
theorem dX6_writeImage_79 : decode cX6_writeImage 79 = .ok (.iastore, 1) := dk_i kdX6_writeImage_77 2 rfl
theorem dX6_writeImage_80 : decode cX6_writeImage 80 = .ok (.aload_n 1, 1) := dk_i kdX6_writeImage_77 3 rfl
theorem dX6_writeImage_81 : decode cX6_writeImage 81 = .ok (.iload 4, 2) := dk_i kdX6_writeImage_77 4 rfl
theorem dX6_writeImage_83 : decode cX6_writeImage 83 = .ok (.iconst 1, 1) := dk_i kdX6_writeImage_77 5 rfl
theorem dX6_writeImage_84 : decode cX6_writeImage 84 = .ok (.iadd, 1) := dk_i kdX6_writeImage_77 6 rfl
theorem dX6_writeImage_85 : decode cX6_writeImage 85 = .ok (.aload_n 0, 1) := dk_i kdX6_writeImage_77 7 rfl
theorem dX6_writeImage_86 : decode cX6_writeImage 86 = .ok (.getfield 19, 3) := dk_i kdX6_writeImage_77 8 rfl
theorem dX6_writeImage_89 : decode cX6_writeImage 89 = .ok (.iload_n 3, 1) := dk_i kdX6_writeImage_77 9 rfl
theorem dX6_writeImage_90 : decode cX6_writeImage 90 = .ok (.iaload, 1) := dk_i kdX6_writeImage_77 10 rfl
theorem dX6_writeImage_91 : decode cX6_writeImage 91 = .ok (.bipush 8, 2) := dk_i kdX6_writeImage_77 11 rfl
theorem dX6_writeImage_93 : decode cX6_writeImage 93 = .ok (.ishr, 1) := dk_i kdX6_writeImage_77 12 rfl
theorem dX6_writeImage_94 : decode cX6_writeImage 94 = .ok (.iastore, 1) := dk_i kdX6_writeImage_77 13 rfl
theorem dX6_writeImage_95 : decode cX6_writeImage 95 = .ok (.aload_n 1, 1) := dk_i kdX6_writeImage_77 14 rfl
theorem dX6_writeImage_96 : decode cX6_writeImage 96 = .ok (.iload 4, 2) := dk_i kdX6_writeImage_77 15 rfl
def ldX6_writeImage_98 : List (Nat × ClassFile.Instr × Nat) := [(98, .iconst 2, 1), (99, .iadd, 1), (100, .aload_n 0, 1), (101, .getfield 19, 3), (104, .iload_n 3, 1), (105, .iaload, 1), (106, .sipush 255, 3), (109, .iand, 1), (110, .iastore, 1), (111, .iinc 3 1, 3), (114, .goto (-78), 3), (117, .iconst 0, 1), (118, .istore_n 3, 1), (119, .iload_n 3, 1), (120, .aload_n 0, 1), (121, .getfield 34, 3)]
theorem kdX6_writeImage_98 : dkO cX6_writeImage 98 ldX6_writeImage_98 = true := by decide +kernel
theorem dX6_writeImage_98 : decode cX6_writeImage 98 = .ok (.iconst 2, 1) := dk_i kdX6_writeImage_98 0 rfl
theorem dX6_writeImage_99 : decode cX6_writeImage 99 = .ok (.iadd, 1) := dk_i kdX6_writeImage_98 1 rfl
theorem dX6_writeImage_100 : decode cX6_writeImage 100 = .ok (.aload_n 0, 1) := dk_i kdX6_writeImage_98 2 rfl
theorem dX6_writeImage_101 : decode cX6_writeImage 101 = .ok (.getfield 19, 3) := dk_i kdX6_writeImage_98 3 rfl
theorem dX6_writeImage_104 : decode cX6_writeImage 104 = .ok (.iload_n 3, 1) := dk_i kdX6_writeImage_98 4 rfl
theorem dX6_writeImage_105 : decode cX6_writeImage 105 = .ok (.iaload, 1) := dk_i kdX6_writeImage_98 5 rfl
theorem dX6_writeImage_106 : decode cX6_writeImage 106 = .ok (.sipush 255, 3) := dk_i kdX6_writeImage_98 6 rfl
theorem dX6_writeImage_109 : decode cX6_writeImage 109 = .ok (.iand, 1) := dk_i kdX6_writeImage_98 7 rfl
theorem dX6_writeImage_110 : decode cX6_writeImage 110 = .ok (.iastore, 1) := dk_i kdX6_writeImage_98 8 rfl
theorem dX6_writeImage_111 : decode cX6_writeImage 111 = .ok (.iinc 3 1, 3) := dk_i kdX6_writeImage_98 9 rfl
theorem dX6_writeImage_114 : decode cX6_writeImage 114 = .ok (.goto (-78), 3) := dk_i kdX6_writeImage_98 10 rfl
theorem dX6_writeImage_117 : decode cX6_writeImage 117 = .ok (.iconst 0, 1) := dk_i kdX6_writeImage_98 11 rfl
theorem dX6_writeImage_118 : decode cX6_writeImage 118 = .ok (.istore_n 3, 1) := dk_i kdX6_writeImage_98 12 rfl
theorem dX6_writeImage_119 : decode cX6_writeImage 119 = .ok (.iload_n 3, 1) := dk_i kdX6_writeImage_98 13 rfl
theorem dX6_writeImage_120 : decode cX6_writeImage 120 = .ok (.aload_n 0, 1) := dk_i kdX6_writeImage_98 14 rfl
theorem dX6_writeImage_121 : decode cX6_writeImage 121 = .ok (.getfield 34, 3) := dk_i kdX6_writeImage_98 15 rfl
def ldX6_writeImage_124 : List (Nat × ClassFile.Instr × Nat) := [(124, .getfield 50, 3), (127, .if_icmp .ge 30, 3), (130, .aload_n 1, 1), (131, .iconst 2, 1), (132, .iconst 3, 1), (133, .aload_n 0, 1), (134, .getfield 34, 3), (137, .getfield 38, 3), (140, .imul, 1), (141, .iadd, 1), (142, .iload_n 3, 1), (143, .iadd, 1), (144, .aload_n 0, 1), (145, .getfield 22, 3), (148, .iload_n 3, 1), (149, .iaload, 1)]
theorem kdX6_writeImage_124 : dkO cX6_writeImage 124 ldX6_writeImage_124 = true := by decide +kernel
theorem dX6_writeImage_124 : decode cX6_writeImage 124 = .ok (.getfield 50, 3) := dk_i kdX6_writeImage_124 0 rfl
theorem dX6_writeImage_127 : decode cX6_writeImage 127 = .ok (.if_icmp .ge 30, 3) := dk_i kdX6_writeImage_124 1 rfl
theorem dX6_writeImage_130 : decode cX6_writeImage 130 = .ok (.aload_n 1, 1) := dk_i kdX6_writeImage_124 2 rfl
theorem dX6_writeImage_131 : decode cX6_writeImage 131 = .ok (.iconst 2, 1) := dk_i kdX6_writeImage_124 3 rfl
theorem dX6_writeImage_132 : decode cX6_writeImage 132 = .ok (.iconst 3, 1) := dk_i kdX6_writeImage_124 4 rfl
theorem dX6_writeImage_133 : decode cX6_writeImage 133 = .ok (.aload_n 0, 1) := dk_i kdX6_writeImage_124 5 rfl
theorem dX6_writeImage_134 : decode cX6_writeImage 134 = .ok (.getfield 34, 3) := dk_i kdX6_writeImage_124 6 rfl
theorem dX6_writeImage_137 : decode cX6_writeImage 137 = .ok (.getfield 38, 3) := dk_i kdX6_writeImage_124 7 rfl
theorem dX6_writeImage_140 : decode cX6_writeImage 140 = .ok (.imul, 1) := dk_i kdX6_writeImage_124 8 rfl
theorem dX6_writeImage_141 : decode cX6_writeImage 141 = .ok (.iadd, 1) := dk_i kdX6_writeImage_124 9 rfl
theorem dX6_writeImage_142 : decode cX6_writeImage 142 = .ok (.iload_n 3, 1) := dk_i kdX6_writeImage_124 10 rfl
theorem dX6_writeImage_143 : decode cX6_writeImage 143 = .ok (.iadd, 1) := dk_i kdX6_writeImage_124 11 rfl
theorem dX6_writeImage_144 : decode cX6_writeImage 144 = .ok (.aload_n 0, 1) := dk_i kdX6_writeImage_124 12 rfl
theorem dX6_writeImage_145 : decode cX6_writeImage 145 = .ok (.getfield 22, 3) := dk_i kdX6_writeImage_124 13 rfl
theorem dX6_writeImage_148 : decode cX6_writeImage 148 = .ok (.iload_n 3, 1) := dk_i kdX6_writeImage_124 14 rfl
theorem dX6_writeImage_149 : decode cX6_writeImage 149 = .ok (.iaload, 1) := dk_i kdX6_writeImage_124 15 rfl
def ldX6_writeImage_150 : List (Nat × ClassFile.Instr × Nat) := [(150, .iastore, 1), (151, .iinc 3 1, 3), (154, .goto (-35), 3), (157, .aload_n 1, 1), (158, .iload_n 2, 1), (159, .iconst 1, 1), (160, .isub, 1), (161, .aload_n 1, 1), (162, .iload_n 2, 1), (163, .iconst 1, 1), (164, .isub, 1), (165, .invokestatic 100, 3), (168, .iastore, 1), (169, .iload_n 2, 1), (170, .ireturn, 1)]
theorem kdX6_writeImage_150 : dkO cX6_writeImage 150 ldX6_writeImage_150 = true := by decide +kernel
theorem dX6_writeImage_150 : decode cX6_writeImage 150 = .ok (.iastore, 1) := dk_i kdX6_writeImage_150 0 rfl
theorem dX6_writeImage_151 : decode cX6_writeImage 151 = .ok (.iinc 3 1, 3) := dk_i kdX6_writeImage_150 1 rfl
theorem dX6_writeImage_154 : decode cX6_writeImage 154 = .ok (.goto (-35), 3) := dk_i kdX6_writeImage_150 2 rfl
theorem dX6_writeImage_157 : decode cX6_writeImage 157 = .ok (.aload_n 1, 1) := dk_i kdX6_writeImage_150 3 rfl
theorem dX6_writeImage_158 : decode cX6_writeImage 158 = .ok (.iload_n 2, 1) := dk_i kdX6_writeImage_150 4 rfl
theorem dX6_writeImage_159 : decode cX6_writeImage 159 = .ok (.iconst 1, 1) := dk_i kdX6_writeImage_150 5 rfl
theorem dX6_writeImage_160 : decode cX6_writeImage 160 = .ok (.isub, 1) := dk_i kdX6_writeImage_150 6 rfl
theorem dX6_writeImage_161 : decode cX6_writeImage 161 = .ok (.aload_n 1, 1) := dk_i kdX6_writeImage_150 7 rfl
theorem dX6_writeImage_162 : decode cX6_writeImage 162 = .ok (.iload_n 2, 1) := dk_i kdX6_writeImage_150 8 rfl
theorem dX6_writeImage_163 : decode cX6_writeImage 163 = .ok (.iconst 1, 1) := dk_i kdX6_writeImage_150 9 rfl
theorem dX6_writeImage_164 : decode cX6_writeImage 164 = .ok (.isub, 1) := dk_i kdX6_writeImage_150 10 rfl
theorem dX6_writeImage_165 : decode cX6_writeImage 165 = .ok (.invokestatic 100, 3) := dk_i kdX6_writeImage_150 11 rfl
theorem dX6_writeImage_168 : decode cX6_writeImage 168 = .ok (.iastore, 1) := dk_i kdX6_writeImage_150 12 rfl
theorem dX6_writeImage_169 : decode cX6_writeImage 169 = .ok (.iload_n 2, 1) := dk_i kdX6_writeImage_150 13 rfl
theorem dX6_writeImage_170 : decode cX6_writeImage 170 = .ok (.ireturn, 1) := dk_i kdX6_writeImage_150 14 rfl
def ldX6_isImage_0 : List (Nat × ClassFile.Instr × Nat) := [(0, .aload_n 0, 1), (1, .invokevirtual 97, 3), (4, .istore_n 2, 1), (5, .aload_n 1, 1), (6, .getfield 104, 3), (9, .iload_n 2, 1), (10, .if_icmp .ne 14, 3), (13, .aload_n 1, 1), (14, .iconst 0, 1), (15, .invokevirtual 109, 3), (18, .sipush 9999, 3), (21, .if_icmp .le 5, 3), (24, .iconst 0, 1), (25, .ireturn, 1), (26, .iconst 0, 1), (27, .istore_n 3, 1)]
theorem kdX6_isImage_0 : dkO cX6_isImage 0 ldX6_isImage_0 = true := by decide +kernel
theorem dX6_isImage_0 : decode cX6_isImage 0 = .ok (.aload_n 0, 1) := dk_i kdX6_isImage_0 0 rfl
theorem dX6_isImage_1 : decode cX6_isImage 1 = .ok (.invokevirtual 97, 3) := dk_i kdX6_isImage_0 1 rfl
theorem dX6_isImage_4 : decode cX6_isImage 4 = .ok (.istore_n 2, 1) := dk_i kdX6_isImage_0 2 rfl
theorem dX6_isImage_5 : decode cX6_isImage 5 = .ok (.aload_n 1, 1) := dk_i kdX6_isImage_0 3 rfl
theorem dX6_isImage_6 : decode cX6_isImage 6 = .ok (.getfield 104, 3) := dk_i kdX6_isImage_0 4 rfl
theorem dX6_isImage_9 : decode cX6_isImage 9 = .ok (.iload_n 2, 1) := dk_i kdX6_isImage_0 5 rfl
theorem dX6_isImage_10 : decode cX6_isImage 10 = .ok (.if_icmp .ne 14, 3) := dk_i kdX6_isImage_0 6 rfl
theorem dX6_isImage_13 : decode cX6_isImage 13 = .ok (.aload_n 1, 1) := dk_i kdX6_isImage_0 7 rfl
theorem dX6_isImage_14 : decode cX6_isImage 14 = .ok (.iconst 0, 1) := dk_i kdX6_isImage_0 8 rfl
theorem dX6_isImage_15 : decode cX6_isImage 15 = .ok (.invokevirtual 109, 3) := dk_i kdX6_isImage_0 9 rfl
theorem dX6_isImage_18 : decode cX6_isImage 18 = .ok (.sipush 9999, 3) := dk_i kdX6_isImage_0 10 rfl
theorem dX6_isImage_21 : decode cX6_isImage 21 = .ok (.if_icmp .le 5, 3) := dk_i kdX6_isImage_0 11 rfl
theorem dX6_isImage_24 : decode cX6_isImage 24 = .ok (.iconst 0, 1) := dk_i kdX6_isImage_0 12 rfl
theorem dX6_isImage_25 : decode cX6_isImage 25 = .ok (.ireturn, 1) := dk_i kdX6_isImage_0 13 rfl
theorem dX6_isImage_26 : decode cX6_isImage 26 = .ok (.iconst 0, 1) := dk_i kdX6_isImage_0 14 rfl
theorem dX6_isImage_27 : decode cX6_isImage 27 = .ok (.istore_n 3, 1) := dk_i kdX6_isImage_0 15 rfl
def ldX6_isImage_28 : List (Nat × ClassFile.Instr × Nat) := [(28, .iload_n 3, 1), (29, .aload_n 0, 1), (30, .getfield 34, 3), (33, .getfield 38, 3), (36, .if_icmp .ge 69, 3), (39, .aload_n 1, 1), (40, .iconst 2, 1), (41, .iconst 3, 1), (42, .iload_n 3, 1), (43, .imul, 1), (44, .iadd, 1), (45, .invokevirtual 113, 3), (48, .istore 4, 2), (50, .iload 4, 2), (52, .sipush 255, 3), (55, .if_icmp .eq 15, 3)]
theorem kdX6_isImage_28 : dkO cX6_isImage 28 ldX6_isImage_28 = true := by decide +kernel
theorem dX6_isImage_28 : decode cX6_isImage 28 = .ok (.iload_n 3, 1) := dk_i kdX6_isImage_28 0 rfl
theorem dX6_isImage_29 : decode cX6_isImage 29 = .ok (.aload_n 0, 1) := dk_i kdX6_isImage_28 1 rfl
theorem dX6_isImage_30 : decode cX6_isImage 30 = .ok (.getfield 34, 3) := dk_i kdX6_isImage_28 2 rfl
theorem dX6_isImage_33 : decode cX6_isImage 33 = .ok (.getfield 38, 3) := dk_i kdX6_isImage_28 3 rfl
theorem dX6_isImage_36 : decode cX6_isImage 36 = .ok (.if_icmp .ge 69, 3) := dk_i kdX6_isImage_28 4 rfl
theorem dX6_isImage_39 : decode cX6_isImage 39 = .ok (.aload_n 1, 1) := dk_i kdX6_isImage_28 5 rfl
theorem dX6_isImage_40 : decode cX6_isImage 40 = .ok (.iconst 2, 1) := dk_i kdX6_isImage_28 6 rfl
theorem dX6_isImage_41 : decode cX6_isImage 41 = .ok (.iconst 3, 1) := dk_i kdX6_isImage_28 7 rfl
theorem dX6_isImage_42 : decode cX6_isImage 42 = .ok (.iload_n 3, 1) := dk_i kdX6_isImage_28 8 rfl
theorem dX6_isImage_43 : decode cX6_isImage 43 = .ok (.imul, 1) := dk_i kdX6_isImage_28 9 rfl
theorem dX6_isImage_44 : decode cX6_isImage 44 = .ok (.iadd, 1) := dk_i kdX6_isImage_28 10 rfl
theorem dX6_isImage_45 : decode cX6_isImage 45 = .ok (.invokevirtual 113, 3) := dk_i kdX6_isImage_28 11 rfl
theorem dX6_isImage_48 : decode cX6_isImage 48 = .ok (.istore 4, 2) := dk_i kdX6_isImage_28 12 rfl
theorem dX6_isImage_50 : decode cX6_isImage 50 = .ok (.iload 4, 2) := dk_i kdX6_isImage_28 13 rfl
theorem dX6_isImage_52 : decode cX6_isImage 52 = .ok (.sipush 255, 3) := dk_i kdX6_isImage_28 14 rfl
theorem dX6_isImage_55 : decode cX6_isImage 55 = .ok (.if_icmp .eq 15, 3) := dk_i kdX6_isImage_28 15 rfl
def ldX6_isImage_58 : List (Nat × ClassFile.Instr × Nat) := [(58, .aload_n 0, 1), (59, .getfield 34, 3), (62, .iload 4, 2), (64, .invokevirtual 116, 3), (67, .ifCond .eq 7, 3), (70, .iconst 1, 1), (71, .goto 4, 3), (74, .iconst 0, 1), (75, .istore 5, 2), (77, .iload 5, 2), (79, .ifCond .eq 18, 3), (82, .aload_n 1, 1), (83, .iconst 3, 1), (84, .iconst 3, 1), (85, .iload_n 3, 1), (86, .imul, 1)]
theorem kdX6_isImage_58 : dkO cX6_isImage 58 ldX6_isImage_58 = true := by decide +kernel
theorem dX6_isImage_58 : decode cX6_isImage 58 = .ok (.aload_n 0, 1) := dk_i kdX6_isImage_58 0 rfl
theorem dX6_isImage_59 : decode cX6_isImage 59 = .ok (.getfield 34, 3) := dk_i kdX6_isImage_58 1 rfl
theorem dX6_isImage_62 : decode cX6_isImage 62 = .ok (.iload 4, 2) := dk_i kdX6_isImage_58 2 rfl
theorem dX6_isImage_64 : decode cX6_isImage 64 = .ok (.invokevirtual 116, 3) := dk_i kdX6_isImage_58 3 rfl
theorem dX6_isImage_67 : decode cX6_isImage 67 = .ok (.ifCond .eq 7, 3) := dk_i kdX6_isImage_58 4 rfl
theorem dX6_isImage_70 : decode cX6_isImage 70 = .ok (.iconst 1, 1) := dk_i kdX6_isImage_58 5 rfl
theorem dX6_isImage_71 : decode cX6_isImage 71 = .ok (.goto 4, 3) := dk_i kdX6_isImage_58 6 rfl
theorem dX6_isImage_74 : decode cX6_isImage 74 = .ok (.iconst 0, 1) := dk_i kdX6_isImage_58 7 rfl
theorem dX6_isImage_75 : decode cX6_isImage 75 = .ok (.istore 5, 2) := dk_i kdX6_isImage_58 8 rfl
theorem dX6_isImage_77 : decode cX6_isImage 77 = .ok (.iload 5, 2) := dk_i kdX6_isImage_58 9 rfl
theorem dX6_isImage_79 : decode cX6_isImage 79 = .ok (.ifCond .eq 18, 3) := dk_i kdX6_isImage_58 10 rfl
theorem dX6_isImage_82 : decode cX6_isImage 82 = .ok (.aload_n 1, 1) := dk_i kdX6_isImage_58 11 rfl
theorem dX6_isImage_83 : decode cX6_isImage 83 = .ok (.iconst 3, 1) := dk_i kdX6_isImage_58 12 rfl
theorem dX6_isImage_84 : decode cX6_isImage 84 = .ok (.iconst 3, 1) := dk_i kdX6_isImage_58 13 rfl
theorem dX6_isImage_85 : decode cX6_isImage 85 = .ok (.iload_n 3, 1) := dk_i kdX6_isImage_58 14 rfl
theorem dX6_isImage_86 : decode cX6_isImage 86 = .ok (.imul, 1) := dk_i kdX6_isImage_58 15 rfl
def ldX6_isImage_87 : List (Nat × ClassFile.Instr × Nat) := [(87, .iadd, 1), (88, .invokevirtual 109, 3), (91, .sipush 999, 3), (94, .if_icmp .le 5, 3), (97, .iconst 0, 1), (98, .ireturn, 1), (99, .iinc 3 1, 3), (102, .goto (-74), 3), (105, .iconst 0, 1), (106, .istore_n 3, 1), (107, .iload_n 3, 1), (108, .aload_n 0, 1), (109, .getfield 34, 3), (112, .getfield 50, 3), (115, .if_icmp .ge 32, 3), (118, .aload_n 1, 1)]
theorem kdX6_isImage_87 : dkO cX6_isImage 87 ldX6_isImage_87 = true := by decide +kernel
theorem dX6_isImage_87 : decode cX6_isImage 87 = .ok (.iadd, 1) := dk_i kdX6_isImage_87 0 rfl
theorem dX6_isImage_88 : decode cX6_isImage 88 = .ok (.invokevirtual 109, 3) := dk_i kdX6_isImage_87 1 rfl
theorem dX6_isImage_91 : decode cX6_isImage 91 = .ok (.sipush 999, 3) := dk_i kdX6_isImage_87 2 rfl
theorem dX6_isImage_94 : decode cX6_isImage 94 = .ok (.if_icmp .le 5, 3) := dk_i kdX6_isImage_87 3 rfl
theorem dX6_isImage_97 : decode cX6_isImage 97 = .ok (.iconst 0, 1) := dk_i kdX6_isImage_87 4 rfl
theorem dX6_isImage_98 : decode cX6_isImage 98 = .ok (.ireturn, 1) := dk_i kdX6_isImage_87 5 rfl
theorem dX6_isImage_99 : decode cX6_isImage 99 = .ok (.iinc 3 1, 3) := dk_i kdX6_isImage_87 6 rfl
theorem dX6_isImage_102 : decode cX6_isImage 102 = .ok (.goto (-74), 3) := dk_i kdX6_isImage_87 7 rfl
theorem dX6_isImage_105 : decode cX6_isImage 105 = .ok (.iconst 0, 1) := dk_i kdX6_isImage_87 8 rfl
theorem dX6_isImage_106 : decode cX6_isImage 106 = .ok (.istore_n 3, 1) := dk_i kdX6_isImage_87 9 rfl
theorem dX6_isImage_107 : decode cX6_isImage 107 = .ok (.iload_n 3, 1) := dk_i kdX6_isImage_87 10 rfl
theorem dX6_isImage_108 : decode cX6_isImage 108 = .ok (.aload_n 0, 1) := dk_i kdX6_isImage_87 11 rfl
theorem dX6_isImage_109 : decode cX6_isImage 109 = .ok (.getfield 34, 3) := dk_i kdX6_isImage_87 12 rfl
theorem dX6_isImage_112 : decode cX6_isImage 112 = .ok (.getfield 50, 3) := dk_i kdX6_isImage_87 13 rfl
theorem dX6_isImage_115 : decode cX6_isImage 115 = .ok (.if_icmp .ge 32, 3) := dk_i kdX6_isImage_87 14 rfl
theorem dX6_isImage_118 : decode cX6_isImage 118 = .ok (.aload_n 1, 1) := dk_i kdX6_isImage_87 15 rfl
def ldX6_isImage_119 : List (Nat × ClassFile.Instr × Nat) := [(119, .iconst 2, 1), (120, .iconst 3, 1), (121, .aload_n 0, 1), (122, .getfield 34, 3), (125, .getfield 38, 3), (128, .imul, 1), (129, .iadd, 1), (130, .iload_n 3, 1), (131, .iadd, 1), (132, .invokevirtual 113, 3), (135, .iconst 1, 1), (136, .if_icmp .le 5, 3), (139, .iconst 0, 1), (140, .ireturn, 1), (141, .iinc 3 1, 3), (144, .goto (-37), 3)]
theorem kdX6_isImage_119 : dkO cX6_isImage 119 ldX6_isImage_119 = true := by decide +kernel
theorem dX6_isImage_119 : decode cX6_isImage 119 = .ok (.iconst 2, 1) := dk_i kdX6_isImage_119 0 rfl
theorem dX6_isImage_120 : decode cX6_isImage 120 = .ok (.iconst 3, 1) := dk_i kdX6_isImage_119 1 rfl
theorem dX6_isImage_121 : decode cX6_isImage 121 = .ok (.aload_n 0, 1) := dk_i kdX6_isImage_119 2 rfl
theorem dX6_isImage_122 : decode cX6_isImage 122 = .ok (.getfield 34, 3) := dk_i kdX6_isImage_119 3 rfl
theorem dX6_isImage_125 : decode cX6_isImage 125 = .ok (.getfield 38, 3) := dk_i kdX6_isImage_119 4 rfl
theorem dX6_isImage_128 : decode cX6_isImage 128 = .ok (.imul, 1) := dk_i kdX6_isImage_119 5 rfl
theorem dX6_isImage_129 : decode cX6_isImage 129 = .ok (.iadd, 1) := dk_i kdX6_isImage_119 6 rfl
theorem dX6_isImage_130 : decode cX6_isImage 130 = .ok (.iload_n 3, 1) := dk_i kdX6_isImage_119 7 rfl
theorem dX6_isImage_131 : decode cX6_isImage 131 = .ok (.iadd, 1) := dk_i kdX6_isImage_119 8 rfl
theorem dX6_isImage_132 : decode cX6_isImage 132 = .ok (.invokevirtual 113, 3) := dk_i kdX6_isImage_119 9 rfl
theorem dX6_isImage_135 : decode cX6_isImage 135 = .ok (.iconst 1, 1) := dk_i kdX6_isImage_119 10 rfl
theorem dX6_isImage_136 : decode cX6_isImage 136 = .ok (.if_icmp .le 5, 3) := dk_i kdX6_isImage_119 11 rfl
theorem dX6_isImage_139 : decode cX6_isImage 139 = .ok (.iconst 0, 1) := dk_i kdX6_isImage_119 12 rfl
theorem dX6_isImage_140 : decode cX6_isImage 140 = .ok (.ireturn, 1) := dk_i kdX6_isImage_119 13 rfl
theorem dX6_isImage_141 : decode cX6_isImage 141 = .ok (.iinc 3 1, 3) := dk_i kdX6_isImage_119 14 rfl
theorem dX6_isImage_144 : decode cX6_isImage 144 = .ok (.goto (-37), 3) := dk_i kdX6_isImage_119 15 rfl
def ldX6_isImage_147 : List (Nat × ClassFile.Instr × Nat) := [(147, .aload_n 1, 1), (148, .iload_n 2, 1), (149, .iconst 1, 1), (150, .isub, 1), (151, .invokevirtual 113, 3), (154, .aload_n 1, 1), (155, .getfield 120, 3), (158, .iload_n 2, 1), (159, .iconst 1, 1), (160, .isub, 1), (161, .invokestatic 100, 3), (164, .if_icmp .ne 7, 3), (167, .iconst 1, 1), (168, .goto 4, 3), (171, .iconst 0, 1), (172, .ireturn, 1)]
theorem kdX6_isImage_147 : dkO cX6_isImage 147 ldX6_isImage_147 = true := by decide +kernel
theorem dX6_isImage_147 : decode cX6_isImage 147 = .ok (.aload_n 1, 1) := dk_i kdX6_isImage_147 0 rfl
theorem dX6_isImage_148 : decode cX6_isImage 148 = .ok (.iload_n 2, 1) := dk_i kdX6_isImage_147 1 rfl
theorem dX6_isImage_149 : decode cX6_isImage 149 = .ok (.iconst 1, 1) := dk_i kdX6_isImage_147 2 rfl
theorem dX6_isImage_150 : decode cX6_isImage 150 = .ok (.isub, 1) := dk_i kdX6_isImage_147 3 rfl
theorem dX6_isImage_151 : decode cX6_isImage 151 = .ok (.invokevirtual 113, 3) := dk_i kdX6_isImage_147 4 rfl
theorem dX6_isImage_154 : decode cX6_isImage 154 = .ok (.aload_n 1, 1) := dk_i kdX6_isImage_147 5 rfl
theorem dX6_isImage_155 : decode cX6_isImage 155 = .ok (.getfield 120, 3) := dk_i kdX6_isImage_147 6 rfl
theorem dX6_isImage_158 : decode cX6_isImage 158 = .ok (.iload_n 2, 1) := dk_i kdX6_isImage_147 7 rfl
theorem dX6_isImage_159 : decode cX6_isImage 159 = .ok (.iconst 1, 1) := dk_i kdX6_isImage_147 8 rfl
theorem dX6_isImage_160 : decode cX6_isImage 160 = .ok (.isub, 1) := dk_i kdX6_isImage_147 9 rfl
theorem dX6_isImage_161 : decode cX6_isImage 161 = .ok (.invokestatic 100, 3) := dk_i kdX6_isImage_147 10 rfl
theorem dX6_isImage_164 : decode cX6_isImage 164 = .ok (.if_icmp .ne 7, 3) := dk_i kdX6_isImage_147 11 rfl
theorem dX6_isImage_167 : decode cX6_isImage 167 = .ok (.iconst 1, 1) := dk_i kdX6_isImage_147 12 rfl
theorem dX6_isImage_168 : decode cX6_isImage 168 = .ok (.goto 4, 3) := dk_i kdX6_isImage_147 13 rfl
theorem dX6_isImage_171 : decode cX6_isImage 171 = .ok (.iconst 0, 1) := dk_i kdX6_isImage_147 14 rfl
theorem dX6_isImage_172 : decode cX6_isImage 172 = .ok (.ireturn, 1) := dk_i kdX6_isImage_147 15 rfl
def ldX6_readImage_0 : List (Nat × ClassFile.Instr × Nat) := [(0, .aload_n 0, 1), (1, .aload_n 1, 1), (2, .iconst 0, 1), (3, .invokevirtual 109, 3), (6, .putfield 9, 3), (9, .aload_n 0, 1), (10, .iconst 0, 1), (11, .putfield 25, 3), (14, .iconst 0, 1), (15, .istore_n 2, 1), (16, .iload_n 2, 1), (17, .aload_n 0, 1), (18, .getfield 34, 3), (21, .getfield 38, 3), (24, .if_icmp .ge 52, 3), (27, .aload_n 1, 1)]
theorem kdX6_readImage_0 : dkO cX6_readImage 0 ldX6_readImage_0 = true := by decide +kernel
theorem dX6_readImage_0 : decode cX6_readImage 0 = .ok (.aload_n 0, 1) := dk_i kdX6_readImage_0 0 rfl
theorem dX6_readImage_1 : decode cX6_readImage 1 = .ok (.aload_n 1, 1) := dk_i kdX6_readImage_0 1 rfl
theorem dX6_readImage_2 : decode cX6_readImage 2 = .ok (.iconst 0, 1) := dk_i kdX6_readImage_0 2 rfl
theorem dX6_readImage_3 : decode cX6_readImage 3 = .ok (.invokevirtual 109, 3) := dk_i kdX6_readImage_0 3 rfl
theorem dX6_readImage_6 : decode cX6_readImage 6 = .ok (.putfield 9, 3) := dk_i kdX6_readImage_0 4 rfl
theorem dX6_readImage_9 : decode cX6_readImage 9 = .ok (.aload_n 0, 1) := dk_i kdX6_readImage_0 5 rfl
theorem dX6_readImage_10 : decode cX6_readImage 10 = .ok (.iconst 0, 1) := dk_i kdX6_readImage_0 6 rfl
theorem dX6_readImage_11 : decode cX6_readImage 11 = .ok (.putfield 25, 3) := dk_i kdX6_readImage_0 7 rfl
theorem dX6_readImage_14 : decode cX6_readImage 14 = .ok (.iconst 0, 1) := dk_i kdX6_readImage_0 8 rfl
theorem dX6_readImage_15 : decode cX6_readImage 15 = .ok (.istore_n 2, 1) := dk_i kdX6_readImage_0 9 rfl
theorem dX6_readImage_16 : decode cX6_readImage 16 = .ok (.iload_n 2, 1) := dk_i kdX6_readImage_0 10 rfl
theorem dX6_readImage_17 : decode cX6_readImage 17 = .ok (.aload_n 0, 1) := dk_i kdX6_readImage_0 11 rfl
theorem dX6_readImage_18 : decode cX6_readImage 18 = .ok (.getfield 34, 3) := dk_i kdX6_readImage_0 12 rfl
theorem dX6_readImage_21 : decode cX6_readImage 21 = .ok (.getfield 38, 3) := dk_i kdX6_readImage_0 13 rfl
theorem dX6_readImage_24 : decode cX6_readImage 24 = .ok (.if_icmp .ge 52, 3) := dk_i kdX6_readImage_0 14 rfl
theorem dX6_readImage_27 : decode cX6_readImage 27 = .ok (.aload_n 1, 1) := dk_i kdX6_readImage_0 15 rfl
def ldX6_readImage_28 : List (Nat × ClassFile.Instr × Nat) := [(28, .iconst 2, 1), (29, .iconst 3, 1), (30, .iload_n 2, 1), (31, .imul, 1), (32, .iadd, 1), (33, .invokevirtual 113, 3), (36, .istore_n 3, 1), (37, .aload_n 0, 1), (38, .getfield 15, 3), (41, .iload_n 2, 1), (42, .iload_n 3, 1), (43, .sipush 255, 3), (46, .if_icmp .ne 7, 3), (49, .iconst (-1), 1), (50, .goto 4, 3), (53, .iload_n 3, 1)]
theorem kdX6_readImage_28 : dkO cX6_readImage 28 ldX6_readImage_28 = true := by decide +kernel
theorem dX6_readImage_28 : decode cX6_readImage 28 = .ok (.iconst 2, 1) := dk_i kdX6_readImage_28 0 rfl
theorem dX6_readImage_29 : decode cX6_readImage 29 = .ok (.iconst 3, 1) := dk_i kdX6_readImage_28 1 rfl
theorem dX6_readImage_30 : decode cX6_readImage 30 = .ok (.iload_n 2, 1) := dk_i kdX6_readImage_28 2 rfl
theorem dX6_readImage_31 : decode cX6_readImage 31 = .ok (.imul, 1) := dk_i kdX6_readImage_28 3 rfl
theorem dX6_readImage_32 : decode cX6_readImage 32 = .ok (.iadd, 1) := dk_i kdX6_readImage_28 4 rfl
theorem dX6_readImage_33 : decode cX6_readImage 33 = .ok (.invokevirtual 113, 3) := dk_i kdX6_readImage_28 5 rfl
theorem dX6_readImage_36 : decode cX6_readImage 36 = .ok (.istore_n 3, 1) := dk_i kdX6_readImage_28 6 rfl
theorem dX6_readImage_37 : decode cX6_readImage 37 = .ok (.aload_n 0, 1) := dk_i kdX6_readImage_28 7 rfl
theorem dX6_readImage_38 : decode cX6_readImage 38 = .ok (.getfield 15, 3) := dk_i kdX6_readImage_28 8 rfl
theorem dX6_readImage_41 : decode cX6_readImage 41 = .ok (.iload_n 2, 1) := dk_i kdX6_readImage_28 9 rfl
theorem dX6_readImage_42 : decode cX6_readImage 42 = .ok (.iload_n 3, 1) := dk_i kdX6_readImage_28 10 rfl
theorem dX6_readImage_43 : decode cX6_readImage 43 = .ok (.sipush 255, 3) := dk_i kdX6_readImage_28 11 rfl
theorem dX6_readImage_46 : decode cX6_readImage 46 = .ok (.if_icmp .ne 7, 3) := dk_i kdX6_readImage_28 12 rfl
theorem dX6_readImage_49 : decode cX6_readImage 49 = .ok (.iconst (-1), 1) := dk_i kdX6_readImage_28 13 rfl
theorem dX6_readImage_50 : decode cX6_readImage 50 = .ok (.goto 4, 3) := dk_i kdX6_readImage_28 14 rfl
theorem dX6_readImage_53 : decode cX6_readImage 53 = .ok (.iload_n 3, 1) := dk_i kdX6_readImage_28 15 rfl
def ldX6_readImage_54 : List (Nat × ClassFile.Instr × Nat) := [(54, .iastore, 1), (55, .aload_n 0, 1), (56, .getfield 19, 3), (59, .iload_n 2, 1), (60, .aload_n 1, 1), (61, .iconst 3, 1), (62, .iconst 3, 1), (63, .iload_n 2, 1), (64, .imul, 1), (65, .iadd, 1), (66, .invokevirtual 109, 3), (69, .iastore, 1), (70, .iinc 2 1, 3), (73, .goto (-57), 3), (76, .iconst 0, 1), (77, .istore_n 2, 1)]
theorem kdX6_readImage_54 : dkO cX6_readImage 54 ldX6_readImage_54 = true := by decide +kernel
theorem dX6_readImage_54 : decode cX6_readImage 54 = .ok (.iastore, 1) := dk_i kdX6_readImage_54 0 rfl
theorem dX6_readImage_55 : decode cX6_readImage 55 = .ok (.aload_n 0, 1) := dk_i kdX6_readImage_54 1 rfl
theorem dX6_readImage_56 : decode cX6_readImage 56 = .ok (.getfield 19, 3) := dk_i kdX6_readImage_54 2 rfl
theorem dX6_readImage_59 : decode cX6_readImage 59 = .ok (.iload_n 2, 1) := dk_i kdX6_readImage_54 3 rfl
theorem dX6_readImage_60 : decode cX6_readImage 60 = .ok (.aload_n 1, 1) := dk_i kdX6_readImage_54 4 rfl
theorem dX6_readImage_61 : decode cX6_readImage 61 = .ok (.iconst 3, 1) := dk_i kdX6_readImage_54 5 rfl
theorem dX6_readImage_62 : decode cX6_readImage 62 = .ok (.iconst 3, 1) := dk_i kdX6_readImage_54 6 rfl
theorem dX6_readImage_63 : decode cX6_readImage 63 = .ok (.iload_n 2, 1) := dk_i kdX6_readImage_54 7 rfl
theorem dX6_readImage_64 : decode cX6_readImage 64 = .ok (.imul, 1) := dk_i kdX6_readImage_54 8 rfl
theorem dX6_readImage_65 : decode cX6_readImage 65 = .ok (.iadd, 1) := dk_i kdX6_readImage_54 9 rfl
theorem dX6_readImage_66 : decode cX6_readImage 66 = .ok (.invokevirtual 109, 3) := dk_i kdX6_readImage_54 10 rfl
theorem dX6_readImage_69 : decode cX6_readImage 69 = .ok (.iastore, 1) := dk_i kdX6_readImage_54 11 rfl
theorem dX6_readImage_70 : decode cX6_readImage 70 = .ok (.iinc 2 1, 3) := dk_i kdX6_readImage_54 12 rfl
theorem dX6_readImage_73 : decode cX6_readImage 73 = .ok (.goto (-57), 3) := dk_i kdX6_readImage_54 13 rfl
theorem dX6_readImage_76 : decode cX6_readImage 76 = .ok (.iconst 0, 1) := dk_i kdX6_readImage_54 14 rfl
theorem dX6_readImage_77 : decode cX6_readImage 77 = .ok (.istore_n 2, 1) := dk_i kdX6_readImage_54 15 rfl
def ldX6_readImage_78 : List (Nat × ClassFile.Instr × Nat) := [(78, .iload_n 2, 1), (79, .aload_n 0, 1), (80, .getfield 34, 3), (83, .getfield 50, 3), (86, .if_icmp .ge 32, 3), (89, .aload_n 0, 1), (90, .getfield 22, 3), (93, .iload_n 2, 1), (94, .aload_n 1, 1), (95, .iconst 2, 1), (96, .iconst 3, 1), (97, .aload_n 0, 1), (98, .getfield 34, 3), (101, .getfield 38, 3), (104, .imul, 1), (105, .iadd, 1)]
theorem kdX6_readImage_78 : dkO cX6_readImage 78 ldX6_readImage_78 = true := by decide +kernel
theorem dX6_readImage_78 : decode cX6_readImage 78 = .ok (.iload_n 2, 1) := dk_i kdX6_readImage_78 0 rfl
theorem dX6_readImage_79 : decode cX6_readImage 79 = .ok (.aload_n 0, 1) := dk_i kdX6_readImage_78 1 rfl
theorem dX6_readImage_80 : decode cX6_readImage 80 = .ok (.getfield 34, 3) := dk_i kdX6_readImage_78 2 rfl
theorem dX6_readImage_83 : decode cX6_readImage 83 = .ok (.getfield 50, 3) := dk_i kdX6_readImage_78 3 rfl
theorem dX6_readImage_86 : decode cX6_readImage 86 = .ok (.if_icmp .ge 32, 3) := dk_i kdX6_readImage_78 4 rfl
theorem dX6_readImage_89 : decode cX6_readImage 89 = .ok (.aload_n 0, 1) := dk_i kdX6_readImage_78 5 rfl
theorem dX6_readImage_90 : decode cX6_readImage 90 = .ok (.getfield 22, 3) := dk_i kdX6_readImage_78 6 rfl
theorem dX6_readImage_93 : decode cX6_readImage 93 = .ok (.iload_n 2, 1) := dk_i kdX6_readImage_78 7 rfl
theorem dX6_readImage_94 : decode cX6_readImage 94 = .ok (.aload_n 1, 1) := dk_i kdX6_readImage_78 8 rfl
theorem dX6_readImage_95 : decode cX6_readImage 95 = .ok (.iconst 2, 1) := dk_i kdX6_readImage_78 9 rfl
theorem dX6_readImage_96 : decode cX6_readImage 96 = .ok (.iconst 3, 1) := dk_i kdX6_readImage_78 10 rfl
theorem dX6_readImage_97 : decode cX6_readImage 97 = .ok (.aload_n 0, 1) := dk_i kdX6_readImage_78 11 rfl
theorem dX6_readImage_98 : decode cX6_readImage 98 = .ok (.getfield 34, 3) := dk_i kdX6_readImage_78 12 rfl
theorem dX6_readImage_101 : decode cX6_readImage 101 = .ok (.getfield 38, 3) := dk_i kdX6_readImage_78 13 rfl
theorem dX6_readImage_104 : decode cX6_readImage 104 = .ok (.imul, 1) := dk_i kdX6_readImage_78 14 rfl
theorem dX6_readImage_105 : decode cX6_readImage 105 = .ok (.iadd, 1) := dk_i kdX6_readImage_78 15 rfl
def ldX6_readImage_106 : List (Nat × ClassFile.Instr × Nat) := [(106, .iload_n 2, 1), (107, .iadd, 1), (108, .invokevirtual 113, 3), (111, .iastore, 1), (112, .iinc 2 1, 3), (115, .goto (-37), 3), (118, .return_, 1)]
theorem kdX6_readImage_106 : dkO cX6_readImage 106 ldX6_readImage_106 = true := by decide +kernel
theorem dX6_readImage_106 : decode cX6_readImage 106 = .ok (.iload_n 2, 1) := dk_i kdX6_readImage_106 0 rfl
theorem dX6_readImage_107 : decode cX6_readImage 107 = .ok (.iadd, 1) := dk_i kdX6_readImage_106 1 rfl
theorem dX6_readImage_108 : decode cX6_readImage 108 = .ok (.invokevirtual 113, 3) := dk_i kdX6_readImage_106 2 rfl
theorem dX6_readImage_111 : decode cX6_readImage 111 = .ok (.iastore, 1) := dk_i kdX6_readImage_106 3 rfl
theorem dX6_readImage_112 : decode cX6_readImage 112 = .ok (.iinc 2 1, 3) := dk_i kdX6_readImage_106 4 rfl
theorem dX6_readImage_115 : decode cX6_readImage 115 = .ok (.goto (-37), 3) := dk_i kdX6_readImage_106 5 rfl
theorem dX6_readImage_118 : decode cX6_readImage 118 = .ok (.return_, 1) := dk_i kdX6_readImage_106 6 rfl
end
section
def ldX7_init_0 : List (Nat × ClassFile.Instr × Nat) := [(0, .aload_n 0, 1), (1, .invokespecial 3, 3), (4, .aload_n 0, 1), (5, .sipush 1600, 3), (8, .newarray .int, 2), (10, .putfield 9, 3), (13, .aload_n 0, 1), (14, .iconst 0, 1), (15, .putfield 15, 3), (18, .return_, 1)]
theorem kdX7_init_0 : dkO cX7_init 0 ldX7_init_0 = true := by decide +kernel
theorem dX7_init_0 : decode cX7_init 0 = .ok (.aload_n 0, 1) := dk_i kdX7_init_0 0 rfl
theorem dX7_init_1 : decode cX7_init 1 = .ok (.invokespecial 3, 3) := dk_i kdX7_init_0 1 rfl
theorem dX7_init_4 : decode cX7_init 4 = .ok (.aload_n 0, 1) := dk_i kdX7_init_0 2 rfl
theorem dX7_init_5 : decode cX7_init 5 = .ok (.sipush 1600, 3) := dk_i kdX7_init_0 3 rfl
theorem dX7_init_8 : decode cX7_init 8 = .ok (.newarray .int, 2) := dk_i kdX7_init_0 4 rfl
theorem dX7_init_10 : decode cX7_init 10 = .ok (.putfield 9, 3) := dk_i kdX7_init_0 5 rfl
theorem dX7_init_13 : decode cX7_init 13 = .ok (.aload_n 0, 1) := dk_i kdX7_init_0 6 rfl
theorem dX7_init_14 : decode cX7_init 14 = .ok (.iconst 0, 1) := dk_i kdX7_init_0 7 rfl
theorem dX7_init_15 : decode cX7_init 15 = .ok (.putfield 15, 3) := dk_i kdX7_init_0 8 rfl
theorem dX7_init_18 : decode cX7_init 18 = .ok (.return_, 1) := dk_i kdX7_init_0 9 rfl
def ldX7_hasRoomFor_0 : List (Nat × ClassFile.Instr × Nat) := [(0, .aload_n 0, 1), (1, .getfield 15, 3), (4, .iload_n 1, 1), (5, .iadd, 1), (6, .sipush 1600, 3), (9, .if_icmp .gt 7, 3), (12, .iconst 1, 1), (13, .goto 4, 3), (16, .iconst 0, 1), (17, .ireturn, 1)]
theorem kdX7_hasRoomFor_0 : dkO cX7_hasRoomFor 0 ldX7_hasRoomFor_0 = true := by decide +kernel
theorem dX7_hasRoomFor_0 : decode cX7_hasRoomFor 0 = .ok (.aload_n 0, 1) := dk_i kdX7_hasRoomFor_0 0 rfl
theorem dX7_hasRoomFor_1 : decode cX7_hasRoomFor 1 = .ok (.getfield 15, 3) := dk_i kdX7_hasRoomFor_0 1 rfl
theorem dX7_hasRoomFor_4 : decode cX7_hasRoomFor 4 = .ok (.iload_n 1, 1) := dk_i kdX7_hasRoomFor_0 2 rfl
theorem dX7_hasRoomFor_5 : decode cX7_hasRoomFor 5 = .ok (.iadd, 1) := dk_i kdX7_hasRoomFor_0 3 rfl
theorem dX7_hasRoomFor_6 : decode cX7_hasRoomFor 6 = .ok (.sipush 1600, 3) := dk_i kdX7_hasRoomFor_0 4 rfl
theorem dX7_hasRoomFor_9 : decode cX7_hasRoomFor 9 = .ok (.if_icmp .gt 7, 3) := dk_i kdX7_hasRoomFor_0 5 rfl
theorem dX7_hasRoomFor_12 : decode cX7_hasRoomFor 12 = .ok (.iconst 1, 1) := dk_i kdX7_hasRoomFor_0 6 rfl
theorem dX7_hasRoomFor_13 : decode cX7_hasRoomFor 13 = .ok (.goto 4, 3) := dk_i kdX7_hasRoomFor_0 7 rfl
theorem dX7_hasRoomFor_16 : decode cX7_hasRoomFor 16 = .ok (.iconst 0, 1) := dk_i kdX7_hasRoomFor_0 8 rfl
theorem dX7_hasRoomFor_17 : decode cX7_hasRoomFor 17 = .ok (.ireturn, 1) := dk_i kdX7_hasRoomFor_0 9 rfl
def ldX7_addNumber_0 : List (Nat × ClassFile.Instr × Nat) := [(0, .bipush 24, 2), (2, .istore_n 2, 1), (3, .iload_n 2, 1), (4, .ifCond .lt 45, 3), (7, .aload_n 0, 1), (8, .getfield 15, 3), (11, .sipush 1600, 3), (14, .if_icmp .ge 29, 3), (17, .aload_n 0, 1), (18, .getfield 9, 3), (21, .aload_n 0, 1), (22, .getfield 15, 3), (25, .iload_n 1, 1), (26, .iload_n 2, 1), (27, .ishr, 1), (28, .sipush 255, 3)]
theorem kdX7_addNumber_0 : dkO cX7_addNumber 0 ldX7_addNumber_0 = true := by decide +kernel
theorem dX7_addNumber_0 : decode cX7_addNumber 0 = .ok (.bipush 24, 2) := dk_i kdX7_addNumber_0 0 rfl
theorem dX7_addNumber_2 : decode cX7_addNumber 2 = .ok (.istore_n 2, 1) := dk_i kdX7_addNumber_0 1 rfl
theorem dX7_addNumber_3 : decode cX7_addNumber 3 = .ok (.iload_n 2, 1) := dk_i kdX7_addNumber_0 2 rfl
theorem dX7_addNumber_4 : decode cX7_addNumber 4 = .ok (.ifCond .lt 45, 3) := dk_i kdX7_addNumber_0 3 rfl
theorem dX7_addNumber_7 : decode cX7_addNumber 7 = .ok (.aload_n 0, 1) := dk_i kdX7_addNumber_0 4 rfl
theorem dX7_addNumber_8 : decode cX7_addNumber 8 = .ok (.getfield 15, 3) := dk_i kdX7_addNumber_0 5 rfl
theorem dX7_addNumber_11 : decode cX7_addNumber 11 = .ok (.sipush 1600, 3) := dk_i kdX7_addNumber_0 6 rfl
theorem dX7_addNumber_14 : decode cX7_addNumber 14 = .ok (.if_icmp .ge 29, 3) := dk_i kdX7_addNumber_0 7 rfl
theorem dX7_addNumber_17 : decode cX7_addNumber 17 = .ok (.aload_n 0, 1) := dk_i kdX7_addNumber_0 8 rfl
theorem dX7_addNumber_18 : decode cX7_addNumber 18 = .ok (.getfield 9, 3) := dk_i kdX7_addNumber_0 9 rfl
theorem dX7_addNumber_21 : decode cX7_addNumber 21 = .ok (.aload_n 0, 1) := dk_i kdX7_addNumber_0 10 rfl
theorem dX7_addNumber_22 : decode cX7_addNumber 22 = .ok (.getfield 15, 3) := dk_i kdX7_addNumber_0 11 rfl
theorem dX7_addNumber_25 : decode cX7_addNumber 25 = .ok (.iload_n 1, 1) := dk_i kdX7_addNumber_0 12 rfl
theorem dX7_addNumber_26 : decode cX7_addNumber 26 = .ok (.iload_n 2, 1) := dk_i kdX7_addNumber_0 13 rfl
theorem dX7_addNumber_27 : decode cX7_addNumber 27 = .ok (.ishr, 1) := dk_i kdX7_addNumber_0 14 rfl
theorem dX7_addNumber_28 : decode cX7_addNumber 28 = .ok (.sipush 255, 3) := dk_i kdX7_addNumber_0 15 rfl
def ldX7_addNumber_31 : List (Nat × ClassFile.Instr × Nat) := [(31, .iand, 1), (32, .iastore, 1), (33, .aload_n 0, 1), (34, .dup, 1), (35, .getfield 15, 3), (38, .iconst 1, 1), (39, .iadd, 1), (40, .putfield 15, 3), (43, .iinc 2 (-8), 3), (46, .goto (-43), 3), (49, .return_, 1)]
theorem kdX7_addNumber_31 : dkO cX7_addNumber 31 ldX7_addNumber_31 = true := by decide +kernel
theorem dX7_addNumber_31 : decode cX7_addNumber 31 = .ok (.iand, 1) := dk_i kdX7_addNumber_31 0 rfl
theorem dX7_addNumber_32 : decode cX7_addNumber 32 = .ok (.iastore, 1) := dk_i kdX7_addNumber_31 1 rfl
theorem dX7_addNumber_33 : decode cX7_addNumber 33 = .ok (.aload_n 0, 1) := dk_i kdX7_addNumber_31 2 rfl
theorem dX7_addNumber_34 : decode cX7_addNumber 34 = .ok (.dup, 1) := dk_i kdX7_addNumber_31 3 rfl
theorem dX7_addNumber_35 : decode cX7_addNumber 35 = .ok (.getfield 15, 3) := dk_i kdX7_addNumber_31 4 rfl
theorem dX7_addNumber_38 : decode cX7_addNumber 38 = .ok (.iconst 1, 1) := dk_i kdX7_addNumber_31 5 rfl
theorem dX7_addNumber_39 : decode cX7_addNumber 39 = .ok (.iadd, 1) := dk_i kdX7_addNumber_31 6 rfl
theorem dX7_addNumber_40 : decode cX7_addNumber 40 = .ok (.putfield 15, 3) := dk_i kdX7_addNumber_31 7 rfl
theorem dX7_addNumber_43 : decode cX7_addNumber 43 = .ok (.iinc 2 (-8), 3) := dk_i kdX7_addNumber_31 8 rfl
theorem dX7_addNumber_46 : decode cX7_addNumber 46 = .ok (.goto (-43), 3) := dk_i kdX7_addNumber_31 9 rfl
theorem dX7_addNumber_49 : decode cX7_addNumber 49 = .ok (.return_, 1) := dk_i kdX7_addNumber_31 10 rfl
def ldX7_at_0 : List (Nat × ClassFile.Instr × Nat) := [(0, .iload_n 1, 1), (1, .ifCond .lt 20, 3), (4, .iload_n 1, 1), (5, .aload_n 0, 1), (6, .getfield 15, 3), (9, .if_icmp .ge 12, 3), (12, .aload_n 0, 1), (13, .getfield 9, 3), (16, .iload_n 1, 1), (17, .iaload, 1), (18, .goto 4, 3), (21, .iconst (-1), 1), (22, .ireturn, 1)]
theorem kdX7_at_0 : dkO cX7_at 0 ldX7_at_0 = true := by decide +kernel
theorem dX7_at_0 : decode cX7_at 0 = .ok (.iload_n 1, 1) := dk_i kdX7_at_0 0 rfl
theorem dX7_at_1 : decode cX7_at 1 = .ok (.ifCond .lt 20, 3) := dk_i kdX7_at_0 1 rfl
theorem dX7_at_4 : decode cX7_at 4 = .ok (.iload_n 1, 1) := dk_i kdX7_at_0 2 rfl
theorem dX7_at_5 : decode cX7_at 5 = .ok (.aload_n 0, 1) := dk_i kdX7_at_0 3 rfl
theorem dX7_at_6 : decode cX7_at 6 = .ok (.getfield 15, 3) := dk_i kdX7_at_0 4 rfl
theorem dX7_at_9 : decode cX7_at 9 = .ok (.if_icmp .ge 12, 3) := dk_i kdX7_at_0 5 rfl
theorem dX7_at_12 : decode cX7_at 12 = .ok (.aload_n 0, 1) := dk_i kdX7_at_0 6 rfl
theorem dX7_at_13 : decode cX7_at 13 = .ok (.getfield 9, 3) := dk_i kdX7_at_0 7 rfl
theorem dX7_at_16 : decode cX7_at 16 = .ok (.iload_n 1, 1) := dk_i kdX7_at_0 8 rfl
theorem dX7_at_17 : decode cX7_at 17 = .ok (.iaload, 1) := dk_i kdX7_at_0 9 rfl
theorem dX7_at_18 : decode cX7_at 18 = .ok (.goto 4, 3) := dk_i kdX7_at_0 10 rfl
theorem dX7_at_21 : decode cX7_at 21 = .ok (.iconst (-1), 1) := dk_i kdX7_at_0 11 rfl
theorem dX7_at_22 : decode cX7_at 22 = .ok (.ireturn, 1) := dk_i kdX7_at_0 12 rfl
def ldX7_pairAt_0 : List (Nat × ClassFile.Instr × Nat) := [(0, .sipush 256, 3), (3, .aload_n 0, 1), (4, .iload_n 1, 1), (5, .invokevirtual 19, 3), (8, .imul, 1), (9, .aload_n 0, 1), (10, .iload_n 1, 1), (11, .iconst 1, 1), (12, .iadd, 1), (13, .invokevirtual 19, 3), (16, .iadd, 1), (17, .ireturn, 1)]
theorem kdX7_pairAt_0 : dkO cX7_pairAt 0 ldX7_pairAt_0 = true := by decide +kernel
theorem dX7_pairAt_0 : decode cX7_pairAt 0 = .ok (.sipush 256, 3) := dk_i kdX7_pairAt_0 0 rfl
theorem dX7_pairAt_3 : decode cX7_pairAt 3 = .ok (.aload_n 0, 1) := dk_i kdX7_pairAt_0 1 rfl
theorem dX7_pairAt_4 : decode cX7_pairAt 4 = .ok (.iload_n 1, 1) := dk_i kdX7_pairAt_0 2 rfl
theorem dX7_pairAt_5 : decode cX7_pairAt 5 = .ok (.invokevirtual 19, 3) := dk_i kdX7_pairAt_0 3 rfl
theorem dX7_pairAt_8 : decode cX7_pairAt 8 = .ok (.imul, 1) := dk_i kdX7_pairAt_0 4 rfl
theorem dX7_pairAt_9 : decode cX7_pairAt 9 = .ok (.aload_n 0, 1) := dk_i kdX7_pairAt_0 5 rfl
theorem dX7_pairAt_10 : decode cX7_pairAt 10 = .ok (.iload_n 1, 1) := dk_i kdX7_pairAt_0 6 rfl
theorem dX7_pairAt_11 : decode cX7_pairAt 11 = .ok (.iconst 1, 1) := dk_i kdX7_pairAt_0 7 rfl
theorem dX7_pairAt_12 : decode cX7_pairAt 12 = .ok (.iadd, 1) := dk_i kdX7_pairAt_0 8 rfl
theorem dX7_pairAt_13 : decode cX7_pairAt 13 = .ok (.invokevirtual 19, 3) := dk_i kdX7_pairAt_0 9 rfl
theorem dX7_pairAt_16 : decode cX7_pairAt 16 = .ok (.iadd, 1) := dk_i kdX7_pairAt_0 10 rfl
theorem dX7_pairAt_17 : decode cX7_pairAt 17 = .ok (.ireturn, 1) := dk_i kdX7_pairAt_0 11 rfl
end
