section
def ldX4_init_0 : List (Nat × ClassFile.Instr × Nat) := [(0, .aload_n 0, 1), (1, .invokespecial 3, 3), (4, .aload_n 0, 1), (5, .new 9, 3), (8, .dup, 1), (9, .aload_n 1, 1), (10, .invokespecial 11, 3), (13, .putfield 14, 3), (16, .aload_n 0, 1), (17, .new 20, 3), (20, .dup, 1), (21, .aload_n 0, 1), (22, .getfield 14, 3), (25, .aload_n 2, 1), (26, .getfield 22, 3), (29, .invokespecial 28, 3)]
theorem kdX4_init_0 : dkO cX4_init 0 ldX4_init_0 = true := by decide +kernel
theorem dX4_init_0 : decode cX4_init 0 = .ok (.aload_n 0, 1) := dk_i kdX4_init_0 0 rfl
theorem dX4_init_1 : decode cX4_init 1 = .ok (.invokespecial 3, 3) := dk_i kdX4_init_0 1 rfl
theorem dX4_init_4 : decode cX4_init 4 = .ok (.aload_n 0, 1) := dk_i kdX4_init_0 2 rfl
theorem dX4_init_5 : decode cX4_init 5 = .ok (.new 9, 3) := dk_i kdX4_init_0 3 rfl
theorem dX4_init_8 : decode cX4_init 8 = .ok (.dup, 1) := dk_i kdX4_init_0 4 rfl
theorem dX4_init_9 : decode cX4_init 9 = .ok (.aload_n 1, 1) := dk_i kdX4_init_0 5 rfl
theorem dX4_init_10 : decode cX4_init 10 = .ok (.invokespecial 11, 3) := dk_i kdX4_init_0 6 rfl
theorem dX4_init_13 : decode cX4_init 13 = .ok (.putfield 14, 3) := dk_i kdX4_init_0 7 rfl
theorem dX4_init_16 : decode cX4_init 16 = .ok (.aload_n 0, 1) := dk_i kdX4_init_0 8 rfl
theorem dX4_init_17 : decode cX4_init 17 = .ok (.new 20, 3) := dk_i kdX4_init_0 9 rfl
theorem dX4_init_20 : decode cX4_init 20 = .ok (.dup, 1) := dk_i kdX4_init_0 10 rfl
theorem dX4_init_21 : decode cX4_init 21 = .ok (.aload_n 0, 1) := dk_i kdX4_init_0 11 rfl
theorem dX4_init_22 : decode cX4_init 22 = .ok (.getfield 14, 3) := dk_i kdX4_init_0 12 rfl
theorem dX4_init_25 : decode cX4_init 25 = .ok (.aload_n 2, 1) := dk_i kdX4_init_0 13 rfl
theorem dX4_init_26 : decode cX4_init 26 = .ok (.getfield 22, 3) := dk_i kdX4_init_0 14 rfl
theorem dX4_init_29 : decode cX4_init 29 = .ok (.invokespecial 28, 3) := dk_i kdX4_init_0 15 rfl
def ldX4_init_32 : List (Nat × ClassFile.Instr × Nat) := [(32, .putfield 31, 3), (35, .aload_n 0, 1), (36, .aload_n 2, 1), (37, .putfield 35, 3), (40, .return_, 1)]
theorem kdX4_init_32 : dkO cX4_init 32 ldX4_init_32 = true := by decide +kernel
theorem dX4_init_32 : decode cX4_init 32 = .ok (.putfield 31, 3) := dk_i kdX4_init_32 0 rfl
theorem dX4_init_35 : decode cX4_init 35 = .ok (.aload_n 0, 1) := dk_i kdX4_init_32 1 rfl
theorem dX4_init_36 : decode cX4_init 36 = .ok (.aload_n 2, 1) := dk_i kdX4_init_32 2 rfl
theorem dX4_init_37 : decode cX4_init 37 = .ok (.putfield 35, 3) := dk_i kdX4_init_32 3 rfl
theorem dX4_init_40 : decode cX4_init 40 = .ok (.return_, 1) := dk_i kdX4_init_32 4 rfl
def ldX4_read_0 : List (Nat × ClassFile.Instr × Nat) := [(0, .aload_n 0, 1), (1, .aload_n 1, 1), (2, .putfield 35, 3), (5, .aload_n 0, 1), (6, .getfield 35, 3), (9, .invokevirtual 39, 3), (12, .aload_n 0, 1), (13, .getfield 14, 3), (16, .invokevirtual 42, 3), (19, .iconst 0, 1), (20, .istore_n 2, 1), (21, .iload_n 2, 1), (22, .bipush 80, 2), (24, .if_icmp .ge 56, 3), (27, .aload_n 0, 1), (28, .getfield 14, 3)]
theorem kdX4_read_0 : dkO cX4_read 0 ldX4_read_0 = true := by decide +kernel
theorem dX4_read_0 : decode cX4_read 0 = .ok (.aload_n 0, 1) := dk_i kdX4_read_0 0 rfl
theorem dX4_read_1 : decode cX4_read 1 = .ok (.aload_n 1, 1) := dk_i kdX4_read_0 1 rfl
theorem dX4_read_2 : decode cX4_read 2 = .ok (.putfield 35, 3) := dk_i kdX4_read_0 2 rfl
theorem dX4_read_5 : decode cX4_read 5 = .ok (.aload_n 0, 1) := dk_i kdX4_read_0 3 rfl
theorem dX4_read_6 : decode cX4_read 6 = .ok (.getfield 35, 3) := dk_i kdX4_read_0 4 rfl
theorem dX4_read_9 : decode cX4_read 9 = .ok (.invokevirtual 39, 3) := dk_i kdX4_read_0 5 rfl
theorem dX4_read_12 : decode cX4_read 12 = .ok (.aload_n 0, 1) := dk_i kdX4_read_0 6 rfl
theorem dX4_read_13 : decode cX4_read 13 = .ok (.getfield 14, 3) := dk_i kdX4_read_0 7 rfl
theorem dX4_read_16 : decode cX4_read 16 = .ok (.invokevirtual 42, 3) := dk_i kdX4_read_0 8 rfl
theorem dX4_read_19 : decode cX4_read 19 = .ok (.iconst 0, 1) := dk_i kdX4_read_0 9 rfl
theorem dX4_read_20 : decode cX4_read 20 = .ok (.istore_n 2, 1) := dk_i kdX4_read_0 10 rfl
theorem dX4_read_21 : decode cX4_read 21 = .ok (.iload_n 2, 1) := dk_i kdX4_read_0 11 rfl
theorem dX4_read_22 : decode cX4_read 22 = .ok (.bipush 80, 2) := dk_i kdX4_read_0 12 rfl
theorem dX4_read_24 : decode cX4_read 24 = .ok (.if_icmp .ge 56, 3) := dk_i kdX4_read_0 13 rfl
theorem dX4_read_27 : decode cX4_read 27 = .ok (.aload_n 0, 1) := dk_i kdX4_read_0 14 rfl
theorem dX4_read_28 : decode cX4_read 28 = .ok (.getfield 14, 3) := dk_i kdX4_read_0 15 rfl
def ldX4_read_31 : List (Nat × ClassFile.Instr × Nat) := [(31, .getfield 45, 3), (34, .sipush 259, 3), (37, .if_icmp .eq 43, 3), (40, .aload_n 0, 1), (41, .invokevirtual 49, 3), (44, .ifCond .eq 15, 3), (47, .aload_n 0, 1), (48, .getfield 14, 3), (51, .bipush 59, 2), (53, .invokevirtual 53, 3), (56, .ifCond .ne 5, 3), (59, .iconst 0, 1), (60, .ireturn, 1), (61, .aload_n 0, 1), (62, .getfield 35, 3), (65, .dup, 1)]
theorem kdX4_read_31 : dkO cX4_read 31 ldX4_read_31 = true := by decide +kernel
theorem dX4_read_31 : decode cX4_read 31 = .ok (.getfield 45, 3) := dk_i kdX4_read_31 0 rfl
theorem dX4_read_34 : decode cX4_read 34 = .ok (.sipush 259, 3) := dk_i kdX4_read_31 1 rfl
theorem dX4_read_37 : decode cX4_read 37 = .ok (.if_icmp .eq 43, 3) := dk_i kdX4_read_31 2 rfl
theorem dX4_read_40 : decode cX4_read 40 = .ok (.aload_n 0, 1) := dk_i kdX4_read_31 3 rfl
theorem dX4_read_41 : decode cX4_read 41 = .ok (.invokevirtual 49, 3) := dk_i kdX4_read_31 4 rfl
theorem dX4_read_44 : decode cX4_read 44 = .ok (.ifCond .eq 15, 3) := dk_i kdX4_read_31 5 rfl
theorem dX4_read_47 : decode cX4_read 47 = .ok (.aload_n 0, 1) := dk_i kdX4_read_31 6 rfl
theorem dX4_read_48 : decode cX4_read 48 = .ok (.getfield 14, 3) := dk_i kdX4_read_31 7 rfl
theorem dX4_read_51 : decode cX4_read 51 = .ok (.bipush 59, 2) := dk_i kdX4_read_31 8 rfl
theorem dX4_read_53 : decode cX4_read 53 = .ok (.invokevirtual 53, 3) := dk_i kdX4_read_31 9 rfl
theorem dX4_read_56 : decode cX4_read 56 = .ok (.ifCond .ne 5, 3) := dk_i kdX4_read_31 10 rfl
theorem dX4_read_59 : decode cX4_read 59 = .ok (.iconst 0, 1) := dk_i kdX4_read_31 11 rfl
theorem dX4_read_60 : decode cX4_read 60 = .ok (.ireturn, 1) := dk_i kdX4_read_31 12 rfl
theorem dX4_read_61 : decode cX4_read 61 = .ok (.aload_n 0, 1) := dk_i kdX4_read_31 13 rfl
theorem dX4_read_62 : decode cX4_read 62 = .ok (.getfield 35, 3) := dk_i kdX4_read_31 14 rfl
theorem dX4_read_65 : decode cX4_read 65 = .ok (.dup, 1) := dk_i kdX4_read_31 15 rfl
def ldX4_read_66 : List (Nat × ClassFile.Instr × Nat) := [(66, .getfield 57, 3), (69, .iconst 1, 1), (70, .iadd, 1), (71, .putfield 57, 3), (74, .iinc 2 1, 3), (77, .goto (-56), 3), (80, .aload_n 0, 1), (81, .getfield 14, 3), (84, .getfield 45, 3), (87, .sipush 259, 3), (90, .if_icmp .eq 22, 3), (93, .aload_n 0, 1), (94, .getfield 14, 3), (97, .bipush 6, 2), (99, .aload_n 0, 1), (100, .getfield 14, 3)]
theorem kdX4_read_66 : dkO cX4_read 66 ldX4_read_66 = true := by decide +kernel
theorem dX4_read_66 : decode cX4_read 66 = .ok (.getfield 57, 3) := dk_i kdX4_read_66 0 rfl
theorem dX4_read_69 : decode cX4_read 69 = .ok (.iconst 1, 1) := dk_i kdX4_read_66 1 rfl
theorem dX4_read_70 : decode cX4_read 70 = .ok (.iadd, 1) := dk_i kdX4_read_66 2 rfl
theorem dX4_read_71 : decode cX4_read 71 = .ok (.putfield 57, 3) := dk_i kdX4_read_66 3 rfl
theorem dX4_read_74 : decode cX4_read 74 = .ok (.iinc 2 1, 3) := dk_i kdX4_read_66 4 rfl
theorem dX4_read_77 : decode cX4_read 77 = .ok (.goto (-56), 3) := dk_i kdX4_read_66 5 rfl
theorem dX4_read_80 : decode cX4_read 80 = .ok (.aload_n 0, 1) := dk_i kdX4_read_66 6 rfl
theorem dX4_read_81 : decode cX4_read 81 = .ok (.getfield 14, 3) := dk_i kdX4_read_66 7 rfl
theorem dX4_read_84 : decode cX4_read 84 = .ok (.getfield 45, 3) := dk_i kdX4_read_66 8 rfl
theorem dX4_read_87 : decode cX4_read 87 = .ok (.sipush 259, 3) := dk_i kdX4_read_66 9 rfl
theorem dX4_read_90 : decode cX4_read 90 = .ok (.if_icmp .eq 22, 3) := dk_i kdX4_read_66 10 rfl
theorem dX4_read_93 : decode cX4_read 93 = .ok (.aload_n 0, 1) := dk_i kdX4_read_66 11 rfl
theorem dX4_read_94 : decode cX4_read 94 = .ok (.getfield 14, 3) := dk_i kdX4_read_66 12 rfl
theorem dX4_read_97 : decode cX4_read 97 = .ok (.bipush 6, 2) := dk_i kdX4_read_66 13 rfl
theorem dX4_read_99 : decode cX4_read 99 = .ok (.aload_n 0, 1) := dk_i kdX4_read_66 14 rfl
theorem dX4_read_100 : decode cX4_read 100 = .ok (.getfield 14, 3) := dk_i kdX4_read_66 15 rfl
def ldX4_read_103 : List (Nat × ClassFile.Instr × Nat) := [(103, .getfield 60, 3), (106, .invokevirtual 63, 3), (109, .ifCond .eq 7, 3), (112, .iconst 1, 1), (113, .goto 4, 3), (116, .iconst 0, 1), (117, .ireturn, 1)]
theorem kdX4_read_103 : dkO cX4_read 103 ldX4_read_103 = true := by decide +kernel
theorem dX4_read_103 : decode cX4_read 103 = .ok (.getfield 60, 3) := dk_i kdX4_read_103 0 rfl
theorem dX4_read_106 : decode cX4_read 106 = .ok (.invokevirtual 63, 3) := dk_i kdX4_read_103 1 rfl
theorem dX4_read_109 : decode cX4_read 109 = .ok (.ifCond .eq 7, 3) := dk_i kdX4_read_103 2 rfl
theorem dX4_read_112 : decode cX4_read 112 = .ok (.iconst 1, 1) := dk_i kdX4_read_103 3 rfl
theorem dX4_read_113 : decode cX4_read 113 = .ok (.goto 4, 3) := dk_i kdX4_read_103 4 rfl
theorem dX4_read_116 : decode cX4_read 116 = .ok (.iconst 0, 1) := dk_i kdX4_read_103 5 rfl
theorem dX4_read_117 : decode cX4_read 117 = .ok (.ireturn, 1) := dk_i kdX4_read_103 6 rfl
def ldX4_readStatement_0 : List (Nat × ClassFile.Instr × Nat) := [(0, .aload_n 0, 1), (1, .getfield 14, 3), (4, .getfield 45, 3), (7, .tableswitch 358 260 274 #[73, 358, 358, 110, 146, 358, 358, 183, 358, 204, 358, 358, 241, 289, 337], 73), (80, .aload_n 0, 1), (81, .aload_n 0, 1), (82, .getfield 35, 3), (85, .getfield 67, 3), (88, .bipush 6, 2), (90, .if_icmp .ge 7, 3), (93, .iconst 1, 1), (94, .goto 4, 3), (97, .iconst 0, 1), (98, .invokevirtual 70, 3), (101, .ifCond .eq 14, 3), (104, .aload_n 0, 1)]
theorem kdX4_readStatement_0 : dkO cX4_readStatement 0 ldX4_readStatement_0 = true := by decide +kernel
theorem dX4_readStatement_0 : decode cX4_readStatement 0 = .ok (.aload_n 0, 1) := dk_i kdX4_readStatement_0 0 rfl
theorem dX4_readStatement_1 : decode cX4_readStatement 1 = .ok (.getfield 14, 3) := dk_i kdX4_readStatement_0 1 rfl
theorem dX4_readStatement_4 : decode cX4_readStatement 4 = .ok (.getfield 45, 3) := dk_i kdX4_readStatement_0 2 rfl
theorem dX4_readStatement_7 : decode cX4_readStatement 7 = .ok (.tableswitch 358 260 274 #[73, 358, 358, 110, 146, 358, 358, 183, 358, 204, 358, 358, 241, 289, 337], 73) := dk_i kdX4_readStatement_0 3 rfl
theorem dX4_readStatement_80 : decode cX4_readStatement 80 = .ok (.aload_n 0, 1) := dk_i kdX4_readStatement_0 4 rfl
theorem dX4_readStatement_81 : decode cX4_readStatement 81 = .ok (.aload_n 0, 1) := dk_i kdX4_readStatement_0 5 rfl
theorem dX4_readStatement_82 : decode cX4_readStatement 82 = .ok (.getfield 35, 3) := dk_i kdX4_readStatement_0 6 rfl
theorem dX4_readStatement_85 : decode cX4_readStatement 85 = .ok (.getfield 67, 3) := dk_i kdX4_readStatement_0 7 rfl
theorem dX4_readStatement_88 : decode cX4_readStatement 88 = .ok (.bipush 6, 2) := dk_i kdX4_readStatement_0 8 rfl
theorem dX4_readStatement_90 : decode cX4_readStatement 90 = .ok (.if_icmp .ge 7, 3) := dk_i kdX4_readStatement_0 9 rfl
theorem dX4_readStatement_93 : decode cX4_readStatement 93 = .ok (.iconst 1, 1) := dk_i kdX4_readStatement_0 10 rfl
theorem dX4_readStatement_94 : decode cX4_readStatement 94 = .ok (.goto 4, 3) := dk_i kdX4_readStatement_0 11 rfl
theorem dX4_readStatement_97 : decode cX4_readStatement 97 = .ok (.iconst 0, 1) := dk_i kdX4_readStatement_0 12 rfl
theorem dX4_readStatement_98 : decode cX4_readStatement 98 = .ok (.invokevirtual 70, 3) := dk_i kdX4_readStatement_0 13 rfl
theorem dX4_readStatement_101 : decode cX4_readStatement 101 = .ok (.ifCond .eq 14, 3) := dk_i kdX4_readStatement_0 14 rfl
theorem dX4_readStatement_104 : decode cX4_readStatement 104 = .ok (.aload_n 0, 1) := dk_i kdX4_readStatement_0 15 rfl
def ldX4_readStatement_105 : List (Nat × ClassFile.Instr × Nat) := [(105, .invokevirtual 74, 3), (108, .ifCond .eq 7, 3), (111, .iconst 1, 1), (112, .goto 4, 3), (115, .iconst 0, 1), (116, .ireturn, 1), (117, .aload_n 0, 1), (118, .aload_n 0, 1), (119, .getfield 35, 3), (122, .getfield 77, 3), (125, .iconst 5, 1), (126, .if_icmp .ge 7, 3), (129, .iconst 1, 1), (130, .goto 4, 3), (133, .iconst 0, 1), (134, .invokevirtual 70, 3)]
theorem kdX4_readStatement_105 : dkO cX4_readStatement 105 ldX4_readStatement_105 = true := by decide +kernel
theorem dX4_readStatement_105 : decode cX4_readStatement 105 = .ok (.invokevirtual 74, 3) := dk_i kdX4_readStatement_105 0 rfl
theorem dX4_readStatement_108 : decode cX4_readStatement 108 = .ok (.ifCond .eq 7, 3) := dk_i kdX4_readStatement_105 1 rfl
theorem dX4_readStatement_111 : decode cX4_readStatement 111 = .ok (.iconst 1, 1) := dk_i kdX4_readStatement_105 2 rfl
theorem dX4_readStatement_112 : decode cX4_readStatement 112 = .ok (.goto 4, 3) := dk_i kdX4_readStatement_105 3 rfl
theorem dX4_readStatement_115 : decode cX4_readStatement 115 = .ok (.iconst 0, 1) := dk_i kdX4_readStatement_105 4 rfl
theorem dX4_readStatement_116 : decode cX4_readStatement 116 = .ok (.ireturn, 1) := dk_i kdX4_readStatement_105 5 rfl
theorem dX4_readStatement_117 : decode cX4_readStatement 117 = .ok (.aload_n 0, 1) := dk_i kdX4_readStatement_105 6 rfl
theorem dX4_readStatement_118 : decode cX4_readStatement 118 = .ok (.aload_n 0, 1) := dk_i kdX4_readStatement_105 7 rfl
theorem dX4_readStatement_119 : decode cX4_readStatement 119 = .ok (.getfield 35, 3) := dk_i kdX4_readStatement_105 8 rfl
theorem dX4_readStatement_122 : decode cX4_readStatement 122 = .ok (.getfield 77, 3) := dk_i kdX4_readStatement_105 9 rfl
theorem dX4_readStatement_125 : decode cX4_readStatement 125 = .ok (.iconst 5, 1) := dk_i kdX4_readStatement_105 10 rfl
theorem dX4_readStatement_126 : decode cX4_readStatement 126 = .ok (.if_icmp .ge 7, 3) := dk_i kdX4_readStatement_105 11 rfl
theorem dX4_readStatement_129 : decode cX4_readStatement 129 = .ok (.iconst 1, 1) := dk_i kdX4_readStatement_105 12 rfl
theorem dX4_readStatement_130 : decode cX4_readStatement 130 = .ok (.goto 4, 3) := dk_i kdX4_readStatement_105 13 rfl
theorem dX4_readStatement_133 : decode cX4_readStatement 133 = .ok (.iconst 0, 1) := dk_i kdX4_readStatement_105 14 rfl
theorem dX4_readStatement_134 : decode cX4_readStatement 134 = .ok (.invokevirtual 70, 3) := dk_i kdX4_readStatement_105 15 rfl
def ldX4_readStatement_137 : List (Nat × ClassFile.Instr × Nat) := [(137, .ifCond .eq 14, 3), (140, .aload_n 0, 1), (141, .invokevirtual 80, 3), (144, .ifCond .eq 7, 3), (147, .iconst 1, 1), (148, .goto 4, 3), (151, .iconst 0, 1), (152, .ireturn, 1), (153, .aload_n 0, 1), (154, .aload_n 0, 1), (155, .getfield 35, 3), (158, .getfield 83, 3), (161, .bipush 10, 2), (163, .if_icmp .ge 7, 3), (166, .iconst 1, 1), (167, .goto 4, 3)]
theorem kdX4_readStatement_137 : dkO cX4_readStatement 137 ldX4_readStatement_137 = true := by decide +kernel
theorem dX4_readStatement_137 : decode cX4_readStatement 137 = .ok (.ifCond .eq 14, 3) := dk_i kdX4_readStatement_137 0 rfl
theorem dX4_readStatement_140 : decode cX4_readStatement 140 = .ok (.aload_n 0, 1) := dk_i kdX4_readStatement_137 1 rfl
theorem dX4_readStatement_141 : decode cX4_readStatement 141 = .ok (.invokevirtual 80, 3) := dk_i kdX4_readStatement_137 2 rfl
theorem dX4_readStatement_144 : decode cX4_readStatement 144 = .ok (.ifCond .eq 7, 3) := dk_i kdX4_readStatement_137 3 rfl
theorem dX4_readStatement_147 : decode cX4_readStatement 147 = .ok (.iconst 1, 1) := dk_i kdX4_readStatement_137 4 rfl
theorem dX4_readStatement_148 : decode cX4_readStatement 148 = .ok (.goto 4, 3) := dk_i kdX4_readStatement_137 5 rfl
theorem dX4_readStatement_151 : decode cX4_readStatement 151 = .ok (.iconst 0, 1) := dk_i kdX4_readStatement_137 6 rfl
theorem dX4_readStatement_152 : decode cX4_readStatement 152 = .ok (.ireturn, 1) := dk_i kdX4_readStatement_137 7 rfl
theorem dX4_readStatement_153 : decode cX4_readStatement 153 = .ok (.aload_n 0, 1) := dk_i kdX4_readStatement_137 8 rfl
theorem dX4_readStatement_154 : decode cX4_readStatement 154 = .ok (.aload_n 0, 1) := dk_i kdX4_readStatement_137 9 rfl
theorem dX4_readStatement_155 : decode cX4_readStatement 155 = .ok (.getfield 35, 3) := dk_i kdX4_readStatement_137 10 rfl
theorem dX4_readStatement_158 : decode cX4_readStatement 158 = .ok (.getfield 83, 3) := dk_i kdX4_readStatement_137 11 rfl
theorem dX4_readStatement_161 : decode cX4_readStatement 161 = .ok (.bipush 10, 2) := dk_i kdX4_readStatement_137 12 rfl
theorem dX4_readStatement_163 : decode cX4_readStatement 163 = .ok (.if_icmp .ge 7, 3) := dk_i kdX4_readStatement_137 13 rfl
theorem dX4_readStatement_166 : decode cX4_readStatement 166 = .ok (.iconst 1, 1) := dk_i kdX4_readStatement_137 14 rfl
theorem dX4_readStatement_167 : decode cX4_readStatement 167 = .ok (.goto 4, 3) := dk_i kdX4_readStatement_137 15 rfl
def ldX4_readStatement_170 : List (Nat × ClassFile.Instr × Nat) := [(170, .iconst 0, 1), (171, .invokevirtual 70, 3), (174, .ifCond .eq 14, 3), (177, .aload_n 0, 1), (178, .invokevirtual 86, 3), (181, .ifCond .eq 7, 3), (184, .iconst 1, 1), (185, .goto 4, 3), (188, .iconst 0, 1), (189, .ireturn, 1), (190, .aload_n 0, 1), (191, .iconst 1, 1), (192, .invokevirtual 70, 3), (195, .ifCond .eq 14, 3), (198, .aload_n 0, 1), (199, .invokevirtual 89, 3)]
theorem kdX4_readStatement_170 : dkO cX4_readStatement 170 ldX4_readStatement_170 = true := by decide +kernel
theorem dX4_readStatement_170 : decode cX4_readStatement 170 = .ok (.iconst 0, 1) := dk_i kdX4_readStatement_170 0 rfl
theorem dX4_readStatement_171 : decode cX4_readStatement 171 = .ok (.invokevirtual 70, 3) := dk_i kdX4_readStatement_170 1 rfl
theorem dX4_readStatement_174 : decode cX4_readStatement 174 = .ok (.ifCond .eq 14, 3) := dk_i kdX4_readStatement_170 2 rfl
theorem dX4_readStatement_177 : decode cX4_readStatement 177 = .ok (.aload_n 0, 1) := dk_i kdX4_readStatement_170 3 rfl
theorem dX4_readStatement_178 : decode cX4_readStatement 178 = .ok (.invokevirtual 86, 3) := dk_i kdX4_readStatement_170 4 rfl
theorem dX4_readStatement_181 : decode cX4_readStatement 181 = .ok (.ifCond .eq 7, 3) := dk_i kdX4_readStatement_170 5 rfl
theorem dX4_readStatement_184 : decode cX4_readStatement 184 = .ok (.iconst 1, 1) := dk_i kdX4_readStatement_170 6 rfl
theorem dX4_readStatement_185 : decode cX4_readStatement 185 = .ok (.goto 4, 3) := dk_i kdX4_readStatement_170 7 rfl
theorem dX4_readStatement_188 : decode cX4_readStatement 188 = .ok (.iconst 0, 1) := dk_i kdX4_readStatement_170 8 rfl
theorem dX4_readStatement_189 : decode cX4_readStatement 189 = .ok (.ireturn, 1) := dk_i kdX4_readStatement_170 9 rfl
theorem dX4_readStatement_190 : decode cX4_readStatement 190 = .ok (.aload_n 0, 1) := dk_i kdX4_readStatement_170 10 rfl
theorem dX4_readStatement_191 : decode cX4_readStatement 191 = .ok (.iconst 1, 1) := dk_i kdX4_readStatement_170 11 rfl
theorem dX4_readStatement_192 : decode cX4_readStatement 192 = .ok (.invokevirtual 70, 3) := dk_i kdX4_readStatement_170 12 rfl
theorem dX4_readStatement_195 : decode cX4_readStatement 195 = .ok (.ifCond .eq 14, 3) := dk_i kdX4_readStatement_170 13 rfl
theorem dX4_readStatement_198 : decode cX4_readStatement 198 = .ok (.aload_n 0, 1) := dk_i kdX4_readStatement_170 14 rfl
theorem dX4_readStatement_199 : decode cX4_readStatement 199 = .ok (.invokevirtual 89, 3) := dk_i kdX4_readStatement_170 15 rfl
def ldX4_readStatement_202 : List (Nat × ClassFile.Instr × Nat) := [(202, .ifCond .eq 7, 3), (205, .iconst 1, 1), (206, .goto 4, 3), (209, .iconst 0, 1), (210, .ireturn, 1), (211, .aload_n 0, 1), (212, .aload_n 0, 1), (213, .getfield 35, 3), (216, .getfield 92, 3), (219, .bipush 6, 2), (221, .if_icmp .ge 7, 3), (224, .iconst 1, 1), (225, .goto 4, 3), (228, .iconst 0, 1), (229, .invokevirtual 70, 3), (232, .ifCond .eq 14, 3)]
theorem kdX4_readStatement_202 : dkO cX4_readStatement 202 ldX4_readStatement_202 = true := by decide +kernel
theorem dX4_readStatement_202 : decode cX4_readStatement 202 = .ok (.ifCond .eq 7, 3) := dk_i kdX4_readStatement_202 0 rfl
theorem dX4_readStatement_205 : decode cX4_readStatement 205 = .ok (.iconst 1, 1) := dk_i kdX4_readStatement_202 1 rfl
theorem dX4_readStatement_206 : decode cX4_readStatement 206 = .ok (.goto 4, 3) := dk_i kdX4_readStatement_202 2 rfl
theorem dX4_readStatement_209 : decode cX4_readStatement 209 = .ok (.iconst 0, 1) := dk_i kdX4_readStatement_202 3 rfl
theorem dX4_readStatement_210 : decode cX4_readStatement 210 = .ok (.ireturn, 1) := dk_i kdX4_readStatement_202 4 rfl
theorem dX4_readStatement_211 : decode cX4_readStatement 211 = .ok (.aload_n 0, 1) := dk_i kdX4_readStatement_202 5 rfl
theorem dX4_readStatement_212 : decode cX4_readStatement 212 = .ok (.aload_n 0, 1) := dk_i kdX4_readStatement_202 6 rfl
theorem dX4_readStatement_213 : decode cX4_readStatement 213 = .ok (.getfield 35, 3) := dk_i kdX4_readStatement_202 7 rfl
theorem dX4_readStatement_216 : decode cX4_readStatement 216 = .ok (.getfield 92, 3) := dk_i kdX4_readStatement_202 8 rfl
theorem dX4_readStatement_219 : decode cX4_readStatement 219 = .ok (.bipush 6, 2) := dk_i kdX4_readStatement_202 9 rfl
theorem dX4_readStatement_221 : decode cX4_readStatement 221 = .ok (.if_icmp .ge 7, 3) := dk_i kdX4_readStatement_202 10 rfl
theorem dX4_readStatement_224 : decode cX4_readStatement 224 = .ok (.iconst 1, 1) := dk_i kdX4_readStatement_202 11 rfl
theorem dX4_readStatement_225 : decode cX4_readStatement 225 = .ok (.goto 4, 3) := dk_i kdX4_readStatement_202 12 rfl
theorem dX4_readStatement_228 : decode cX4_readStatement 228 = .ok (.iconst 0, 1) := dk_i kdX4_readStatement_202 13 rfl
theorem dX4_readStatement_229 : decode cX4_readStatement 229 = .ok (.invokevirtual 70, 3) := dk_i kdX4_readStatement_202 14 rfl
theorem dX4_readStatement_232 : decode cX4_readStatement 232 = .ok (.ifCond .eq 14, 3) := dk_i kdX4_readStatement_202 15 rfl
def ldX4_readStatement_235 : List (Nat × ClassFile.Instr × Nat) := [(235, .aload_n 0, 1), (236, .invokevirtual 95, 3), (239, .ifCond .eq 7, 3), (242, .iconst 1, 1), (243, .goto 4, 3), (246, .iconst 0, 1), (247, .ireturn, 1), (248, .aload_n 0, 1), (249, .aload_n 0, 1), (250, .getfield 35, 3), (253, .getfield 22, 3), (256, .invokevirtual 98, 3), (259, .ifCond .ne 7, 3), (262, .iconst 1, 1), (263, .goto 4, 3), (266, .iconst 0, 1)]
theorem kdX4_readStatement_235 : dkO cX4_readStatement 235 ldX4_readStatement_235 = true := by decide +kernel
theorem dX4_readStatement_235 : decode cX4_readStatement 235 = .ok (.aload_n 0, 1) := dk_i kdX4_readStatement_235 0 rfl
theorem dX4_readStatement_236 : decode cX4_readStatement 236 = .ok (.invokevirtual 95, 3) := dk_i kdX4_readStatement_235 1 rfl
theorem dX4_readStatement_239 : decode cX4_readStatement 239 = .ok (.ifCond .eq 7, 3) := dk_i kdX4_readStatement_235 2 rfl
theorem dX4_readStatement_242 : decode cX4_readStatement 242 = .ok (.iconst 1, 1) := dk_i kdX4_readStatement_235 3 rfl
theorem dX4_readStatement_243 : decode cX4_readStatement 243 = .ok (.goto 4, 3) := dk_i kdX4_readStatement_235 4 rfl
theorem dX4_readStatement_246 : decode cX4_readStatement 246 = .ok (.iconst 0, 1) := dk_i kdX4_readStatement_235 5 rfl
theorem dX4_readStatement_247 : decode cX4_readStatement 247 = .ok (.ireturn, 1) := dk_i kdX4_readStatement_235 6 rfl
theorem dX4_readStatement_248 : decode cX4_readStatement 248 = .ok (.aload_n 0, 1) := dk_i kdX4_readStatement_235 7 rfl
theorem dX4_readStatement_249 : decode cX4_readStatement 249 = .ok (.aload_n 0, 1) := dk_i kdX4_readStatement_235 8 rfl
theorem dX4_readStatement_250 : decode cX4_readStatement 250 = .ok (.getfield 35, 3) := dk_i kdX4_readStatement_235 9 rfl
theorem dX4_readStatement_253 : decode cX4_readStatement 253 = .ok (.getfield 22, 3) := dk_i kdX4_readStatement_235 10 rfl
theorem dX4_readStatement_256 : decode cX4_readStatement 256 = .ok (.invokevirtual 98, 3) := dk_i kdX4_readStatement_235 11 rfl
theorem dX4_readStatement_259 : decode cX4_readStatement 259 = .ok (.ifCond .ne 7, 3) := dk_i kdX4_readStatement_235 12 rfl
theorem dX4_readStatement_262 : decode cX4_readStatement 262 = .ok (.iconst 1, 1) := dk_i kdX4_readStatement_235 13 rfl
theorem dX4_readStatement_263 : decode cX4_readStatement 263 = .ok (.goto 4, 3) := dk_i kdX4_readStatement_235 14 rfl
theorem dX4_readStatement_266 : decode cX4_readStatement 266 = .ok (.iconst 0, 1) := dk_i kdX4_readStatement_235 15 rfl
def ldX4_readStatement_267 : List (Nat × ClassFile.Instr × Nat) := [(267, .invokevirtual 70, 3), (270, .ifCond .eq 24, 3), (273, .aload_n 0, 1), (274, .getfield 31, 3), (277, .aload_n 0, 1), (278, .getfield 35, 3), (281, .getfield 22, 3), (284, .invokevirtual 103, 3), (287, .ifCond .eq 7, 3), (290, .iconst 1, 1), (291, .goto 4, 3), (294, .iconst 0, 1), (295, .ireturn, 1), (296, .aload_n 0, 1), (297, .aload_n 0, 1), (298, .getfield 35, 3)]
theorem kdX4_readStatement_267 : dkO cX4_readStatement 267 ldX4_readStatement_267 = true := by decide +kernel
theorem dX4_readStatement_267 : decode cX4_readStatement 267 = .ok (.invokevirtual 70, 3) := dk_i kdX4_readStatement_267 0 rfl
theorem dX4_readStatement_270 : decode cX4_readStatement 270 = .ok (.ifCond .eq 24, 3) := dk_i kdX4_readStatement_267 1 rfl
theorem dX4_readStatement_273 : decode cX4_readStatement 273 = .ok (.aload_n 0, 1) := dk_i kdX4_readStatement_267 2 rfl
theorem dX4_readStatement_274 : decode cX4_readStatement 274 = .ok (.getfield 31, 3) := dk_i kdX4_readStatement_267 3 rfl
theorem dX4_readStatement_277 : decode cX4_readStatement 277 = .ok (.aload_n 0, 1) := dk_i kdX4_readStatement_267 4 rfl
theorem dX4_readStatement_278 : decode cX4_readStatement 278 = .ok (.getfield 35, 3) := dk_i kdX4_readStatement_267 5 rfl
theorem dX4_readStatement_281 : decode cX4_readStatement 281 = .ok (.getfield 22, 3) := dk_i kdX4_readStatement_267 6 rfl
theorem dX4_readStatement_284 : decode cX4_readStatement 284 = .ok (.invokevirtual 103, 3) := dk_i kdX4_readStatement_267 7 rfl
theorem dX4_readStatement_287 : decode cX4_readStatement 287 = .ok (.ifCond .eq 7, 3) := dk_i kdX4_readStatement_267 8 rfl
theorem dX4_readStatement_290 : decode cX4_readStatement 290 = .ok (.iconst 1, 1) := dk_i kdX4_readStatement_267 9 rfl
theorem dX4_readStatement_291 : decode cX4_readStatement 291 = .ok (.goto 4, 3) := dk_i kdX4_readStatement_267 10 rfl
theorem dX4_readStatement_294 : decode cX4_readStatement 294 = .ok (.iconst 0, 1) := dk_i kdX4_readStatement_267 11 rfl
theorem dX4_readStatement_295 : decode cX4_readStatement 295 = .ok (.ireturn, 1) := dk_i kdX4_readStatement_267 12 rfl
theorem dX4_readStatement_296 : decode cX4_readStatement 296 = .ok (.aload_n 0, 1) := dk_i kdX4_readStatement_267 13 rfl
theorem dX4_readStatement_297 : decode cX4_readStatement 297 = .ok (.aload_n 0, 1) := dk_i kdX4_readStatement_267 14 rfl
theorem dX4_readStatement_298 : decode cX4_readStatement 298 = .ok (.getfield 35, 3) := dk_i kdX4_readStatement_267 15 rfl
def ldX4_readStatement_301 : List (Nat × ClassFile.Instr × Nat) := [(301, .getfield 107, 3), (304, .invokevirtual 98, 3), (307, .ifCond .ne 7, 3), (310, .iconst 1, 1), (311, .goto 4, 3), (314, .iconst 0, 1), (315, .invokevirtual 70, 3), (318, .ifCond .eq 24, 3), (321, .aload_n 0, 1), (322, .getfield 31, 3), (325, .aload_n 0, 1), (326, .getfield 35, 3), (329, .getfield 107, 3), (332, .invokevirtual 110, 3), (335, .ifCond .eq 7, 3), (338, .iconst 1, 1)]
theorem kdX4_readStatement_301 : dkO cX4_readStatement 301 ldX4_readStatement_301 = true := by decide +kernel
theorem dX4_readStatement_301 : decode cX4_readStatement 301 = .ok (.getfield 107, 3) := dk_i kdX4_readStatement_301 0 rfl
theorem dX4_readStatement_304 : decode cX4_readStatement 304 = .ok (.invokevirtual 98, 3) := dk_i kdX4_readStatement_301 1 rfl
theorem dX4_readStatement_307 : decode cX4_readStatement 307 = .ok (.ifCond .ne 7, 3) := dk_i kdX4_readStatement_301 2 rfl
theorem dX4_readStatement_310 : decode cX4_readStatement 310 = .ok (.iconst 1, 1) := dk_i kdX4_readStatement_301 3 rfl
theorem dX4_readStatement_311 : decode cX4_readStatement 311 = .ok (.goto 4, 3) := dk_i kdX4_readStatement_301 4 rfl
theorem dX4_readStatement_314 : decode cX4_readStatement 314 = .ok (.iconst 0, 1) := dk_i kdX4_readStatement_301 5 rfl
theorem dX4_readStatement_315 : decode cX4_readStatement 315 = .ok (.invokevirtual 70, 3) := dk_i kdX4_readStatement_301 6 rfl
theorem dX4_readStatement_318 : decode cX4_readStatement 318 = .ok (.ifCond .eq 24, 3) := dk_i kdX4_readStatement_301 7 rfl
theorem dX4_readStatement_321 : decode cX4_readStatement 321 = .ok (.aload_n 0, 1) := dk_i kdX4_readStatement_301 8 rfl
theorem dX4_readStatement_322 : decode cX4_readStatement 322 = .ok (.getfield 31, 3) := dk_i kdX4_readStatement_301 9 rfl
theorem dX4_readStatement_325 : decode cX4_readStatement 325 = .ok (.aload_n 0, 1) := dk_i kdX4_readStatement_301 10 rfl
theorem dX4_readStatement_326 : decode cX4_readStatement 326 = .ok (.getfield 35, 3) := dk_i kdX4_readStatement_301 11 rfl
theorem dX4_readStatement_329 : decode cX4_readStatement 329 = .ok (.getfield 107, 3) := dk_i kdX4_readStatement_301 12 rfl
theorem dX4_readStatement_332 : decode cX4_readStatement 332 = .ok (.invokevirtual 110, 3) := dk_i kdX4_readStatement_301 13 rfl
theorem dX4_readStatement_335 : decode cX4_readStatement 335 = .ok (.ifCond .eq 7, 3) := dk_i kdX4_readStatement_301 14 rfl
theorem dX4_readStatement_338 : decode cX4_readStatement 338 = .ok (.iconst 1, 1) := dk_i kdX4_readStatement_301 15 rfl
def ldX4_readStatement_339 : List (Nat × ClassFile.Instr × Nat) := [(339, .goto 4, 3), (342, .iconst 0, 1), (343, .ireturn, 1), (344, .aload_n 0, 1), (345, .iconst 1, 1), (346, .invokevirtual 70, 3), (349, .ifCond .eq 14, 3), (352, .aload_n 0, 1), (353, .invokevirtual 113, 3), (356, .ifCond .eq 7, 3), (359, .iconst 1, 1), (360, .goto 4, 3), (363, .iconst 0, 1), (364, .ireturn, 1), (365, .aload_n 0, 1), (366, .getfield 14, 3)]
theorem kdX4_readStatement_339 : dkO cX4_readStatement 339 ldX4_readStatement_339 = true := by decide +kernel
theorem dX4_readStatement_339 : decode cX4_readStatement 339 = .ok (.goto 4, 3) := dk_i kdX4_readStatement_339 0 rfl
theorem dX4_readStatement_342 : decode cX4_readStatement 342 = .ok (.iconst 0, 1) := dk_i kdX4_readStatement_339 1 rfl
theorem dX4_readStatement_343 : decode cX4_readStatement 343 = .ok (.ireturn, 1) := dk_i kdX4_readStatement_339 2 rfl
theorem dX4_readStatement_344 : decode cX4_readStatement 344 = .ok (.aload_n 0, 1) := dk_i kdX4_readStatement_339 3 rfl
theorem dX4_readStatement_345 : decode cX4_readStatement 345 = .ok (.iconst 1, 1) := dk_i kdX4_readStatement_339 4 rfl
theorem dX4_readStatement_346 : decode cX4_readStatement 346 = .ok (.invokevirtual 70, 3) := dk_i kdX4_readStatement_339 5 rfl
theorem dX4_readStatement_349 : decode cX4_readStatement 349 = .ok (.ifCond .eq 14, 3) := dk_i kdX4_readStatement_339 6 rfl
theorem dX4_readStatement_352 : decode cX4_readStatement 352 = .ok (.aload_n 0, 1) := dk_i kdX4_readStatement_339 7 rfl
theorem dX4_readStatement_353 : decode cX4_readStatement 353 = .ok (.invokevirtual 113, 3) := dk_i kdX4_readStatement_339 8 rfl
theorem dX4_readStatement_356 : decode cX4_readStatement 356 = .ok (.ifCond .eq 7, 3) := dk_i kdX4_readStatement_339 9 rfl
theorem dX4_readStatement_359 : decode cX4_readStatement 359 = .ok (.iconst 1, 1) := dk_i kdX4_readStatement_339 10 rfl
theorem dX4_readStatement_360 : decode cX4_readStatement 360 = .ok (.goto 4, 3) := dk_i kdX4_readStatement_339 11 rfl
theorem dX4_readStatement_363 : decode cX4_readStatement 363 = .ok (.iconst 0, 1) := dk_i kdX4_readStatement_339 12 rfl
theorem dX4_readStatement_364 : decode cX4_readStatement 364 = .ok (.ireturn, 1) := dk_i kdX4_readStatement_339 13 rfl
theorem dX4_readStatement_365 : decode cX4_readStatement 365 = .ok (.aload_n 0, 1) := dk_i kdX4_readStatement_339 14 rfl
theorem dX4_readStatement_366 : decode cX4_readStatement 366 = .ok (.getfield 14, 3) := dk_i kdX4_readStatement_339 15 rfl
def ldX4_readStatement_369 : List (Nat × ClassFile.Instr × Nat) := [(369, .invokevirtual 116, 3), (372, .ireturn, 1)]
theorem kdX4_readStatement_369 : dkO cX4_readStatement 369 ldX4_readStatement_369 = true := by decide +kernel
theorem dX4_readStatement_369 : decode cX4_readStatement 369 = .ok (.invokevirtual 116, 3) := dk_i kdX4_readStatement_369 0 rfl
theorem dX4_readStatement_372 : decode cX4_readStatement 372 = .ok (.ireturn, 1) := dk_i kdX4_readStatement_369 1 rfl
def ldX4_skipFirst_0 : List (Nat × ClassFile.Instr × Nat) := [(0, .iload_n 1, 1), (1, .ifCond .ne 20, 3), (4, .aload_n 0, 1), (5, .getfield 14, 3), (8, .bipush 6, 2), (10, .aload_n 0, 1), (11, .getfield 14, 3), (14, .getfield 60, 3), (17, .invokevirtual 63, 3), (20, .ireturn, 1), (21, .aload_n 0, 1), (22, .getfield 14, 3), (25, .invokevirtual 119, 3), (28, .iconst 1, 1), (29, .ireturn, 1)]
theorem kdX4_skipFirst_0 : dkO cX4_skipFirst 0 ldX4_skipFirst_0 = true := by decide +kernel
theorem dX4_skipFirst_0 : decode cX4_skipFirst 0 = .ok (.iload_n 1, 1) := dk_i kdX4_skipFirst_0 0 rfl
theorem dX4_skipFirst_1 : decode cX4_skipFirst 1 = .ok (.ifCond .ne 20, 3) := dk_i kdX4_skipFirst_0 1 rfl
theorem dX4_skipFirst_4 : decode cX4_skipFirst 4 = .ok (.aload_n 0, 1) := dk_i kdX4_skipFirst_0 2 rfl
theorem dX4_skipFirst_5 : decode cX4_skipFirst 5 = .ok (.getfield 14, 3) := dk_i kdX4_skipFirst_0 3 rfl
theorem dX4_skipFirst_8 : decode cX4_skipFirst 8 = .ok (.bipush 6, 2) := dk_i kdX4_skipFirst_0 4 rfl
theorem dX4_skipFirst_10 : decode cX4_skipFirst 10 = .ok (.aload_n 0, 1) := dk_i kdX4_skipFirst_0 5 rfl
theorem dX4_skipFirst_11 : decode cX4_skipFirst 11 = .ok (.getfield 14, 3) := dk_i kdX4_skipFirst_0 6 rfl
theorem dX4_skipFirst_14 : decode cX4_skipFirst 14 = .ok (.getfield 60, 3) := dk_i kdX4_skipFirst_0 7 rfl
theorem dX4_skipFirst_17 : decode cX4_skipFirst 17 = .ok (.invokevirtual 63, 3) := dk_i kdX4_skipFirst_0 8 rfl
theorem dX4_skipFirst_20 : decode cX4_skipFirst 20 = .ok (.ireturn, 1) := dk_i kdX4_skipFirst_0 9 rfl
theorem dX4_skipFirst_21 : decode cX4_skipFirst 21 = .ok (.aload_n 0, 1) := dk_i kdX4_skipFirst_0 10 rfl
theorem dX4_skipFirst_22 : decode cX4_skipFirst 22 = .ok (.getfield 14, 3) := dk_i kdX4_skipFirst_0 11 rfl
theorem dX4_skipFirst_25 : decode cX4_skipFirst 25 = .ok (.invokevirtual 119, 3) := dk_i kdX4_skipFirst_0 12 rfl
theorem dX4_skipFirst_28 : decode cX4_skipFirst 28 = .ok (.iconst 1, 1) := dk_i kdX4_skipFirst_0 13 rfl
theorem dX4_skipFirst_29 : decode cX4_skipFirst 29 = .ok (.ireturn, 1) := dk_i kdX4_skipFirst_0 14 rfl
def ldX4_readThing_0 : List (Nat × ClassFile.Instr × Nat) := [(0, .aload_n 0, 1), (1, .invokevirtual 122, 3), (4, .istore_n 1, 1), (5, .iload_n 1, 1), (6, .iconst (-1), 1), (7, .if_icmp .eq 16, 3), (10, .aload_n 0, 1), (11, .getfield 14, 3), (14, .sipush 261, 3), (17, .invokevirtual 53, 3), (20, .ifCond .ne 5, 3), (23, .iconst 0, 1), (24, .ireturn, 1), (25, .aload_n 0, 1), (26, .iconst 0, 1), (27, .bipush 99, 2)]
theorem kdX4_readThing_0 : dkO cX4_readThing 0 ldX4_readThing_0 = true := by decide +kernel
theorem dX4_readThing_0 : decode cX4_readThing 0 = .ok (.aload_n 0, 1) := dk_i kdX4_readThing_0 0 rfl
theorem dX4_readThing_1 : decode cX4_readThing 1 = .ok (.invokevirtual 122, 3) := dk_i kdX4_readThing_0 1 rfl
theorem dX4_readThing_4 : decode cX4_readThing 4 = .ok (.istore_n 1, 1) := dk_i kdX4_readThing_0 2 rfl
theorem dX4_readThing_5 : decode cX4_readThing 5 = .ok (.iload_n 1, 1) := dk_i kdX4_readThing_0 3 rfl
theorem dX4_readThing_6 : decode cX4_readThing 6 = .ok (.iconst (-1), 1) := dk_i kdX4_readThing_0 4 rfl
theorem dX4_readThing_7 : decode cX4_readThing 7 = .ok (.if_icmp .eq 16, 3) := dk_i kdX4_readThing_0 5 rfl
theorem dX4_readThing_10 : decode cX4_readThing 10 = .ok (.aload_n 0, 1) := dk_i kdX4_readThing_0 6 rfl
theorem dX4_readThing_11 : decode cX4_readThing 11 = .ok (.getfield 14, 3) := dk_i kdX4_readThing_0 7 rfl
theorem dX4_readThing_14 : decode cX4_readThing 14 = .ok (.sipush 261, 3) := dk_i kdX4_readThing_0 8 rfl
theorem dX4_readThing_17 : decode cX4_readThing 17 = .ok (.invokevirtual 53, 3) := dk_i kdX4_readThing_0 9 rfl
theorem dX4_readThing_20 : decode cX4_readThing 20 = .ok (.ifCond .ne 5, 3) := dk_i kdX4_readThing_0 10 rfl
theorem dX4_readThing_23 : decode cX4_readThing 23 = .ok (.iconst 0, 1) := dk_i kdX4_readThing_0 11 rfl
theorem dX4_readThing_24 : decode cX4_readThing 24 = .ok (.ireturn, 1) := dk_i kdX4_readThing_0 12 rfl
theorem dX4_readThing_25 : decode cX4_readThing 25 = .ok (.aload_n 0, 1) := dk_i kdX4_readThing_0 13 rfl
theorem dX4_readThing_26 : decode cX4_readThing 26 = .ok (.iconst 0, 1) := dk_i kdX4_readThing_0 14 rfl
theorem dX4_readThing_27 : decode cX4_readThing 27 = .ok (.bipush 99, 2) := dk_i kdX4_readThing_0 15 rfl
def ldX4_readThing_29 : List (Nat × ClassFile.Instr × Nat) := [(29, .invokevirtual 126, 3), (32, .istore_n 2, 1), (33, .iload_n 2, 1), (34, .iconst (-1), 1), (35, .if_icmp .eq 16, 3), (38, .aload_n 0, 1), (39, .getfield 14, 3), (42, .sipush 262, 3), (45, .invokevirtual 53, 3), (48, .ifCond .ne 5, 3), (51, .iconst 0, 1), (52, .ireturn, 1), (53, .aload_n 0, 1), (54, .iconst 1, 1), (55, .bipush 99, 2), (57, .invokevirtual 126, 3)]
theorem kdX4_readThing_29 : dkO cX4_readThing 29 ldX4_readThing_29 = true := by decide +kernel
theorem dX4_readThing_29 : decode cX4_readThing 29 = .ok (.invokevirtual 126, 3) := dk_i kdX4_readThing_29 0 rfl
theorem dX4_readThing_32 : decode cX4_readThing 32 = .ok (.istore_n 2, 1) := dk_i kdX4_readThing_29 1 rfl
theorem dX4_readThing_33 : decode cX4_readThing 33 = .ok (.iload_n 2, 1) := dk_i kdX4_readThing_29 2 rfl
theorem dX4_readThing_34 : decode cX4_readThing 34 = .ok (.iconst (-1), 1) := dk_i kdX4_readThing_29 3 rfl
theorem dX4_readThing_35 : decode cX4_readThing 35 = .ok (.if_icmp .eq 16, 3) := dk_i kdX4_readThing_29 4 rfl
theorem dX4_readThing_38 : decode cX4_readThing 38 = .ok (.aload_n 0, 1) := dk_i kdX4_readThing_29 5 rfl
theorem dX4_readThing_39 : decode cX4_readThing 39 = .ok (.getfield 14, 3) := dk_i kdX4_readThing_29 6 rfl
theorem dX4_readThing_42 : decode cX4_readThing 42 = .ok (.sipush 262, 3) := dk_i kdX4_readThing_29 7 rfl
theorem dX4_readThing_45 : decode cX4_readThing 45 = .ok (.invokevirtual 53, 3) := dk_i kdX4_readThing_29 8 rfl
theorem dX4_readThing_48 : decode cX4_readThing 48 = .ok (.ifCond .ne 5, 3) := dk_i kdX4_readThing_29 9 rfl
theorem dX4_readThing_51 : decode cX4_readThing 51 = .ok (.iconst 0, 1) := dk_i kdX4_readThing_29 10 rfl
theorem dX4_readThing_52 : decode cX4_readThing 52 = .ok (.ireturn, 1) := dk_i kdX4_readThing_29 11 rfl
theorem dX4_readThing_53 : decode cX4_readThing 53 = .ok (.aload_n 0, 1) := dk_i kdX4_readThing_29 12 rfl
theorem dX4_readThing_54 : decode cX4_readThing 54 = .ok (.iconst 1, 1) := dk_i kdX4_readThing_29 13 rfl
theorem dX4_readThing_55 : decode cX4_readThing 55 = .ok (.bipush 99, 2) := dk_i kdX4_readThing_29 14 rfl
theorem dX4_readThing_57 : decode cX4_readThing 57 = .ok (.invokevirtual 126, 3) := dk_i kdX4_readThing_29 15 rfl
def ldX4_readThing_60 : List (Nat × ClassFile.Instr × Nat) := [(60, .istore_n 3, 1), (61, .iload_n 3, 1), (62, .iconst (-1), 1), (63, .if_icmp .ne 5, 3), (66, .iconst 0, 1), (67, .ireturn, 1), (68, .aload_n 0, 1), (69, .getfield 35, 3), (72, .iload_n 1, 1), (73, .iload_n 2, 1), (74, .iload_n 3, 1), (75, .invokevirtual 130, 3), (78, .iconst 1, 1), (79, .ireturn, 1)]
theorem kdX4_readThing_60 : dkO cX4_readThing 60 ldX4_readThing_60 = true := by decide +kernel
theorem dX4_readThing_60 : decode cX4_readThing 60 = .ok (.istore_n 3, 1) := dk_i kdX4_readThing_60 0 rfl
theorem dX4_readThing_61 : decode cX4_readThing 61 = .ok (.iload_n 3, 1) := dk_i kdX4_readThing_60 1 rfl
theorem dX4_readThing_62 : decode cX4_readThing 62 = .ok (.iconst (-1), 1) := dk_i kdX4_readThing_60 2 rfl
theorem dX4_readThing_63 : decode cX4_readThing 63 = .ok (.if_icmp .ne 5, 3) := dk_i kdX4_readThing_60 3 rfl
theorem dX4_readThing_66 : decode cX4_readThing 66 = .ok (.iconst 0, 1) := dk_i kdX4_readThing_60 4 rfl
theorem dX4_readThing_67 : decode cX4_readThing 67 = .ok (.ireturn, 1) := dk_i kdX4_readThing_60 5 rfl
theorem dX4_readThing_68 : decode cX4_readThing 68 = .ok (.aload_n 0, 1) := dk_i kdX4_readThing_60 6 rfl
theorem dX4_readThing_69 : decode cX4_readThing 69 = .ok (.getfield 35, 3) := dk_i kdX4_readThing_60 7 rfl
theorem dX4_readThing_72 : decode cX4_readThing 72 = .ok (.iload_n 1, 1) := dk_i kdX4_readThing_60 8 rfl
theorem dX4_readThing_73 : decode cX4_readThing 73 = .ok (.iload_n 2, 1) := dk_i kdX4_readThing_60 9 rfl
theorem dX4_readThing_74 : decode cX4_readThing 74 = .ok (.iload_n 3, 1) := dk_i kdX4_readThing_60 10 rfl
theorem dX4_readThing_75 : decode cX4_readThing 75 = .ok (.invokevirtual 130, 3) := dk_i kdX4_readThing_60 11 rfl
theorem dX4_readThing_78 : decode cX4_readThing 78 = .ok (.iconst 1, 1) := dk_i kdX4_readThing_60 12 rfl
theorem dX4_readThing_79 : decode cX4_readThing 79 = .ok (.ireturn, 1) := dk_i kdX4_readThing_60 13 rfl
def ldX4_readCorner_0 : List (Nat × ClassFile.Instr × Nat) := [(0, .aload_n 0, 1), (1, .invokevirtual 122, 3), (4, .istore_n 1, 1), (5, .iload_n 1, 1), (6, .iconst (-1), 1), (7, .if_icmp .ne 5, 3), (10, .iconst 0, 1), (11, .ireturn, 1), (12, .aload_n 0, 1), (13, .getfield 35, 3), (16, .iload_n 1, 1), (17, .invokevirtual 134, 3), (20, .iconst 1, 1), (21, .ireturn, 1)]
theorem kdX4_readCorner_0 : dkO cX4_readCorner 0 ldX4_readCorner_0 = true := by decide +kernel
theorem dX4_readCorner_0 : decode cX4_readCorner 0 = .ok (.aload_n 0, 1) := dk_i kdX4_readCorner_0 0 rfl
theorem dX4_readCorner_1 : decode cX4_readCorner 1 = .ok (.invokevirtual 122, 3) := dk_i kdX4_readCorner_0 1 rfl
theorem dX4_readCorner_4 : decode cX4_readCorner 4 = .ok (.istore_n 1, 1) := dk_i kdX4_readCorner_0 2 rfl
theorem dX4_readCorner_5 : decode cX4_readCorner 5 = .ok (.iload_n 1, 1) := dk_i kdX4_readCorner_0 3 rfl
theorem dX4_readCorner_6 : decode cX4_readCorner 6 = .ok (.iconst (-1), 1) := dk_i kdX4_readCorner_0 4 rfl
theorem dX4_readCorner_7 : decode cX4_readCorner 7 = .ok (.if_icmp .ne 5, 3) := dk_i kdX4_readCorner_0 5 rfl
theorem dX4_readCorner_10 : decode cX4_readCorner 10 = .ok (.iconst 0, 1) := dk_i kdX4_readCorner_0 6 rfl
theorem dX4_readCorner_11 : decode cX4_readCorner 11 = .ok (.ireturn, 1) := dk_i kdX4_readCorner_0 7 rfl
theorem dX4_readCorner_12 : decode cX4_readCorner 12 = .ok (.aload_n 0, 1) := dk_i kdX4_readCorner_0 8 rfl
theorem dX4_readCorner_13 : decode cX4_readCorner 13 = .ok (.getfield 35, 3) := dk_i kdX4_readCorner_0 9 rfl
theorem dX4_readCorner_16 : decode cX4_readCorner 16 = .ok (.iload_n 1, 1) := dk_i kdX4_readCorner_0 10 rfl
theorem dX4_readCorner_17 : decode cX4_readCorner 17 = .ok (.invokevirtual 134, 3) := dk_i kdX4_readCorner_0 11 rfl
theorem dX4_readCorner_20 : decode cX4_readCorner 20 = .ok (.iconst 1, 1) := dk_i kdX4_readCorner_0 12 rfl
theorem dX4_readCorner_21 : decode cX4_readCorner 21 = .ok (.ireturn, 1) := dk_i kdX4_readCorner_0 13 rfl
def ldX4_readRoad_0 : List (Nat × ClassFile.Instr × Nat) := [(0, .aload_n 0, 1), (1, .invokevirtual 138, 3), (4, .istore_n 1, 1), (5, .iload_n 1, 1), (6, .iconst (-1), 1), (7, .if_icmp .ne 5, 3), (10, .iconst 0, 1), (11, .ireturn, 1), (12, .aload_n 0, 1), (13, .getfield 14, 3), (16, .invokevirtual 119, 3), (19, .aload_n 0, 1), (20, .getfield 14, 3), (23, .sipush 265, 3), (26, .invokevirtual 53, 3), (29, .ifCond .ne 5, 3)]
theorem kdX4_readRoad_0 : dkO cX4_readRoad 0 ldX4_readRoad_0 = true := by decide +kernel
theorem dX4_readRoad_0 : decode cX4_readRoad 0 = .ok (.aload_n 0, 1) := dk_i kdX4_readRoad_0 0 rfl
theorem dX4_readRoad_1 : decode cX4_readRoad 1 = .ok (.invokevirtual 138, 3) := dk_i kdX4_readRoad_0 1 rfl
theorem dX4_readRoad_4 : decode cX4_readRoad 4 = .ok (.istore_n 1, 1) := dk_i kdX4_readRoad_0 2 rfl
theorem dX4_readRoad_5 : decode cX4_readRoad 5 = .ok (.iload_n 1, 1) := dk_i kdX4_readRoad_0 3 rfl
theorem dX4_readRoad_6 : decode cX4_readRoad 6 = .ok (.iconst (-1), 1) := dk_i kdX4_readRoad_0 4 rfl
theorem dX4_readRoad_7 : decode cX4_readRoad 7 = .ok (.if_icmp .ne 5, 3) := dk_i kdX4_readRoad_0 5 rfl
theorem dX4_readRoad_10 : decode cX4_readRoad 10 = .ok (.iconst 0, 1) := dk_i kdX4_readRoad_0 6 rfl
theorem dX4_readRoad_11 : decode cX4_readRoad 11 = .ok (.ireturn, 1) := dk_i kdX4_readRoad_0 7 rfl
theorem dX4_readRoad_12 : decode cX4_readRoad 12 = .ok (.aload_n 0, 1) := dk_i kdX4_readRoad_0 8 rfl
theorem dX4_readRoad_13 : decode cX4_readRoad 13 = .ok (.getfield 14, 3) := dk_i kdX4_readRoad_0 9 rfl
theorem dX4_readRoad_16 : decode cX4_readRoad 16 = .ok (.invokevirtual 119, 3) := dk_i kdX4_readRoad_0 10 rfl
theorem dX4_readRoad_19 : decode cX4_readRoad 19 = .ok (.aload_n 0, 1) := dk_i kdX4_readRoad_0 11 rfl
theorem dX4_readRoad_20 : decode cX4_readRoad 20 = .ok (.getfield 14, 3) := dk_i kdX4_readRoad_0 12 rfl
theorem dX4_readRoad_23 : decode cX4_readRoad 23 = .ok (.sipush 265, 3) := dk_i kdX4_readRoad_0 13 rfl
theorem dX4_readRoad_26 : decode cX4_readRoad 26 = .ok (.invokevirtual 53, 3) := dk_i kdX4_readRoad_0 14 rfl
theorem dX4_readRoad_29 : decode cX4_readRoad 29 = .ok (.ifCond .ne 5, 3) := dk_i kdX4_readRoad_0 15 rfl
def ldX4_readRoad_32 : List (Nat × ClassFile.Instr × Nat) := [(32, .iconst 0, 1), (33, .ireturn, 1), (34, .aload_n 0, 1), (35, .invokevirtual 138, 3), (38, .istore_n 2, 1), (39, .iload_n 2, 1), (40, .iconst (-1), 1), (41, .if_icmp .ne 5, 3), (44, .iconst 0, 1), (45, .ireturn, 1), (46, .iload_n 2, 1), (47, .iload_n 1, 1), (48, .if_icmp .eq 15, 3), (51, .aload_n 0, 1), (52, .getfield 35, 3), (55, .iload_n 1, 1)]
theorem kdX4_readRoad_32 : dkO cX4_readRoad 32 ldX4_readRoad_32 = true := by decide +kernel
theorem dX4_readRoad_32 : decode cX4_readRoad 32 = .ok (.iconst 0, 1) := dk_i kdX4_readRoad_32 0 rfl
theorem dX4_readRoad_33 : decode cX4_readRoad 33 = .ok (.ireturn, 1) := dk_i kdX4_readRoad_32 1 rfl
theorem dX4_readRoad_34 : decode cX4_readRoad 34 = .ok (.aload_n 0, 1) := dk_i kdX4_readRoad_32 2 rfl
theorem dX4_readRoad_35 : decode cX4_readRoad 35 = .ok (.invokevirtual 138, 3) := dk_i kdX4_readRoad_32 3 rfl
theorem dX4_readRoad_38 : decode cX4_readRoad 38 = .ok (.istore_n 2, 1) := dk_i kdX4_readRoad_32 4 rfl
theorem dX4_readRoad_39 : decode cX4_readRoad 39 = .ok (.iload_n 2, 1) := dk_i kdX4_readRoad_32 5 rfl
theorem dX4_readRoad_40 : decode cX4_readRoad 40 = .ok (.iconst (-1), 1) := dk_i kdX4_readRoad_32 6 rfl
theorem dX4_readRoad_41 : decode cX4_readRoad 41 = .ok (.if_icmp .ne 5, 3) := dk_i kdX4_readRoad_32 7 rfl
theorem dX4_readRoad_44 : decode cX4_readRoad 44 = .ok (.iconst 0, 1) := dk_i kdX4_readRoad_32 8 rfl
theorem dX4_readRoad_45 : decode cX4_readRoad 45 = .ok (.ireturn, 1) := dk_i kdX4_readRoad_32 9 rfl
theorem dX4_readRoad_46 : decode cX4_readRoad 46 = .ok (.iload_n 2, 1) := dk_i kdX4_readRoad_32 10 rfl
theorem dX4_readRoad_47 : decode cX4_readRoad 47 = .ok (.iload_n 1, 1) := dk_i kdX4_readRoad_32 11 rfl
theorem dX4_readRoad_48 : decode cX4_readRoad 48 = .ok (.if_icmp .eq 15, 3) := dk_i kdX4_readRoad_32 12 rfl
theorem dX4_readRoad_51 : decode cX4_readRoad 51 = .ok (.aload_n 0, 1) := dk_i kdX4_readRoad_32 13 rfl
theorem dX4_readRoad_52 : decode cX4_readRoad 52 = .ok (.getfield 35, 3) := dk_i kdX4_readRoad_32 14 rfl
theorem dX4_readRoad_55 : decode cX4_readRoad 55 = .ok (.iload_n 1, 1) := dk_i kdX4_readRoad_32 15 rfl
def ldX4_readRoad_56 : List (Nat × ClassFile.Instr × Nat) := [(56, .iload_n 2, 1), (57, .invokevirtual 141, 3), (60, .ifCond .eq 19, 3), (63, .aload_n 0, 1), (64, .getfield 14, 3), (67, .iconst 3, 1), (68, .aload_n 0, 1), (69, .getfield 14, 3), (72, .getfield 60, 3), (75, .invokevirtual 63, 3), (78, .ireturn, 1), (79, .aload_n 0, 1), (80, .getfield 14, 3), (83, .invokevirtual 119, 3), (86, .aload_n 0, 1), (87, .getfield 14, 3)]
theorem kdX4_readRoad_56 : dkO cX4_readRoad 56 ldX4_readRoad_56 = true := by decide +kernel
theorem dX4_readRoad_56 : decode cX4_readRoad 56 = .ok (.iload_n 2, 1) := dk_i kdX4_readRoad_56 0 rfl
theorem dX4_readRoad_57 : decode cX4_readRoad 57 = .ok (.invokevirtual 141, 3) := dk_i kdX4_readRoad_56 1 rfl
theorem dX4_readRoad_60 : decode cX4_readRoad 60 = .ok (.ifCond .eq 19, 3) := dk_i kdX4_readRoad_56 2 rfl
theorem dX4_readRoad_63 : decode cX4_readRoad 63 = .ok (.aload_n 0, 1) := dk_i kdX4_readRoad_56 3 rfl
theorem dX4_readRoad_64 : decode cX4_readRoad 64 = .ok (.getfield 14, 3) := dk_i kdX4_readRoad_56 4 rfl
theorem dX4_readRoad_67 : decode cX4_readRoad 67 = .ok (.iconst 3, 1) := dk_i kdX4_readRoad_56 5 rfl
theorem dX4_readRoad_68 : decode cX4_readRoad 68 = .ok (.aload_n 0, 1) := dk_i kdX4_readRoad_56 6 rfl
theorem dX4_readRoad_69 : decode cX4_readRoad 69 = .ok (.getfield 14, 3) := dk_i kdX4_readRoad_56 7 rfl
theorem dX4_readRoad_72 : decode cX4_readRoad 72 = .ok (.getfield 60, 3) := dk_i kdX4_readRoad_56 8 rfl
theorem dX4_readRoad_75 : decode cX4_readRoad 75 = .ok (.invokevirtual 63, 3) := dk_i kdX4_readRoad_56 9 rfl
theorem dX4_readRoad_78 : decode cX4_readRoad 78 = .ok (.ireturn, 1) := dk_i kdX4_readRoad_56 10 rfl
theorem dX4_readRoad_79 : decode cX4_readRoad 79 = .ok (.aload_n 0, 1) := dk_i kdX4_readRoad_56 11 rfl
theorem dX4_readRoad_80 : decode cX4_readRoad 80 = .ok (.getfield 14, 3) := dk_i kdX4_readRoad_56 12 rfl
theorem dX4_readRoad_83 : decode cX4_readRoad 83 = .ok (.invokevirtual 119, 3) := dk_i kdX4_readRoad_56 13 rfl
theorem dX4_readRoad_86 : decode cX4_readRoad 86 = .ok (.aload_n 0, 1) := dk_i kdX4_readRoad_56 14 rfl
theorem dX4_readRoad_87 : decode cX4_readRoad 87 = .ok (.getfield 14, 3) := dk_i kdX4_readRoad_56 15 rfl
def ldX4_readRoad_90 : List (Nat × ClassFile.Instr × Nat) := [(90, .sipush 266, 3), (93, .invokevirtual 53, 3), (96, .ifCond .eq 13, 3), (99, .aload_n 0, 1), (100, .iconst 1, 1), (101, .bipush 30, 2), (103, .invokevirtual 126, 3), (106, .goto 4, 3), (109, .iconst (-1), 1), (110, .istore_n 3, 1), (111, .iload_n 3, 1), (112, .iconst (-1), 1), (113, .if_icmp .ne 5, 3), (116, .iconst 0, 1), (117, .ireturn, 1), (118, .aload_n 0, 1)]
theorem kdX4_readRoad_90 : dkO cX4_readRoad 90 ldX4_readRoad_90 = true := by decide +kernel
theorem dX4_readRoad_90 : decode cX4_readRoad 90 = .ok (.sipush 266, 3) := dk_i kdX4_readRoad_90 0 rfl
theorem dX4_readRoad_93 : decode cX4_readRoad 93 = .ok (.invokevirtual 53, 3) := dk_i kdX4_readRoad_90 1 rfl
theorem dX4_readRoad_96 : decode cX4_readRoad 96 = .ok (.ifCond .eq 13, 3) := dk_i kdX4_readRoad_90 2 rfl
theorem dX4_readRoad_99 : decode cX4_readRoad 99 = .ok (.aload_n 0, 1) := dk_i kdX4_readRoad_90 3 rfl
theorem dX4_readRoad_100 : decode cX4_readRoad 100 = .ok (.iconst 1, 1) := dk_i kdX4_readRoad_90 4 rfl
theorem dX4_readRoad_101 : decode cX4_readRoad 101 = .ok (.bipush 30, 2) := dk_i kdX4_readRoad_90 5 rfl
theorem dX4_readRoad_103 : decode cX4_readRoad 103 = .ok (.invokevirtual 126, 3) := dk_i kdX4_readRoad_90 6 rfl
theorem dX4_readRoad_106 : decode cX4_readRoad 106 = .ok (.goto 4, 3) := dk_i kdX4_readRoad_90 7 rfl
theorem dX4_readRoad_109 : decode cX4_readRoad 109 = .ok (.iconst (-1), 1) := dk_i kdX4_readRoad_90 8 rfl
theorem dX4_readRoad_110 : decode cX4_readRoad 110 = .ok (.istore_n 3, 1) := dk_i kdX4_readRoad_90 9 rfl
theorem dX4_readRoad_111 : decode cX4_readRoad 111 = .ok (.iload_n 3, 1) := dk_i kdX4_readRoad_90 10 rfl
theorem dX4_readRoad_112 : decode cX4_readRoad 112 = .ok (.iconst (-1), 1) := dk_i kdX4_readRoad_90 11 rfl
theorem dX4_readRoad_113 : decode cX4_readRoad 113 = .ok (.if_icmp .ne 5, 3) := dk_i kdX4_readRoad_90 12 rfl
theorem dX4_readRoad_116 : decode cX4_readRoad 116 = .ok (.iconst 0, 1) := dk_i kdX4_readRoad_90 13 rfl
theorem dX4_readRoad_117 : decode cX4_readRoad 117 = .ok (.ireturn, 1) := dk_i kdX4_readRoad_90 14 rfl
theorem dX4_readRoad_118 : decode cX4_readRoad 118 = .ok (.aload_n 0, 1) := dk_i kdX4_readRoad_90 15 rfl
def ldX4_readRoad_119 : List (Nat × ClassFile.Instr × Nat) := [(119, .getfield 35, 3), (122, .iload_n 1, 1), (123, .iload_n 2, 1), (124, .iload_n 3, 1), (125, .invokevirtual 144, 3), (128, .iconst 1, 1), (129, .ireturn, 1)]
theorem kdX4_readRoad_119 : dkO cX4_readRoad 119 ldX4_readRoad_119 = true := by decide +kernel
theorem dX4_readRoad_119 : decode cX4_readRoad 119 = .ok (.getfield 35, 3) := dk_i kdX4_readRoad_119 0 rfl
theorem dX4_readRoad_122 : decode cX4_readRoad 122 = .ok (.iload_n 1, 1) := dk_i kdX4_readRoad_119 1 rfl
theorem dX4_readRoad_123 : decode cX4_readRoad 123 = .ok (.iload_n 2, 1) := dk_i kdX4_readRoad_119 2 rfl
theorem dX4_readRoad_124 : decode cX4_readRoad 124 = .ok (.iload_n 3, 1) := dk_i kdX4_readRoad_119 3 rfl
theorem dX4_readRoad_125 : decode cX4_readRoad 125 = .ok (.invokevirtual 144, 3) := dk_i kdX4_readRoad_119 4 rfl
theorem dX4_readRoad_128 : decode cX4_readRoad 128 = .ok (.iconst 1, 1) := dk_i kdX4_readRoad_119 5 rfl
theorem dX4_readRoad_129 : decode cX4_readRoad 129 = .ok (.ireturn, 1) := dk_i kdX4_readRoad_119 6 rfl
def ldX4_readPalm_0 : List (Nat × ClassFile.Instr × Nat) := [(0, .aload_n 0, 1), (1, .invokevirtual 138, 3), (4, .istore_n 1, 1), (5, .iload_n 1, 1), (6, .iconst (-1), 1), (7, .if_icmp .ne 5, 3), (10, .iconst 0, 1), (11, .ireturn, 1), (12, .aload_n 0, 1), (13, .getfield 35, 3), (16, .getfield 147, 3), (19, .iload_n 1, 1), (20, .iaload, 1), (21, .iconst (-1), 1), (22, .if_icmp .eq 19, 3), (25, .aload_n 0, 1)]
theorem kdX4_readPalm_0 : dkO cX4_readPalm 0 ldX4_readPalm_0 = true := by decide +kernel
theorem dX4_readPalm_0 : decode cX4_readPalm 0 = .ok (.aload_n 0, 1) := dk_i kdX4_readPalm_0 0 rfl
theorem dX4_readPalm_1 : decode cX4_readPalm 1 = .ok (.invokevirtual 138, 3) := dk_i kdX4_readPalm_0 1 rfl
theorem dX4_readPalm_4 : decode cX4_readPalm 4 = .ok (.istore_n 1, 1) := dk_i kdX4_readPalm_0 2 rfl
theorem dX4_readPalm_5 : decode cX4_readPalm 5 = .ok (.iload_n 1, 1) := dk_i kdX4_readPalm_0 3 rfl
theorem dX4_readPalm_6 : decode cX4_readPalm 6 = .ok (.iconst (-1), 1) := dk_i kdX4_readPalm_0 4 rfl
theorem dX4_readPalm_7 : decode cX4_readPalm 7 = .ok (.if_icmp .ne 5, 3) := dk_i kdX4_readPalm_0 5 rfl
theorem dX4_readPalm_10 : decode cX4_readPalm 10 = .ok (.iconst 0, 1) := dk_i kdX4_readPalm_0 6 rfl
theorem dX4_readPalm_11 : decode cX4_readPalm 11 = .ok (.ireturn, 1) := dk_i kdX4_readPalm_0 7 rfl
theorem dX4_readPalm_12 : decode cX4_readPalm 12 = .ok (.aload_n 0, 1) := dk_i kdX4_readPalm_0 8 rfl
theorem dX4_readPalm_13 : decode cX4_readPalm 13 = .ok (.getfield 35, 3) := dk_i kdX4_readPalm_0 9 rfl
theorem dX4_readPalm_16 : decode cX4_readPalm 16 = .ok (.getfield 147, 3) := dk_i kdX4_readPalm_0 10 rfl
theorem dX4_readPalm_19 : decode cX4_readPalm 19 = .ok (.iload_n 1, 1) := dk_i kdX4_readPalm_0 11 rfl
theorem dX4_readPalm_20 : decode cX4_readPalm 20 = .ok (.iaload, 1) := dk_i kdX4_readPalm_0 12 rfl
theorem dX4_readPalm_21 : decode cX4_readPalm 21 = .ok (.iconst (-1), 1) := dk_i kdX4_readPalm_0 13 rfl
theorem dX4_readPalm_22 : decode cX4_readPalm 22 = .ok (.if_icmp .eq 19, 3) := dk_i kdX4_readPalm_0 14 rfl
theorem dX4_readPalm_25 : decode cX4_readPalm 25 = .ok (.aload_n 0, 1) := dk_i kdX4_readPalm_0 15 rfl
def ldX4_readPalm_26 : List (Nat × ClassFile.Instr × Nat) := [(26, .getfield 14, 3), (29, .iconst 3, 1), (30, .aload_n 0, 1), (31, .getfield 14, 3), (34, .getfield 60, 3), (37, .invokevirtual 63, 3), (40, .ireturn, 1), (41, .aload_n 0, 1), (42, .getfield 14, 3), (45, .invokevirtual 119, 3), (48, .aload_n 0, 1), (49, .getfield 14, 3), (52, .sipush 268, 3), (55, .invokevirtual 53, 3), (58, .ifCond .ne 5, 3), (61, .iconst 0, 1)]
theorem kdX4_readPalm_26 : dkO cX4_readPalm 26 ldX4_readPalm_26 = true := by decide +kernel
theorem dX4_readPalm_26 : decode cX4_readPalm 26 = .ok (.getfield 14, 3) := dk_i kdX4_readPalm_26 0 rfl
theorem dX4_readPalm_29 : decode cX4_readPalm 29 = .ok (.iconst 3, 1) := dk_i kdX4_readPalm_26 1 rfl
theorem dX4_readPalm_30 : decode cX4_readPalm 30 = .ok (.aload_n 0, 1) := dk_i kdX4_readPalm_26 2 rfl
theorem dX4_readPalm_31 : decode cX4_readPalm 31 = .ok (.getfield 14, 3) := dk_i kdX4_readPalm_26 3 rfl
theorem dX4_readPalm_34 : decode cX4_readPalm 34 = .ok (.getfield 60, 3) := dk_i kdX4_readPalm_26 4 rfl
theorem dX4_readPalm_37 : decode cX4_readPalm 37 = .ok (.invokevirtual 63, 3) := dk_i kdX4_readPalm_26 5 rfl
theorem dX4_readPalm_40 : decode cX4_readPalm 40 = .ok (.ireturn, 1) := dk_i kdX4_readPalm_26 6 rfl
theorem dX4_readPalm_41 : decode cX4_readPalm 41 = .ok (.aload_n 0, 1) := dk_i kdX4_readPalm_26 7 rfl
theorem dX4_readPalm_42 : decode cX4_readPalm 42 = .ok (.getfield 14, 3) := dk_i kdX4_readPalm_26 8 rfl
theorem dX4_readPalm_45 : decode cX4_readPalm 45 = .ok (.invokevirtual 119, 3) := dk_i kdX4_readPalm_26 9 rfl
theorem dX4_readPalm_48 : decode cX4_readPalm 48 = .ok (.aload_n 0, 1) := dk_i kdX4_readPalm_26 10 rfl
theorem dX4_readPalm_49 : decode cX4_readPalm 49 = .ok (.getfield 14, 3) := dk_i kdX4_readPalm_26 11 rfl
theorem dX4_readPalm_52 : decode cX4_readPalm 52 = .ok (.sipush 268, 3) := dk_i kdX4_readPalm_26 12 rfl
theorem dX4_readPalm_55 : decode cX4_readPalm 55 = .ok (.invokevirtual 53, 3) := dk_i kdX4_readPalm_26 13 rfl
theorem dX4_readPalm_58 : decode cX4_readPalm 58 = .ok (.ifCond .ne 5, 3) := dk_i kdX4_readPalm_26 14 rfl
theorem dX4_readPalm_61 : decode cX4_readPalm 61 = .ok (.iconst 0, 1) := dk_i kdX4_readPalm_26 15 rfl
def ldX4_readPalm_62 : List (Nat × ClassFile.Instr × Nat) := [(62, .ireturn, 1), (63, .aload_n 0, 1), (64, .getfield 14, 3), (67, .getfield 45, 3), (70, .sipush 257, 3), (73, .if_icmp .eq 11, 3), (76, .aload_n 0, 1), (77, .getfield 14, 3), (80, .invokevirtual 116, 3), (83, .ireturn, 1), (84, .aload_n 0, 1), (85, .getfield 35, 3), (88, .aload_n 0, 1), (89, .getfield 14, 3), (92, .getfield 151, 3), (95, .invokevirtual 154, 3)]
theorem kdX4_readPalm_62 : dkO cX4_readPalm 62 ldX4_readPalm_62 = true := by decide +kernel
theorem dX4_readPalm_62 : decode cX4_readPalm 62 = .ok (.ireturn, 1) := dk_i kdX4_readPalm_62 0 rfl
theorem dX4_readPalm_63 : decode cX4_readPalm 63 = .ok (.aload_n 0, 1) := dk_i kdX4_readPalm_62 1 rfl
theorem dX4_readPalm_64 : decode cX4_readPalm 64 = .ok (.getfield 14, 3) := dk_i kdX4_readPalm_62 2 rfl
theorem dX4_readPalm_67 : decode cX4_readPalm 67 = .ok (.getfield 45, 3) := dk_i kdX4_readPalm_62 3 rfl
theorem dX4_readPalm_70 : decode cX4_readPalm 70 = .ok (.sipush 257, 3) := dk_i kdX4_readPalm_62 4 rfl
theorem dX4_readPalm_73 : decode cX4_readPalm 73 = .ok (.if_icmp .eq 11, 3) := dk_i kdX4_readPalm_62 5 rfl
theorem dX4_readPalm_76 : decode cX4_readPalm 76 = .ok (.aload_n 0, 1) := dk_i kdX4_readPalm_62 6 rfl
theorem dX4_readPalm_77 : decode cX4_readPalm 77 = .ok (.getfield 14, 3) := dk_i kdX4_readPalm_62 7 rfl
theorem dX4_readPalm_80 : decode cX4_readPalm 80 = .ok (.invokevirtual 116, 3) := dk_i kdX4_readPalm_62 8 rfl
theorem dX4_readPalm_83 : decode cX4_readPalm 83 = .ok (.ireturn, 1) := dk_i kdX4_readPalm_62 9 rfl
theorem dX4_readPalm_84 : decode cX4_readPalm 84 = .ok (.aload_n 0, 1) := dk_i kdX4_readPalm_62 10 rfl
theorem dX4_readPalm_85 : decode cX4_readPalm 85 = .ok (.getfield 35, 3) := dk_i kdX4_readPalm_62 11 rfl
theorem dX4_readPalm_88 : decode cX4_readPalm 88 = .ok (.aload_n 0, 1) := dk_i kdX4_readPalm_62 12 rfl
theorem dX4_readPalm_89 : decode cX4_readPalm 89 = .ok (.getfield 14, 3) := dk_i kdX4_readPalm_62 13 rfl
theorem dX4_readPalm_92 : decode cX4_readPalm 92 = .ok (.getfield 151, 3) := dk_i kdX4_readPalm_62 14 rfl
theorem dX4_readPalm_95 : decode cX4_readPalm 95 = .ok (.invokevirtual 154, 3) := dk_i kdX4_readPalm_62 15 rfl
def ldX4_readPalm_98 : List (Nat × ClassFile.Instr × Nat) := [(98, .istore_n 2, 1), (99, .iload_n 2, 1), (100, .iconst (-1), 1), (101, .if_icmp .ne 19, 3), (104, .aload_n 0, 1), (105, .getfield 14, 3), (108, .iconst 3, 1), (109, .aload_n 0, 1), (110, .getfield 14, 3), (113, .getfield 60, 3), (116, .invokevirtual 63, 3), (119, .ireturn, 1), (120, .aload_n 0, 1), (121, .getfield 14, 3), (124, .invokevirtual 119, 3), (127, .aload_n 0, 1)]
theorem kdX4_readPalm_98 : dkO cX4_readPalm 98 ldX4_readPalm_98 = true := by decide +kernel
theorem dX4_readPalm_98 : decode cX4_readPalm 98 = .ok (.istore_n 2, 1) := dk_i kdX4_readPalm_98 0 rfl
theorem dX4_readPalm_99 : decode cX4_readPalm 99 = .ok (.iload_n 2, 1) := dk_i kdX4_readPalm_98 1 rfl
theorem dX4_readPalm_100 : decode cX4_readPalm 100 = .ok (.iconst (-1), 1) := dk_i kdX4_readPalm_98 2 rfl
theorem dX4_readPalm_101 : decode cX4_readPalm 101 = .ok (.if_icmp .ne 19, 3) := dk_i kdX4_readPalm_98 3 rfl
theorem dX4_readPalm_104 : decode cX4_readPalm 104 = .ok (.aload_n 0, 1) := dk_i kdX4_readPalm_98 4 rfl
theorem dX4_readPalm_105 : decode cX4_readPalm 105 = .ok (.getfield 14, 3) := dk_i kdX4_readPalm_98 5 rfl
theorem dX4_readPalm_108 : decode cX4_readPalm 108 = .ok (.iconst 3, 1) := dk_i kdX4_readPalm_98 6 rfl
theorem dX4_readPalm_109 : decode cX4_readPalm 109 = .ok (.aload_n 0, 1) := dk_i kdX4_readPalm_98 7 rfl
theorem dX4_readPalm_110 : decode cX4_readPalm 110 = .ok (.getfield 14, 3) := dk_i kdX4_readPalm_98 8 rfl
theorem dX4_readPalm_113 : decode cX4_readPalm 113 = .ok (.getfield 60, 3) := dk_i kdX4_readPalm_98 9 rfl
theorem dX4_readPalm_116 : decode cX4_readPalm 116 = .ok (.invokevirtual 63, 3) := dk_i kdX4_readPalm_98 10 rfl
theorem dX4_readPalm_119 : decode cX4_readPalm 119 = .ok (.ireturn, 1) := dk_i kdX4_readPalm_98 11 rfl
theorem dX4_readPalm_120 : decode cX4_readPalm 120 = .ok (.aload_n 0, 1) := dk_i kdX4_readPalm_98 12 rfl
theorem dX4_readPalm_121 : decode cX4_readPalm 121 = .ok (.getfield 14, 3) := dk_i kdX4_readPalm_98 13 rfl
theorem dX4_readPalm_124 : decode cX4_readPalm 124 = .ok (.invokevirtual 119, 3) := dk_i kdX4_readPalm_98 14 rfl
theorem dX4_readPalm_127 : decode cX4_readPalm 127 = .ok (.aload_n 0, 1) := dk_i kdX4_readPalm_98 15 rfl
def ldX4_readPalm_128 : List (Nat × ClassFile.Instr × Nat) := [(128, .getfield 35, 3), (131, .getfield 147, 3), (134, .iload_n 1, 1), (135, .iload_n 2, 1), (136, .iastore, 1), (137, .iconst 1, 1), (138, .ireturn, 1)]
theorem kdX4_readPalm_128 : dkO cX4_readPalm 128 ldX4_readPalm_128 = true := by decide +kernel
theorem dX4_readPalm_128 : decode cX4_readPalm 128 = .ok (.getfield 35, 3) := dk_i kdX4_readPalm_128 0 rfl
theorem dX4_readPalm_131 : decode cX4_readPalm 131 = .ok (.getfield 147, 3) := dk_i kdX4_readPalm_128 1 rfl
theorem dX4_readPalm_134 : decode cX4_readPalm 134 = .ok (.iload_n 1, 1) := dk_i kdX4_readPalm_128 2 rfl
theorem dX4_readPalm_135 : decode cX4_readPalm 135 = .ok (.iload_n 2, 1) := dk_i kdX4_readPalm_128 3 rfl
theorem dX4_readPalm_136 : decode cX4_readPalm 136 = .ok (.iastore, 1) := dk_i kdX4_readPalm_128 4 rfl
theorem dX4_readPalm_137 : decode cX4_readPalm 137 = .ok (.iconst 1, 1) := dk_i kdX4_readPalm_128 5 rfl
theorem dX4_readPalm_138 : decode cX4_readPalm 138 = .ok (.ireturn, 1) := dk_i kdX4_readPalm_128 6 rfl
def ldX4_readDoing_0 : List (Nat × ClassFile.Instr × Nat) := [(0, .aload_n 0, 1), (1, .invokevirtual 122, 3), (4, .istore_n 1, 1), (5, .iload_n 1, 1), (6, .iconst (-1), 1), (7, .if_icmp .eq 16, 3), (10, .aload_n 0, 1), (11, .getfield 14, 3), (14, .sipush 270, 3), (17, .invokevirtual 53, 3), (20, .ifCond .ne 5, 3), (23, .iconst 0, 1), (24, .ireturn, 1), (25, .aload_n 0, 1), (26, .invokevirtual 138, 3), (29, .istore_n 2, 1)]
theorem kdX4_readDoing_0 : dkO cX4_readDoing 0 ldX4_readDoing_0 = true := by decide +kernel
theorem dX4_readDoing_0 : decode cX4_readDoing 0 = .ok (.aload_n 0, 1) := dk_i kdX4_readDoing_0 0 rfl
theorem dX4_readDoing_1 : decode cX4_readDoing 1 = .ok (.invokevirtual 122, 3) := dk_i kdX4_readDoing_0 1 rfl
theorem dX4_readDoing_4 : decode cX4_readDoing 4 = .ok (.istore_n 1, 1) := dk_i kdX4_readDoing_0 2 rfl
theorem dX4_readDoing_5 : decode cX4_readDoing 5 = .ok (.iload_n 1, 1) := dk_i kdX4_readDoing_0 3 rfl
theorem dX4_readDoing_6 : decode cX4_readDoing 6 = .ok (.iconst (-1), 1) := dk_i kdX4_readDoing_0 4 rfl
theorem dX4_readDoing_7 : decode cX4_readDoing 7 = .ok (.if_icmp .eq 16, 3) := dk_i kdX4_readDoing_0 5 rfl
theorem dX4_readDoing_10 : decode cX4_readDoing 10 = .ok (.aload_n 0, 1) := dk_i kdX4_readDoing_0 6 rfl
theorem dX4_readDoing_11 : decode cX4_readDoing 11 = .ok (.getfield 14, 3) := dk_i kdX4_readDoing_0 7 rfl
theorem dX4_readDoing_14 : decode cX4_readDoing 14 = .ok (.sipush 270, 3) := dk_i kdX4_readDoing_0 8 rfl
theorem dX4_readDoing_17 : decode cX4_readDoing 17 = .ok (.invokevirtual 53, 3) := dk_i kdX4_readDoing_0 9 rfl
theorem dX4_readDoing_20 : decode cX4_readDoing 20 = .ok (.ifCond .ne 5, 3) := dk_i kdX4_readDoing_0 10 rfl
theorem dX4_readDoing_23 : decode cX4_readDoing 23 = .ok (.iconst 0, 1) := dk_i kdX4_readDoing_0 11 rfl
theorem dX4_readDoing_24 : decode cX4_readDoing 24 = .ok (.ireturn, 1) := dk_i kdX4_readDoing_0 12 rfl
theorem dX4_readDoing_25 : decode cX4_readDoing 25 = .ok (.aload_n 0, 1) := dk_i kdX4_readDoing_0 13 rfl
theorem dX4_readDoing_26 : decode cX4_readDoing 26 = .ok (.invokevirtual 138, 3) := dk_i kdX4_readDoing_0 14 rfl
theorem dX4_readDoing_29 : decode cX4_readDoing 29 = .ok (.istore_n 2, 1) := dk_i kdX4_readDoing_0 15 rfl
def ldX4_readDoing_30 : List (Nat × ClassFile.Instr × Nat) := [(30, .iload_n 2, 1), (31, .iconst (-1), 1), (32, .if_icmp .ne 5, 3), (35, .iconst 0, 1), (36, .ireturn, 1), (37, .aload_n 0, 1), (38, .getfield 14, 3), (41, .invokevirtual 119, 3), (44, .aload_n 0, 1), (45, .getfield 14, 3), (48, .sipush 271, 3), (51, .invokevirtual 53, 3), (54, .ifCond .eq 13, 3), (57, .aload_n 0, 1), (58, .iconst 0, 1), (59, .bipush 23, 2)]
theorem kdX4_readDoing_30 : dkO cX4_readDoing 30 ldX4_readDoing_30 = true := by decide +kernel
theorem dX4_readDoing_30 : decode cX4_readDoing 30 = .ok (.iload_n 2, 1) := dk_i kdX4_readDoing_30 0 rfl
theorem dX4_readDoing_31 : decode cX4_readDoing 31 = .ok (.iconst (-1), 1) := dk_i kdX4_readDoing_30 1 rfl
theorem dX4_readDoing_32 : decode cX4_readDoing 32 = .ok (.if_icmp .ne 5, 3) := dk_i kdX4_readDoing_30 2 rfl
theorem dX4_readDoing_35 : decode cX4_readDoing 35 = .ok (.iconst 0, 1) := dk_i kdX4_readDoing_30 3 rfl
theorem dX4_readDoing_36 : decode cX4_readDoing 36 = .ok (.ireturn, 1) := dk_i kdX4_readDoing_30 4 rfl
theorem dX4_readDoing_37 : decode cX4_readDoing 37 = .ok (.aload_n 0, 1) := dk_i kdX4_readDoing_30 5 rfl
theorem dX4_readDoing_38 : decode cX4_readDoing 38 = .ok (.getfield 14, 3) := dk_i kdX4_readDoing_30 6 rfl
theorem dX4_readDoing_41 : decode cX4_readDoing 41 = .ok (.invokevirtual 119, 3) := dk_i kdX4_readDoing_30 7 rfl
theorem dX4_readDoing_44 : decode cX4_readDoing 44 = .ok (.aload_n 0, 1) := dk_i kdX4_readDoing_30 8 rfl
theorem dX4_readDoing_45 : decode cX4_readDoing 45 = .ok (.getfield 14, 3) := dk_i kdX4_readDoing_30 9 rfl
theorem dX4_readDoing_48 : decode cX4_readDoing 48 = .ok (.sipush 271, 3) := dk_i kdX4_readDoing_30 10 rfl
theorem dX4_readDoing_51 : decode cX4_readDoing 51 = .ok (.invokevirtual 53, 3) := dk_i kdX4_readDoing_30 11 rfl
theorem dX4_readDoing_54 : decode cX4_readDoing 54 = .ok (.ifCond .eq 13, 3) := dk_i kdX4_readDoing_30 12 rfl
theorem dX4_readDoing_57 : decode cX4_readDoing 57 = .ok (.aload_n 0, 1) := dk_i kdX4_readDoing_30 13 rfl
theorem dX4_readDoing_58 : decode cX4_readDoing 58 = .ok (.iconst 0, 1) := dk_i kdX4_readDoing_30 14 rfl
theorem dX4_readDoing_59 : decode cX4_readDoing 59 = .ok (.bipush 23, 2) := dk_i kdX4_readDoing_30 15 rfl
def ldX4_readDoing_61 : List (Nat × ClassFile.Instr × Nat) := [(61, .invokevirtual 126, 3), (64, .goto 4, 3), (67, .iconst (-1), 1), (68, .istore_n 3, 1), (69, .iload_n 3, 1), (70, .iconst (-1), 1), (71, .if_icmp .ne 5, 3), (74, .iconst 0, 1), (75, .ireturn, 1), (76, .aload_n 0, 1), (77, .getfield 35, 3), (80, .iload_n 1, 1), (81, .iload_n 2, 1), (82, .iload_n 3, 1), (83, .invokevirtual 158, 3), (86, .iconst 1, 1)]
theorem kdX4_readDoing_61 : dkO cX4_readDoing 61 ldX4_readDoing_61 = true := by decide +kernel
theorem dX4_readDoing_61 : decode cX4_readDoing 61 = .ok (.invokevirtual 126, 3) := dk_i kdX4_readDoing_61 0 rfl
theorem dX4_readDoing_64 : decode cX4_readDoing 64 = .ok (.goto 4, 3) := dk_i kdX4_readDoing_61 1 rfl
theorem dX4_readDoing_67 : decode cX4_readDoing 67 = .ok (.iconst (-1), 1) := dk_i kdX4_readDoing_61 2 rfl
theorem dX4_readDoing_68 : decode cX4_readDoing 68 = .ok (.istore_n 3, 1) := dk_i kdX4_readDoing_61 3 rfl
theorem dX4_readDoing_69 : decode cX4_readDoing 69 = .ok (.iload_n 3, 1) := dk_i kdX4_readDoing_61 4 rfl
theorem dX4_readDoing_70 : decode cX4_readDoing 70 = .ok (.iconst (-1), 1) := dk_i kdX4_readDoing_61 5 rfl
theorem dX4_readDoing_71 : decode cX4_readDoing 71 = .ok (.if_icmp .ne 5, 3) := dk_i kdX4_readDoing_61 6 rfl
theorem dX4_readDoing_74 : decode cX4_readDoing 74 = .ok (.iconst 0, 1) := dk_i kdX4_readDoing_61 7 rfl
theorem dX4_readDoing_75 : decode cX4_readDoing 75 = .ok (.ireturn, 1) := dk_i kdX4_readDoing_61 8 rfl
theorem dX4_readDoing_76 : decode cX4_readDoing 76 = .ok (.aload_n 0, 1) := dk_i kdX4_readDoing_61 9 rfl
theorem dX4_readDoing_77 : decode cX4_readDoing 77 = .ok (.getfield 35, 3) := dk_i kdX4_readDoing_61 10 rfl
theorem dX4_readDoing_80 : decode cX4_readDoing 80 = .ok (.iload_n 1, 1) := dk_i kdX4_readDoing_61 11 rfl
theorem dX4_readDoing_81 : decode cX4_readDoing 81 = .ok (.iload_n 2, 1) := dk_i kdX4_readDoing_61 12 rfl
theorem dX4_readDoing_82 : decode cX4_readDoing 82 = .ok (.iload_n 3, 1) := dk_i kdX4_readDoing_61 13 rfl
theorem dX4_readDoing_83 : decode cX4_readDoing 83 = .ok (.invokevirtual 158, 3) := dk_i kdX4_readDoing_61 14 rfl
theorem dX4_readDoing_86 : decode cX4_readDoing 86 = .ok (.iconst 1, 1) := dk_i kdX4_readDoing_61 15 rfl
def ldX4_readDoing_87 : List (Nat × ClassFile.Instr × Nat) := [(87, .ireturn, 1)]
theorem kdX4_readDoing_87 : dkO cX4_readDoing 87 ldX4_readDoing_87 = true := by decide +kernel
theorem dX4_readDoing_87 : decode cX4_readDoing 87 = .ok (.ireturn, 1) := dk_i kdX4_readDoing_87 0 rfl
def ldX4_readPass_0 : List (Nat × ClassFile.Instr × Nat) := [(0, .aload_n 0, 1), (1, .iconst 0, 1), (2, .bipush 100, 2), (4, .invokevirtual 126, 3), (7, .istore_n 1, 1), (8, .iload_n 1, 1), (9, .iconst (-1), 1), (10, .if_icmp .ne 5, 3), (13, .iconst 0, 1), (14, .ireturn, 1), (15, .aload_n 0, 1), (16, .getfield 35, 3), (19, .iload_n 1, 1), (20, .putfield 161, 3), (23, .iconst 1, 1), (24, .ireturn, 1)]
theorem kdX4_readPass_0 : dkO cX4_readPass 0 ldX4_readPass_0 = true := by decide +kernel
theorem dX4_readPass_0 : decode cX4_readPass 0 = .ok (.aload_n 0, 1) := dk_i kdX4_readPass_0 0 rfl
theorem dX4_readPass_1 : decode cX4_readPass 1 = .ok (.iconst 0, 1) := dk_i kdX4_readPass_0 1 rfl
theorem dX4_readPass_2 : decode cX4_readPass 2 = .ok (.bipush 100, 2) := dk_i kdX4_readPass_0 2 rfl
theorem dX4_readPass_4 : decode cX4_readPass 4 = .ok (.invokevirtual 126, 3) := dk_i kdX4_readPass_0 3 rfl
theorem dX4_readPass_7 : decode cX4_readPass 7 = .ok (.istore_n 1, 1) := dk_i kdX4_readPass_0 4 rfl
theorem dX4_readPass_8 : decode cX4_readPass 8 = .ok (.iload_n 1, 1) := dk_i kdX4_readPass_0 5 rfl
theorem dX4_readPass_9 : decode cX4_readPass 9 = .ok (.iconst (-1), 1) := dk_i kdX4_readPass_0 6 rfl
theorem dX4_readPass_10 : decode cX4_readPass 10 = .ok (.if_icmp .ne 5, 3) := dk_i kdX4_readPass_0 7 rfl
theorem dX4_readPass_13 : decode cX4_readPass 13 = .ok (.iconst 0, 1) := dk_i kdX4_readPass_0 8 rfl
theorem dX4_readPass_14 : decode cX4_readPass 14 = .ok (.ireturn, 1) := dk_i kdX4_readPass_0 9 rfl
theorem dX4_readPass_15 : decode cX4_readPass 15 = .ok (.aload_n 0, 1) := dk_i kdX4_readPass_0 10 rfl
theorem dX4_readPass_16 : decode cX4_readPass 16 = .ok (.getfield 35, 3) := dk_i kdX4_readPass_0 11 rfl
theorem dX4_readPass_19 : decode cX4_readPass 19 = .ok (.iload_n 1, 1) := dk_i kdX4_readPass_0 12 rfl
theorem dX4_readPass_20 : decode cX4_readPass 20 = .ok (.putfield 161, 3) := dk_i kdX4_readPass_0 13 rfl
theorem dX4_readPass_23 : decode cX4_readPass 23 = .ok (.iconst 1, 1) := dk_i kdX4_readPass_0 14 rfl
theorem dX4_readPass_24 : decode cX4_readPass 24 = .ok (.ireturn, 1) := dk_i kdX4_readPass_0 15 rfl
def ldX4_newName_0 : List (Nat × ClassFile.Instr × Nat) := [(0, .aload_n 0, 1), (1, .getfield 14, 3), (4, .getfield 151, 3), (7, .istore_n 1, 1), (8, .aload_n 0, 1), (9, .getfield 14, 3), (12, .getfield 45, 3), (15, .sipush 257, 3), (18, .if_icmp .eq 13, 3), (21, .aload_n 0, 1), (22, .getfield 14, 3), (25, .invokevirtual 116, 3), (28, .pop, 1), (29, .iconst (-1), 1), (30, .ireturn, 1), (31, .aload_n 0, 1)]
theorem kdX4_newName_0 : dkO cX4_newName 0 ldX4_newName_0 = true := by decide +kernel
theorem dX4_newName_0 : decode cX4_newName 0 = .ok (.aload_n 0, 1) := dk_i kdX4_newName_0 0 rfl
theorem dX4_newName_1 : decode cX4_newName 1 = .ok (.getfield 14, 3) := dk_i kdX4_newName_0 1 rfl
theorem dX4_newName_4 : decode cX4_newName 4 = .ok (.getfield 151, 3) := dk_i kdX4_newName_0 2 rfl
theorem dX4_newName_7 : decode cX4_newName 7 = .ok (.istore_n 1, 1) := dk_i kdX4_newName_0 3 rfl
theorem dX4_newName_8 : decode cX4_newName 8 = .ok (.aload_n 0, 1) := dk_i kdX4_newName_0 4 rfl
theorem dX4_newName_9 : decode cX4_newName 9 = .ok (.getfield 14, 3) := dk_i kdX4_newName_0 5 rfl
theorem dX4_newName_12 : decode cX4_newName 12 = .ok (.getfield 45, 3) := dk_i kdX4_newName_0 6 rfl
theorem dX4_newName_15 : decode cX4_newName 15 = .ok (.sipush 257, 3) := dk_i kdX4_newName_0 7 rfl
theorem dX4_newName_18 : decode cX4_newName 18 = .ok (.if_icmp .eq 13, 3) := dk_i kdX4_newName_0 8 rfl
theorem dX4_newName_21 : decode cX4_newName 21 = .ok (.aload_n 0, 1) := dk_i kdX4_newName_0 9 rfl
theorem dX4_newName_22 : decode cX4_newName 22 = .ok (.getfield 14, 3) := dk_i kdX4_newName_0 10 rfl
theorem dX4_newName_25 : decode cX4_newName 25 = .ok (.invokevirtual 116, 3) := dk_i kdX4_newName_0 11 rfl
theorem dX4_newName_28 : decode cX4_newName 28 = .ok (.pop, 1) := dk_i kdX4_newName_0 12 rfl
theorem dX4_newName_29 : decode cX4_newName 29 = .ok (.iconst (-1), 1) := dk_i kdX4_newName_0 13 rfl
theorem dX4_newName_30 : decode cX4_newName 30 = .ok (.ireturn, 1) := dk_i kdX4_newName_0 14 rfl
theorem dX4_newName_31 : decode cX4_newName 31 = .ok (.aload_n 0, 1) := dk_i kdX4_newName_0 15 rfl
def ldX4_newName_32 : List (Nat × ClassFile.Instr × Nat) := [(32, .getfield 35, 3), (35, .iload_n 1, 1), (36, .invokevirtual 154, 3), (39, .iconst (-1), 1), (40, .if_icmp .ne 27, 3), (43, .aload_n 0, 1), (44, .getfield 35, 3), (47, .iload_n 1, 1), (48, .invokevirtual 164, 3), (51, .iconst (-1), 1), (52, .if_icmp .ne 15, 3), (55, .aload_n 0, 1), (56, .getfield 35, 3), (59, .iload_n 1, 1), (60, .invokevirtual 167, 3), (63, .iconst (-1), 1)]
theorem kdX4_newName_32 : dkO cX4_newName 32 ldX4_newName_32 = true := by decide +kernel
theorem dX4_newName_32 : decode cX4_newName 32 = .ok (.getfield 35, 3) := dk_i kdX4_newName_32 0 rfl
theorem dX4_newName_35 : decode cX4_newName 35 = .ok (.iload_n 1, 1) := dk_i kdX4_newName_32 1 rfl
theorem dX4_newName_36 : decode cX4_newName 36 = .ok (.invokevirtual 154, 3) := dk_i kdX4_newName_32 2 rfl
theorem dX4_newName_39 : decode cX4_newName 39 = .ok (.iconst (-1), 1) := dk_i kdX4_newName_32 3 rfl
theorem dX4_newName_40 : decode cX4_newName 40 = .ok (.if_icmp .ne 27, 3) := dk_i kdX4_newName_32 4 rfl
theorem dX4_newName_43 : decode cX4_newName 43 = .ok (.aload_n 0, 1) := dk_i kdX4_newName_32 5 rfl
theorem dX4_newName_44 : decode cX4_newName 44 = .ok (.getfield 35, 3) := dk_i kdX4_newName_32 6 rfl
theorem dX4_newName_47 : decode cX4_newName 47 = .ok (.iload_n 1, 1) := dk_i kdX4_newName_32 7 rfl
theorem dX4_newName_48 : decode cX4_newName 48 = .ok (.invokevirtual 164, 3) := dk_i kdX4_newName_32 8 rfl
theorem dX4_newName_51 : decode cX4_newName 51 = .ok (.iconst (-1), 1) := dk_i kdX4_newName_32 9 rfl
theorem dX4_newName_52 : decode cX4_newName 52 = .ok (.if_icmp .ne 15, 3) := dk_i kdX4_newName_32 10 rfl
theorem dX4_newName_55 : decode cX4_newName 55 = .ok (.aload_n 0, 1) := dk_i kdX4_newName_32 11 rfl
theorem dX4_newName_56 : decode cX4_newName 56 = .ok (.getfield 35, 3) := dk_i kdX4_newName_32 12 rfl
theorem dX4_newName_59 : decode cX4_newName 59 = .ok (.iload_n 1, 1) := dk_i kdX4_newName_32 13 rfl
theorem dX4_newName_60 : decode cX4_newName 60 = .ok (.invokevirtual 167, 3) := dk_i kdX4_newName_32 14 rfl
theorem dX4_newName_63 : decode cX4_newName 63 = .ok (.iconst (-1), 1) := dk_i kdX4_newName_32 15 rfl
def ldX4_newName_64 : List (Nat × ClassFile.Instr × Nat) := [(64, .if_icmp .eq 21, 3), (67, .aload_n 0, 1), (68, .getfield 14, 3), (71, .iconst 2, 1), (72, .aload_n 0, 1), (73, .getfield 14, 3), (76, .getfield 60, 3), (79, .invokevirtual 63, 3), (82, .pop, 1), (83, .iconst (-1), 1), (84, .ireturn, 1), (85, .aload_n 0, 1), (86, .getfield 14, 3), (89, .invokevirtual 119, 3), (92, .iload_n 1, 1), (93, .ireturn, 1)]
theorem kdX4_newName_64 : dkO cX4_newName 64 ldX4_newName_64 = true := by decide +kernel
theorem dX4_newName_64 : decode cX4_newName 64 = .ok (.if_icmp .eq 21, 3) := dk_i kdX4_newName_64 0 rfl
theorem dX4_newName_67 : decode cX4_newName 67 = .ok (.aload_n 0, 1) := dk_i kdX4_newName_64 1 rfl
theorem dX4_newName_68 : decode cX4_newName 68 = .ok (.getfield 14, 3) := dk_i kdX4_newName_64 2 rfl
theorem dX4_newName_71 : decode cX4_newName 71 = .ok (.iconst 2, 1) := dk_i kdX4_newName_64 3 rfl
theorem dX4_newName_72 : decode cX4_newName 72 = .ok (.aload_n 0, 1) := dk_i kdX4_newName_64 4 rfl
theorem dX4_newName_73 : decode cX4_newName 73 = .ok (.getfield 14, 3) := dk_i kdX4_newName_64 5 rfl
theorem dX4_newName_76 : decode cX4_newName 76 = .ok (.getfield 60, 3) := dk_i kdX4_newName_64 6 rfl
theorem dX4_newName_79 : decode cX4_newName 79 = .ok (.invokevirtual 63, 3) := dk_i kdX4_newName_64 7 rfl
theorem dX4_newName_82 : decode cX4_newName 82 = .ok (.pop, 1) := dk_i kdX4_newName_64 8 rfl
theorem dX4_newName_83 : decode cX4_newName 83 = .ok (.iconst (-1), 1) := dk_i kdX4_newName_64 9 rfl
theorem dX4_newName_84 : decode cX4_newName 84 = .ok (.ireturn, 1) := dk_i kdX4_newName_64 10 rfl
theorem dX4_newName_85 : decode cX4_newName 85 = .ok (.aload_n 0, 1) := dk_i kdX4_newName_64 11 rfl
theorem dX4_newName_86 : decode cX4_newName 86 = .ok (.getfield 14, 3) := dk_i kdX4_newName_64 12 rfl
theorem dX4_newName_89 : decode cX4_newName 89 = .ok (.invokevirtual 119, 3) := dk_i kdX4_newName_64 13 rfl
theorem dX4_newName_92 : decode cX4_newName 92 = .ok (.iload_n 1, 1) := dk_i kdX4_newName_64 14 rfl
theorem dX4_newName_93 : decode cX4_newName 93 = .ok (.ireturn, 1) := dk_i kdX4_newName_64 15 rfl
def ldX4_cornerHere_0 : List (Nat × ClassFile.Instr × Nat) := [(0, .aload_n 0, 1), (1, .getfield 14, 3), (4, .getfield 45, 3), (7, .sipush 257, 3), (10, .if_icmp .eq 13, 3), (13, .aload_n 0, 1), (14, .getfield 14, 3), (17, .invokevirtual 116, 3), (20, .pop, 1), (21, .iconst (-1), 1), (22, .ireturn, 1), (23, .aload_n 0, 1), (24, .getfield 35, 3), (27, .aload_n 0, 1), (28, .getfield 14, 3), (31, .getfield 151, 3)]
theorem kdX4_cornerHere_0 : dkO cX4_cornerHere 0 ldX4_cornerHere_0 = true := by decide +kernel
theorem dX4_cornerHere_0 : decode cX4_cornerHere 0 = .ok (.aload_n 0, 1) := dk_i kdX4_cornerHere_0 0 rfl
theorem dX4_cornerHere_1 : decode cX4_cornerHere 1 = .ok (.getfield 14, 3) := dk_i kdX4_cornerHere_0 1 rfl
theorem dX4_cornerHere_4 : decode cX4_cornerHere 4 = .ok (.getfield 45, 3) := dk_i kdX4_cornerHere_0 2 rfl
theorem dX4_cornerHere_7 : decode cX4_cornerHere 7 = .ok (.sipush 257, 3) := dk_i kdX4_cornerHere_0 3 rfl
theorem dX4_cornerHere_10 : decode cX4_cornerHere 10 = .ok (.if_icmp .eq 13, 3) := dk_i kdX4_cornerHere_0 4 rfl
theorem dX4_cornerHere_13 : decode cX4_cornerHere 13 = .ok (.aload_n 0, 1) := dk_i kdX4_cornerHere_0 5 rfl
theorem dX4_cornerHere_14 : decode cX4_cornerHere 14 = .ok (.getfield 14, 3) := dk_i kdX4_cornerHere_0 6 rfl
theorem dX4_cornerHere_17 : decode cX4_cornerHere 17 = .ok (.invokevirtual 116, 3) := dk_i kdX4_cornerHere_0 7 rfl
theorem dX4_cornerHere_20 : decode cX4_cornerHere 20 = .ok (.pop, 1) := dk_i kdX4_cornerHere_0 8 rfl
theorem dX4_cornerHere_21 : decode cX4_cornerHere 21 = .ok (.iconst (-1), 1) := dk_i kdX4_cornerHere_0 9 rfl
theorem dX4_cornerHere_22 : decode cX4_cornerHere 22 = .ok (.ireturn, 1) := dk_i kdX4_cornerHere_0 10 rfl
theorem dX4_cornerHere_23 : decode cX4_cornerHere 23 = .ok (.aload_n 0, 1) := dk_i kdX4_cornerHere_0 11 rfl
theorem dX4_cornerHere_24 : decode cX4_cornerHere 24 = .ok (.getfield 35, 3) := dk_i kdX4_cornerHere_0 12 rfl
theorem dX4_cornerHere_27 : decode cX4_cornerHere 27 = .ok (.aload_n 0, 1) := dk_i kdX4_cornerHere_0 13 rfl
theorem dX4_cornerHere_28 : decode cX4_cornerHere 28 = .ok (.getfield 14, 3) := dk_i kdX4_cornerHere_0 14 rfl
theorem dX4_cornerHere_31 : decode cX4_cornerHere 31 = .ok (.getfield 151, 3) := dk_i kdX4_cornerHere_0 15 rfl
def ldX4_cornerHere_34 : List (Nat × ClassFile.Instr × Nat) := [(34, .invokevirtual 164, 3), (37, .istore_n 1, 1), (38, .iload_n 1, 1), (39, .iconst (-1), 1), (40, .if_icmp .ne 19, 3), (43, .aload_n 0, 1), (44, .getfield 14, 3), (47, .iconst 3, 1), (48, .aload_n 0, 1), (49, .getfield 14, 3), (52, .getfield 60, 3), (55, .invokevirtual 63, 3), (58, .pop, 1), (59, .iload_n 1, 1), (60, .ireturn, 1)]
theorem kdX4_cornerHere_34 : dkO cX4_cornerHere 34 ldX4_cornerHere_34 = true := by decide +kernel
theorem dX4_cornerHere_34 : decode cX4_cornerHere 34 = .ok (.invokevirtual 164, 3) := dk_i kdX4_cornerHere_34 0 rfl
theorem dX4_cornerHere_37 : decode cX4_cornerHere 37 = .ok (.istore_n 1, 1) := dk_i kdX4_cornerHere_34 1 rfl
theorem dX4_cornerHere_38 : decode cX4_cornerHere 38 = .ok (.iload_n 1, 1) := dk_i kdX4_cornerHere_34 2 rfl
theorem dX4_cornerHere_39 : decode cX4_cornerHere 39 = .ok (.iconst (-1), 1) := dk_i kdX4_cornerHere_34 3 rfl
theorem dX4_cornerHere_40 : decode cX4_cornerHere 40 = .ok (.if_icmp .ne 19, 3) := dk_i kdX4_cornerHere_34 4 rfl
theorem dX4_cornerHere_43 : decode cX4_cornerHere 43 = .ok (.aload_n 0, 1) := dk_i kdX4_cornerHere_34 5 rfl
theorem dX4_cornerHere_44 : decode cX4_cornerHere 44 = .ok (.getfield 14, 3) := dk_i kdX4_cornerHere_34 6 rfl
theorem dX4_cornerHere_47 : decode cX4_cornerHere 47 = .ok (.iconst 3, 1) := dk_i kdX4_cornerHere_34 7 rfl
theorem dX4_cornerHere_48 : decode cX4_cornerHere 48 = .ok (.aload_n 0, 1) := dk_i kdX4_cornerHere_34 8 rfl
theorem dX4_cornerHere_49 : decode cX4_cornerHere 49 = .ok (.getfield 14, 3) := dk_i kdX4_cornerHere_34 9 rfl
theorem dX4_cornerHere_52 : decode cX4_cornerHere 52 = .ok (.getfield 60, 3) := dk_i kdX4_cornerHere_34 10 rfl
theorem dX4_cornerHere_55 : decode cX4_cornerHere 55 = .ok (.invokevirtual 63, 3) := dk_i kdX4_cornerHere_34 11 rfl
theorem dX4_cornerHere_58 : decode cX4_cornerHere 58 = .ok (.pop, 1) := dk_i kdX4_cornerHere_34 12 rfl
theorem dX4_cornerHere_59 : decode cX4_cornerHere 59 = .ok (.iload_n 1, 1) := dk_i kdX4_cornerHere_34 13 rfl
theorem dX4_cornerHere_60 : decode cX4_cornerHere 60 = .ok (.ireturn, 1) := dk_i kdX4_cornerHere_34 14 rfl
def ldX4_number_0 : List (Nat × ClassFile.Instr × Nat) := [(0, .aload_n 0, 1), (1, .getfield 14, 3), (4, .getfield 151, 3), (7, .istore_n 3, 1), (8, .aload_n 0, 1), (9, .getfield 14, 3), (12, .getfield 45, 3), (15, .sipush 256, 3), (18, .if_icmp .eq 13, 3), (21, .aload_n 0, 1), (22, .getfield 14, 3), (25, .invokevirtual 116, 3), (28, .pop, 1), (29, .iconst (-1), 1), (30, .ireturn, 1), (31, .iload_n 3, 1)]
theorem kdX4_number_0 : dkO cX4_number 0 ldX4_number_0 = true := by decide +kernel
theorem dX4_number_0 : decode cX4_number 0 = .ok (.aload_n 0, 1) := dk_i kdX4_number_0 0 rfl
theorem dX4_number_1 : decode cX4_number 1 = .ok (.getfield 14, 3) := dk_i kdX4_number_0 1 rfl
theorem dX4_number_4 : decode cX4_number 4 = .ok (.getfield 151, 3) := dk_i kdX4_number_0 2 rfl
theorem dX4_number_7 : decode cX4_number 7 = .ok (.istore_n 3, 1) := dk_i kdX4_number_0 3 rfl
theorem dX4_number_8 : decode cX4_number 8 = .ok (.aload_n 0, 1) := dk_i kdX4_number_0 4 rfl
theorem dX4_number_9 : decode cX4_number 9 = .ok (.getfield 14, 3) := dk_i kdX4_number_0 5 rfl
theorem dX4_number_12 : decode cX4_number 12 = .ok (.getfield 45, 3) := dk_i kdX4_number_0 6 rfl
theorem dX4_number_15 : decode cX4_number 15 = .ok (.sipush 256, 3) := dk_i kdX4_number_0 7 rfl
theorem dX4_number_18 : decode cX4_number 18 = .ok (.if_icmp .eq 13, 3) := dk_i kdX4_number_0 8 rfl
theorem dX4_number_21 : decode cX4_number 21 = .ok (.aload_n 0, 1) := dk_i kdX4_number_0 9 rfl
theorem dX4_number_22 : decode cX4_number 22 = .ok (.getfield 14, 3) := dk_i kdX4_number_0 10 rfl
theorem dX4_number_25 : decode cX4_number 25 = .ok (.invokevirtual 116, 3) := dk_i kdX4_number_0 11 rfl
theorem dX4_number_28 : decode cX4_number 28 = .ok (.pop, 1) := dk_i kdX4_number_0 12 rfl
theorem dX4_number_29 : decode cX4_number 29 = .ok (.iconst (-1), 1) := dk_i kdX4_number_0 13 rfl
theorem dX4_number_30 : decode cX4_number 30 = .ok (.ireturn, 1) := dk_i kdX4_number_0 14 rfl
theorem dX4_number_31 : decode cX4_number 31 = .ok (.iload_n 3, 1) := dk_i kdX4_number_0 15 rfl
def ldX4_number_32 : List (Nat × ClassFile.Instr × Nat) := [(32, .iload_n 1, 1), (33, .if_icmp .lt 8, 3), (36, .iload_n 3, 1), (37, .iload_n 2, 1), (38, .if_icmp .le 21, 3), (41, .aload_n 0, 1), (42, .getfield 14, 3), (45, .iconst 4, 1), (46, .aload_n 0, 1), (47, .getfield 14, 3), (50, .getfield 60, 3), (53, .invokevirtual 63, 3), (56, .pop, 1), (57, .iconst (-1), 1), (58, .ireturn, 1), (59, .aload_n 0, 1)]
theorem kdX4_number_32 : dkO cX4_number 32 ldX4_number_32 = true := by decide +kernel
theorem dX4_number_32 : decode cX4_number 32 = .ok (.iload_n 1, 1) := dk_i kdX4_number_32 0 rfl
theorem dX4_number_33 : decode cX4_number 33 = .ok (.if_icmp .lt 8, 3) := dk_i kdX4_number_32 1 rfl
theorem dX4_number_36 : decode cX4_number 36 = .ok (.iload_n 3, 1) := dk_i kdX4_number_32 2 rfl
theorem dX4_number_37 : decode cX4_number 37 = .ok (.iload_n 2, 1) := dk_i kdX4_number_32 3 rfl
theorem dX4_number_38 : decode cX4_number 38 = .ok (.if_icmp .le 21, 3) := dk_i kdX4_number_32 4 rfl
theorem dX4_number_41 : decode cX4_number 41 = .ok (.aload_n 0, 1) := dk_i kdX4_number_32 5 rfl
theorem dX4_number_42 : decode cX4_number 42 = .ok (.getfield 14, 3) := dk_i kdX4_number_32 6 rfl
theorem dX4_number_45 : decode cX4_number 45 = .ok (.iconst 4, 1) := dk_i kdX4_number_32 7 rfl
theorem dX4_number_46 : decode cX4_number 46 = .ok (.aload_n 0, 1) := dk_i kdX4_number_32 8 rfl
theorem dX4_number_47 : decode cX4_number 47 = .ok (.getfield 14, 3) := dk_i kdX4_number_32 9 rfl
theorem dX4_number_50 : decode cX4_number 50 = .ok (.getfield 60, 3) := dk_i kdX4_number_32 10 rfl
theorem dX4_number_53 : decode cX4_number 53 = .ok (.invokevirtual 63, 3) := dk_i kdX4_number_32 11 rfl
theorem dX4_number_56 : decode cX4_number 56 = .ok (.pop, 1) := dk_i kdX4_number_32 12 rfl
theorem dX4_number_57 : decode cX4_number 57 = .ok (.iconst (-1), 1) := dk_i kdX4_number_32 13 rfl
theorem dX4_number_58 : decode cX4_number 58 = .ok (.ireturn, 1) := dk_i kdX4_number_32 14 rfl
theorem dX4_number_59 : decode cX4_number 59 = .ok (.aload_n 0, 1) := dk_i kdX4_number_32 15 rfl
def ldX4_number_60 : List (Nat × ClassFile.Instr × Nat) := [(60, .getfield 14, 3), (63, .invokevirtual 119, 3), (66, .iload_n 3, 1), (67, .ireturn, 1)]
theorem kdX4_number_60 : dkO cX4_number 60 ldX4_number_60 = true := by decide +kernel
theorem dX4_number_60 : decode cX4_number 60 = .ok (.getfield 14, 3) := dk_i kdX4_number_60 0 rfl
theorem dX4_number_63 : decode cX4_number 63 = .ok (.invokevirtual 119, 3) := dk_i kdX4_number_60 1 rfl
theorem dX4_number_66 : decode cX4_number 66 = .ok (.iload_n 3, 1) := dk_i kdX4_number_60 2 rfl
theorem dX4_number_67 : decode cX4_number 67 = .ok (.ireturn, 1) := dk_i kdX4_number_60 3 rfl
end
section
def ldX5_init_0 : List (Nat × ClassFile.Instr × Nat) := [(0, .aload_n 0, 1), (1, .invokespecial 3, 3), (4, .aload_n 0, 1), (5, .iconst 0, 1), (6, .putfield 9, 3), (9, .aload_n 0, 1), (10, .bipush 16, 2), (12, .newarray .int, 2), (14, .putfield 15, 3), (17, .aload_n 0, 1), (18, .bipush 16, 2), (20, .newarray .int, 2), (22, .putfield 19, 3), (25, .aload_n 0, 1), (26, .bipush 16, 2), (28, .newarray .int, 2)]
theorem kdX5_init_0 : dkO cX5_init 0 ldX5_init_0 = true := by decide +kernel
theorem dX5_init_0 : decode cX5_init 0 = .ok (.aload_n 0, 1) := dk_i kdX5_init_0 0 rfl
theorem dX5_init_1 : decode cX5_init 1 = .ok (.invokespecial 3, 3) := dk_i kdX5_init_0 1 rfl
theorem dX5_init_4 : decode cX5_init 4 = .ok (.aload_n 0, 1) := dk_i kdX5_init_0 2 rfl
theorem dX5_init_5 : decode cX5_init 5 = .ok (.iconst 0, 1) := dk_i kdX5_init_0 3 rfl
theorem dX5_init_6 : decode cX5_init 6 = .ok (.putfield 9, 3) := dk_i kdX5_init_0 4 rfl
theorem dX5_init_9 : decode cX5_init 9 = .ok (.aload_n 0, 1) := dk_i kdX5_init_0 5 rfl
theorem dX5_init_10 : decode cX5_init 10 = .ok (.bipush 16, 2) := dk_i kdX5_init_0 6 rfl
theorem dX5_init_12 : decode cX5_init 12 = .ok (.newarray .int, 2) := dk_i kdX5_init_0 7 rfl
theorem dX5_init_14 : decode cX5_init 14 = .ok (.putfield 15, 3) := dk_i kdX5_init_0 8 rfl
theorem dX5_init_17 : decode cX5_init 17 = .ok (.aload_n 0, 1) := dk_i kdX5_init_0 9 rfl
theorem dX5_init_18 : decode cX5_init 18 = .ok (.bipush 16, 2) := dk_i kdX5_init_0 10 rfl
theorem dX5_init_20 : decode cX5_init 20 = .ok (.newarray .int, 2) := dk_i kdX5_init_0 11 rfl
theorem dX5_init_22 : decode cX5_init 22 = .ok (.putfield 19, 3) := dk_i kdX5_init_0 12 rfl
theorem dX5_init_25 : decode cX5_init 25 = .ok (.aload_n 0, 1) := dk_i kdX5_init_0 13 rfl
theorem dX5_init_26 : decode cX5_init 26 = .ok (.bipush 16, 2) := dk_i kdX5_init_0 14 rfl
theorem dX5_init_28 : decode cX5_init 28 = .ok (.newarray .int, 2) := dk_i kdX5_init_0 15 rfl
def ldX5_init_30 : List (Nat × ClassFile.Instr × Nat) := [(30, .putfield 22, 3), (33, .aload_n 0, 1), (34, .bipush 7, 2), (36, .bipush 41, 2), (38, .multianewarray 25 2, 4), (42, .putfield 27, 3), (45, .return_, 1)]
theorem kdX5_init_30 : dkO cX5_init 30 ldX5_init_30 = true := by decide +kernel
theorem dX5_init_30 : decode cX5_init 30 = .ok (.putfield 22, 3) := dk_i kdX5_init_30 0 rfl
theorem dX5_init_33 : decode cX5_init 33 = .ok (.aload_n 0, 1) := dk_i kdX5_init_30 1 rfl
theorem dX5_init_34 : decode cX5_init 34 = .ok (.bipush 7, 2) := dk_i kdX5_init_30 2 rfl
theorem dX5_init_36 : decode cX5_init 36 = .ok (.bipush 41, 2) := dk_i kdX5_init_30 3 rfl
theorem dX5_init_38 : decode cX5_init 38 = .ok (.multianewarray 25 2, 4) := dk_i kdX5_init_30 4 rfl
theorem dX5_init_42 : decode cX5_init 42 = .ok (.putfield 27, 3) := dk_i kdX5_init_30 5 rfl
theorem dX5_init_45 : decode cX5_init 45 = .ok (.return_, 1) := dk_i kdX5_init_30 6 rfl
def ldX5_read_0 : List (Nat × ClassFile.Instr × Nat) := [(0, .aload_n 1, 1), (1, .getfield 30, 3), (4, .iconst 3, 1), (5, .idiv, 1), (6, .istore_n 3, 1), (7, .iload_n 3, 1), (8, .iconst 1, 1), (9, .if_icmp .lt 19, 3), (12, .iload_n 3, 1), (13, .bipush 16, 2), (15, .if_icmp .gt 13, 3), (18, .aload_n 1, 1), (19, .getfield 30, 3), (22, .iconst 3, 1), (23, .iload_n 3, 1), (24, .imul, 1)]
theorem kdX5_read_0 : dkO cX5_read 0 ldX5_read_0 = true := by decide +kernel
theorem dX5_read_0 : decode cX5_read 0 = .ok (.aload_n 1, 1) := dk_i kdX5_read_0 0 rfl
theorem dX5_read_1 : decode cX5_read 1 = .ok (.getfield 30, 3) := dk_i kdX5_read_0 1 rfl
theorem dX5_read_4 : decode cX5_read 4 = .ok (.iconst 3, 1) := dk_i kdX5_read_0 2 rfl
theorem dX5_read_5 : decode cX5_read 5 = .ok (.idiv, 1) := dk_i kdX5_read_0 3 rfl
theorem dX5_read_6 : decode cX5_read 6 = .ok (.istore_n 3, 1) := dk_i kdX5_read_0 4 rfl
theorem dX5_read_7 : decode cX5_read 7 = .ok (.iload_n 3, 1) := dk_i kdX5_read_0 5 rfl
theorem dX5_read_8 : decode cX5_read 8 = .ok (.iconst 1, 1) := dk_i kdX5_read_0 6 rfl
theorem dX5_read_9 : decode cX5_read 9 = .ok (.if_icmp .lt 19, 3) := dk_i kdX5_read_0 7 rfl
theorem dX5_read_12 : decode cX5_read 12 = .ok (.iload_n 3, 1) := dk_i kdX5_read_0 8 rfl
theorem dX5_read_13 : decode cX5_read 13 = .ok (.bipush 16, 2) := dk_i kdX5_read_0 9 rfl
theorem dX5_read_15 : decode cX5_read 15 = .ok (.if_icmp .gt 13, 3) := dk_i kdX5_read_0 10 rfl
theorem dX5_read_18 : decode cX5_read 18 = .ok (.aload_n 1, 1) := dk_i kdX5_read_0 11 rfl
theorem dX5_read_19 : decode cX5_read 19 = .ok (.getfield 30, 3) := dk_i kdX5_read_0 12 rfl
theorem dX5_read_22 : decode cX5_read 22 = .ok (.iconst 3, 1) := dk_i kdX5_read_0 13 rfl
theorem dX5_read_23 : decode cX5_read 23 = .ok (.iload_n 3, 1) := dk_i kdX5_read_0 14 rfl
theorem dX5_read_24 : decode cX5_read 24 = .ok (.imul, 1) := dk_i kdX5_read_0 15 rfl
def ldX5_read_25 : List (Nat × ClassFile.Instr × Nat) := [(25, .if_icmp .eq 5, 3), (28, .iconst 0, 1), (29, .ireturn, 1), (30, .iconst 0, 1), (31, .istore 4, 2), (33, .iload 4, 2), (35, .iload_n 3, 1), (36, .if_icmp .ge 68, 3), (39, .aload_n 1, 1), (40, .iconst 3, 1), (41, .iload 4, 2), (43, .imul, 1), (44, .invokevirtual 35, 3), (47, .bipush 40, 2), (49, .if_icmp .gt 24, 3), (52, .aload_n 2, 1)]
theorem kdX5_read_25 : dkO cX5_read 25 ldX5_read_25 = true := by decide +kernel
theorem dX5_read_25 : decode cX5_read 25 = .ok (.if_icmp .eq 5, 3) := dk_i kdX5_read_25 0 rfl
theorem dX5_read_28 : decode cX5_read 28 = .ok (.iconst 0, 1) := dk_i kdX5_read_25 1 rfl
theorem dX5_read_29 : decode cX5_read 29 = .ok (.ireturn, 1) := dk_i kdX5_read_25 2 rfl
theorem dX5_read_30 : decode cX5_read 30 = .ok (.iconst 0, 1) := dk_i kdX5_read_25 3 rfl
theorem dX5_read_31 : decode cX5_read 31 = .ok (.istore 4, 2) := dk_i kdX5_read_25 4 rfl
theorem dX5_read_33 : decode cX5_read 33 = .ok (.iload 4, 2) := dk_i kdX5_read_25 5 rfl
theorem dX5_read_35 : decode cX5_read 35 = .ok (.iload_n 3, 1) := dk_i kdX5_read_25 6 rfl
theorem dX5_read_36 : decode cX5_read 36 = .ok (.if_icmp .ge 68, 3) := dk_i kdX5_read_25 7 rfl
theorem dX5_read_39 : decode cX5_read 39 = .ok (.aload_n 1, 1) := dk_i kdX5_read_25 8 rfl
theorem dX5_read_40 : decode cX5_read 40 = .ok (.iconst 3, 1) := dk_i kdX5_read_25 9 rfl
theorem dX5_read_41 : decode cX5_read 41 = .ok (.iload 4, 2) := dk_i kdX5_read_25 10 rfl
theorem dX5_read_43 : decode cX5_read 43 = .ok (.imul, 1) := dk_i kdX5_read_25 11 rfl
theorem dX5_read_44 : decode cX5_read 44 = .ok (.invokevirtual 35, 3) := dk_i kdX5_read_25 12 rfl
theorem dX5_read_47 : decode cX5_read 47 = .ok (.bipush 40, 2) := dk_i kdX5_read_25 13 rfl
theorem dX5_read_49 : decode cX5_read 49 = .ok (.if_icmp .gt 24, 3) := dk_i kdX5_read_25 14 rfl
theorem dX5_read_52 : decode cX5_read 52 = .ok (.aload_n 2, 1) := dk_i kdX5_read_25 15 rfl
def ldX5_read_53 : List (Nat × ClassFile.Instr × Nat) := [(53, .aload_n 1, 1), (54, .iconst 3, 1), (55, .iload 4, 2), (57, .imul, 1), (58, .iconst 1, 1), (59, .iadd, 1), (60, .invokevirtual 35, 3), (63, .invokevirtual 39, 3), (66, .ifCond .eq 7, 3), (69, .iconst 1, 1), (70, .goto 4, 3), (73, .iconst 0, 1), (74, .istore 5, 2), (76, .iload 5, 2), (78, .ifCond .eq 18, 3), (81, .aload_n 1, 1)]
theorem kdX5_read_53 : dkO cX5_read 53 ldX5_read_53 = true := by decide +kernel
theorem dX5_read_53 : decode cX5_read 53 = .ok (.aload_n 1, 1) := dk_i kdX5_read_53 0 rfl
theorem dX5_read_54 : decode cX5_read 54 = .ok (.iconst 3, 1) := dk_i kdX5_read_53 1 rfl
theorem dX5_read_55 : decode cX5_read 55 = .ok (.iload 4, 2) := dk_i kdX5_read_53 2 rfl
theorem dX5_read_57 : decode cX5_read 57 = .ok (.imul, 1) := dk_i kdX5_read_53 3 rfl
theorem dX5_read_58 : decode cX5_read 58 = .ok (.iconst 1, 1) := dk_i kdX5_read_53 4 rfl
theorem dX5_read_59 : decode cX5_read 59 = .ok (.iadd, 1) := dk_i kdX5_read_53 5 rfl
theorem dX5_read_60 : decode cX5_read 60 = .ok (.invokevirtual 35, 3) := dk_i kdX5_read_53 6 rfl
theorem dX5_read_63 : decode cX5_read 63 = .ok (.invokevirtual 39, 3) := dk_i kdX5_read_53 7 rfl
theorem dX5_read_66 : decode cX5_read 66 = .ok (.ifCond .eq 7, 3) := dk_i kdX5_read_53 8 rfl
theorem dX5_read_69 : decode cX5_read 69 = .ok (.iconst 1, 1) := dk_i kdX5_read_53 9 rfl
theorem dX5_read_70 : decode cX5_read 70 = .ok (.goto 4, 3) := dk_i kdX5_read_53 10 rfl
theorem dX5_read_73 : decode cX5_read 73 = .ok (.iconst 0, 1) := dk_i kdX5_read_53 11 rfl
theorem dX5_read_74 : decode cX5_read 74 = .ok (.istore 5, 2) := dk_i kdX5_read_53 12 rfl
theorem dX5_read_76 : decode cX5_read 76 = .ok (.iload 5, 2) := dk_i kdX5_read_53 13 rfl
theorem dX5_read_78 : decode cX5_read 78 = .ok (.ifCond .eq 18, 3) := dk_i kdX5_read_53 14 rfl
theorem dX5_read_81 : decode cX5_read 81 = .ok (.aload_n 1, 1) := dk_i kdX5_read_53 15 rfl
def ldX5_read_82 : List (Nat × ClassFile.Instr × Nat) := [(82, .iconst 3, 1), (83, .iload 4, 2), (85, .imul, 1), (86, .iconst 2, 1), (87, .iadd, 1), (88, .invokevirtual 35, 3), (91, .bipush 23, 2), (93, .if_icmp .le 5, 3), (96, .iconst 0, 1), (97, .ireturn, 1), (98, .iinc 4 1, 3), (101, .goto (-68), 3), (104, .iconst 0, 1), (105, .istore 4, 2), (107, .iload 4, 2), (109, .iload_n 3, 1)]
theorem kdX5_read_82 : dkO cX5_read 82 ldX5_read_82 = true := by decide +kernel
theorem dX5_read_82 : decode cX5_read 82 = .ok (.iconst 3, 1) := dk_i kdX5_read_82 0 rfl
theorem dX5_read_83 : decode cX5_read 83 = .ok (.iload 4, 2) := dk_i kdX5_read_82 1 rfl
theorem dX5_read_85 : decode cX5_read 85 = .ok (.imul, 1) := dk_i kdX5_read_82 2 rfl
theorem dX5_read_86 : decode cX5_read 86 = .ok (.iconst 2, 1) := dk_i kdX5_read_82 3 rfl
theorem dX5_read_87 : decode cX5_read 87 = .ok (.iadd, 1) := dk_i kdX5_read_82 4 rfl
theorem dX5_read_88 : decode cX5_read 88 = .ok (.invokevirtual 35, 3) := dk_i kdX5_read_82 5 rfl
theorem dX5_read_91 : decode cX5_read 91 = .ok (.bipush 23, 2) := dk_i kdX5_read_82 6 rfl
theorem dX5_read_93 : decode cX5_read 93 = .ok (.if_icmp .le 5, 3) := dk_i kdX5_read_82 7 rfl
theorem dX5_read_96 : decode cX5_read 96 = .ok (.iconst 0, 1) := dk_i kdX5_read_82 8 rfl
theorem dX5_read_97 : decode cX5_read 97 = .ok (.ireturn, 1) := dk_i kdX5_read_82 9 rfl
theorem dX5_read_98 : decode cX5_read 98 = .ok (.iinc 4 1, 3) := dk_i kdX5_read_82 10 rfl
theorem dX5_read_101 : decode cX5_read 101 = .ok (.goto (-68), 3) := dk_i kdX5_read_82 11 rfl
theorem dX5_read_104 : decode cX5_read 104 = .ok (.iconst 0, 1) := dk_i kdX5_read_82 12 rfl
theorem dX5_read_105 : decode cX5_read 105 = .ok (.istore 4, 2) := dk_i kdX5_read_82 13 rfl
theorem dX5_read_107 : decode cX5_read 107 = .ok (.iload 4, 2) := dk_i kdX5_read_82 14 rfl
theorem dX5_read_109 : decode cX5_read 109 = .ok (.iload_n 3, 1) := dk_i kdX5_read_82 15 rfl
def ldX5_read_110 : List (Nat × ClassFile.Instr × Nat) := [(110, .if_icmp .ge 58, 3), (113, .aload_n 0, 1), (114, .getfield 15, 3), (117, .iload 4, 2), (119, .aload_n 1, 1), (120, .iconst 3, 1), (121, .iload 4, 2), (123, .imul, 1), (124, .invokevirtual 35, 3), (127, .iastore, 1), (128, .aload_n 0, 1), (129, .getfield 19, 3), (132, .iload 4, 2), (134, .aload_n 1, 1), (135, .iconst 3, 1), (136, .iload 4, 2)]
theorem kdX5_read_110 : dkO cX5_read 110 ldX5_read_110 = true := by decide +kernel
theorem dX5_read_110 : decode cX5_read 110 = .ok (.if_icmp .ge 58, 3) := dk_i kdX5_read_110 0 rfl
theorem dX5_read_113 : decode cX5_read 113 = .ok (.aload_n 0, 1) := dk_i kdX5_read_110 1 rfl
theorem dX5_read_114 : decode cX5_read 114 = .ok (.getfield 15, 3) := dk_i kdX5_read_110 2 rfl
theorem dX5_read_117 : decode cX5_read 117 = .ok (.iload 4, 2) := dk_i kdX5_read_110 3 rfl
theorem dX5_read_119 : decode cX5_read 119 = .ok (.aload_n 1, 1) := dk_i kdX5_read_110 4 rfl
theorem dX5_read_120 : decode cX5_read 120 = .ok (.iconst 3, 1) := dk_i kdX5_read_110 5 rfl
theorem dX5_read_121 : decode cX5_read 121 = .ok (.iload 4, 2) := dk_i kdX5_read_110 6 rfl
theorem dX5_read_123 : decode cX5_read 123 = .ok (.imul, 1) := dk_i kdX5_read_110 7 rfl
theorem dX5_read_124 : decode cX5_read 124 = .ok (.invokevirtual 35, 3) := dk_i kdX5_read_110 8 rfl
theorem dX5_read_127 : decode cX5_read 127 = .ok (.iastore, 1) := dk_i kdX5_read_110 9 rfl
theorem dX5_read_128 : decode cX5_read 128 = .ok (.aload_n 0, 1) := dk_i kdX5_read_110 10 rfl
theorem dX5_read_129 : decode cX5_read 129 = .ok (.getfield 19, 3) := dk_i kdX5_read_110 11 rfl
theorem dX5_read_132 : decode cX5_read 132 = .ok (.iload 4, 2) := dk_i kdX5_read_110 12 rfl
theorem dX5_read_134 : decode cX5_read 134 = .ok (.aload_n 1, 1) := dk_i kdX5_read_110 13 rfl
theorem dX5_read_135 : decode cX5_read 135 = .ok (.iconst 3, 1) := dk_i kdX5_read_110 14 rfl
theorem dX5_read_136 : decode cX5_read 136 = .ok (.iload 4, 2) := dk_i kdX5_read_110 15 rfl
def ldX5_read_138 : List (Nat × ClassFile.Instr × Nat) := [(138, .imul, 1), (139, .iconst 1, 1), (140, .iadd, 1), (141, .invokevirtual 35, 3), (144, .iastore, 1), (145, .aload_n 0, 1), (146, .getfield 22, 3), (149, .iload 4, 2), (151, .aload_n 1, 1), (152, .iconst 3, 1), (153, .iload 4, 2), (155, .imul, 1), (156, .iconst 2, 1), (157, .iadd, 1), (158, .invokevirtual 35, 3), (161, .iastore, 1)]
theorem kdX5_read_138 : dkO cX5_read 138 ldX5_read_138 = true := by decide +kernel
theorem dX5_read_138 : decode cX5_read 138 = .ok (.imul, 1) := dk_i kdX5_read_138 0 rfl
theorem dX5_read_139 : decode cX5_read 139 = .ok (.iconst 1, 1) := dk_i kdX5_read_138 1 rfl
theorem dX5_read_140 : decode cX5_read 140 = .ok (.iadd, 1) := dk_i kdX5_read_138 2 rfl
theorem dX5_read_141 : decode cX5_read 141 = .ok (.invokevirtual 35, 3) := dk_i kdX5_read_138 3 rfl
theorem dX5_read_144 : decode cX5_read 144 = .ok (.iastore, 1) := dk_i kdX5_read_138 4 rfl
theorem dX5_read_145 : decode cX5_read 145 = .ok (.aload_n 0, 1) := dk_i kdX5_read_138 5 rfl
theorem dX5_read_146 : decode cX5_read 146 = .ok (.getfield 22, 3) := dk_i kdX5_read_138 6 rfl
theorem dX5_read_149 : decode cX5_read 149 = .ok (.iload 4, 2) := dk_i kdX5_read_138 7 rfl
theorem dX5_read_151 : decode cX5_read 151 = .ok (.aload_n 1, 1) := dk_i kdX5_read_138 8 rfl
theorem dX5_read_152 : decode cX5_read 152 = .ok (.iconst 3, 1) := dk_i kdX5_read_138 9 rfl
theorem dX5_read_153 : decode cX5_read 153 = .ok (.iload 4, 2) := dk_i kdX5_read_138 10 rfl
theorem dX5_read_155 : decode cX5_read 155 = .ok (.imul, 1) := dk_i kdX5_read_138 11 rfl
theorem dX5_read_156 : decode cX5_read 156 = .ok (.iconst 2, 1) := dk_i kdX5_read_138 12 rfl
theorem dX5_read_157 : decode cX5_read 157 = .ok (.iadd, 1) := dk_i kdX5_read_138 13 rfl
theorem dX5_read_158 : decode cX5_read 158 = .ok (.invokevirtual 35, 3) := dk_i kdX5_read_138 14 rfl
theorem dX5_read_161 : decode cX5_read 161 = .ok (.iastore, 1) := dk_i kdX5_read_138 15 rfl
def ldX5_read_162 : List (Nat × ClassFile.Instr × Nat) := [(162, .iinc 4 1, 3), (165, .goto (-58), 3), (168, .aload_n 0, 1), (169, .iload_n 3, 1), (170, .putfield 9, 3), (173, .iconst 1, 1), (174, .ireturn, 1)]
theorem kdX5_read_162 : dkO cX5_read 162 ldX5_read_162 = true := by decide +kernel
theorem dX5_read_162 : decode cX5_read 162 = .ok (.iinc 4 1, 3) := dk_i kdX5_read_162 0 rfl
theorem dX5_read_165 : decode cX5_read 165 = .ok (.goto (-58), 3) := dk_i kdX5_read_162 1 rfl
theorem dX5_read_168 : decode cX5_read 168 = .ok (.aload_n 0, 1) := dk_i kdX5_read_162 2 rfl
theorem dX5_read_169 : decode cX5_read 169 = .ok (.iload_n 3, 1) := dk_i kdX5_read_162 3 rfl
theorem dX5_read_170 : decode cX5_read 170 = .ok (.putfield 9, 3) := dk_i kdX5_read_162 4 rfl
theorem dX5_read_173 : decode cX5_read 173 = .ok (.iconst 1, 1) := dk_i kdX5_read_162 5 rfl
theorem dX5_read_174 : decode cX5_read 174 = .ok (.ireturn, 1) := dk_i kdX5_read_162 6 rfl
def ldX5_isAbout_0 : List (Nat × ClassFile.Instr × Nat) := [(0, .iconst 0, 1), (1, .istore_n 2, 1), (2, .iload_n 2, 1), (3, .aload_n 0, 1), (4, .getfield 9, 3), (7, .if_icmp .ge 21, 3), (10, .aload_n 0, 1), (11, .getfield 19, 3), (14, .iload_n 2, 1), (15, .iaload, 1), (16, .iload_n 1, 1), (17, .if_icmp .ne 5, 3), (20, .iconst 1, 1), (21, .ireturn, 1), (22, .iinc 2 1, 3), (25, .goto (-23), 3)]
theorem kdX5_isAbout_0 : dkO cX5_isAbout 0 ldX5_isAbout_0 = true := by decide +kernel
theorem dX5_isAbout_0 : decode cX5_isAbout 0 = .ok (.iconst 0, 1) := dk_i kdX5_isAbout_0 0 rfl
theorem dX5_isAbout_1 : decode cX5_isAbout 1 = .ok (.istore_n 2, 1) := dk_i kdX5_isAbout_0 1 rfl
theorem dX5_isAbout_2 : decode cX5_isAbout 2 = .ok (.iload_n 2, 1) := dk_i kdX5_isAbout_0 2 rfl
theorem dX5_isAbout_3 : decode cX5_isAbout 3 = .ok (.aload_n 0, 1) := dk_i kdX5_isAbout_0 3 rfl
theorem dX5_isAbout_4 : decode cX5_isAbout 4 = .ok (.getfield 9, 3) := dk_i kdX5_isAbout_0 4 rfl
theorem dX5_isAbout_7 : decode cX5_isAbout 7 = .ok (.if_icmp .ge 21, 3) := dk_i kdX5_isAbout_0 5 rfl
theorem dX5_isAbout_10 : decode cX5_isAbout 10 = .ok (.aload_n 0, 1) := dk_i kdX5_isAbout_0 6 rfl
theorem dX5_isAbout_11 : decode cX5_isAbout 11 = .ok (.getfield 19, 3) := dk_i kdX5_isAbout_0 7 rfl
theorem dX5_isAbout_14 : decode cX5_isAbout 14 = .ok (.iload_n 2, 1) := dk_i kdX5_isAbout_0 8 rfl
theorem dX5_isAbout_15 : decode cX5_isAbout 15 = .ok (.iaload, 1) := dk_i kdX5_isAbout_0 9 rfl
theorem dX5_isAbout_16 : decode cX5_isAbout 16 = .ok (.iload_n 1, 1) := dk_i kdX5_isAbout_0 10 rfl
theorem dX5_isAbout_17 : decode cX5_isAbout 17 = .ok (.if_icmp .ne 5, 3) := dk_i kdX5_isAbout_0 11 rfl
theorem dX5_isAbout_20 : decode cX5_isAbout 20 = .ok (.iconst 1, 1) := dk_i kdX5_isAbout_0 12 rfl
theorem dX5_isAbout_21 : decode cX5_isAbout 21 = .ok (.ireturn, 1) := dk_i kdX5_isAbout_0 13 rfl
theorem dX5_isAbout_22 : decode cX5_isAbout 22 = .ok (.iinc 2 1, 3) := dk_i kdX5_isAbout_0 14 rfl
theorem dX5_isAbout_25 : decode cX5_isAbout 25 = .ok (.goto (-23), 3) := dk_i kdX5_isAbout_0 15 rfl
def ldX5_isAbout_28 : List (Nat × ClassFile.Instr × Nat) := [(28, .iconst 0, 1), (29, .ireturn, 1)]
theorem kdX5_isAbout_28 : dkO cX5_isAbout 28 ldX5_isAbout_28 = true := by decide +kernel
theorem dX5_isAbout_28 : decode cX5_isAbout 28 = .ok (.iconst 0, 1) := dk_i kdX5_isAbout_28 0 rfl
theorem dX5_isAbout_29 : decode cX5_isAbout 29 = .ok (.ireturn, 1) := dk_i kdX5_isAbout_28 1 rfl
def ldX5_isSo_0 : List (Nat × ClassFile.Instr × Nat) := [(0, .iconst 0, 1), (1, .istore 4, 2), (3, .iload 4, 2), (5, .aload_n 0, 1), (6, .getfield 9, 3), (9, .if_icmp .ge 76, 3), (12, .aload_n 0, 1), (13, .getfield 19, 3), (16, .iload 4, 2), (18, .iaload, 1), (19, .iload_n 1, 1), (20, .if_icmp .ne 59, 3), (23, .aload_n 0, 1), (24, .getfield 15, 3), (27, .iload 4, 2), (29, .iaload, 1)]
theorem kdX5_isSo_0 : dkO cX5_isSo 0 ldX5_isSo_0 = true := by decide +kernel
theorem dX5_isSo_0 : decode cX5_isSo 0 = .ok (.iconst 0, 1) := dk_i kdX5_isSo_0 0 rfl
theorem dX5_isSo_1 : decode cX5_isSo 1 = .ok (.istore 4, 2) := dk_i kdX5_isSo_0 1 rfl
theorem dX5_isSo_3 : decode cX5_isSo 3 = .ok (.iload 4, 2) := dk_i kdX5_isSo_0 2 rfl
theorem dX5_isSo_5 : decode cX5_isSo 5 = .ok (.aload_n 0, 1) := dk_i kdX5_isSo_0 3 rfl
theorem dX5_isSo_6 : decode cX5_isSo 6 = .ok (.getfield 9, 3) := dk_i kdX5_isSo_0 4 rfl
theorem dX5_isSo_9 : decode cX5_isSo 9 = .ok (.if_icmp .ge 76, 3) := dk_i kdX5_isSo_0 5 rfl
theorem dX5_isSo_12 : decode cX5_isSo 12 = .ok (.aload_n 0, 1) := dk_i kdX5_isSo_0 6 rfl
theorem dX5_isSo_13 : decode cX5_isSo 13 = .ok (.getfield 19, 3) := dk_i kdX5_isSo_0 7 rfl
theorem dX5_isSo_16 : decode cX5_isSo 16 = .ok (.iload 4, 2) := dk_i kdX5_isSo_0 8 rfl
theorem dX5_isSo_18 : decode cX5_isSo 18 = .ok (.iaload, 1) := dk_i kdX5_isSo_0 9 rfl
theorem dX5_isSo_19 : decode cX5_isSo 19 = .ok (.iload_n 1, 1) := dk_i kdX5_isSo_0 10 rfl
theorem dX5_isSo_20 : decode cX5_isSo 20 = .ok (.if_icmp .ne 59, 3) := dk_i kdX5_isSo_0 11 rfl
theorem dX5_isSo_23 : decode cX5_isSo 23 = .ok (.aload_n 0, 1) := dk_i kdX5_isSo_0 12 rfl
theorem dX5_isSo_24 : decode cX5_isSo 24 = .ok (.getfield 15, 3) := dk_i kdX5_isSo_0 13 rfl
theorem dX5_isSo_27 : decode cX5_isSo 27 = .ok (.iload 4, 2) := dk_i kdX5_isSo_0 14 rfl
theorem dX5_isSo_29 : decode cX5_isSo 29 = .ok (.iaload, 1) := dk_i kdX5_isSo_0 15 rfl
def ldX5_isSo_30 : List (Nat × ClassFile.Instr × Nat) := [(30, .iload_n 3, 1), (31, .if_icmp .gt 19, 3), (34, .aload_n 0, 1), (35, .getfield 15, 3), (38, .iload 4, 2), (40, .iaload, 1), (41, .aload_n 2, 1), (42, .arraylength, 1), (43, .if_icmp .ge 7, 3), (46, .iconst 1, 1), (47, .goto 4, 3), (50, .iconst 0, 1), (51, .istore 5, 2), (53, .iload 5, 2), (55, .ifCond .eq 22, 3), (58, .aload_n 2, 1)]
theorem kdX5_isSo_30 : dkO cX5_isSo 30 ldX5_isSo_30 = true := by decide +kernel
theorem dX5_isSo_30 : decode cX5_isSo 30 = .ok (.iload_n 3, 1) := dk_i kdX5_isSo_30 0 rfl
theorem dX5_isSo_31 : decode cX5_isSo 31 = .ok (.if_icmp .gt 19, 3) := dk_i kdX5_isSo_30 1 rfl
theorem dX5_isSo_34 : decode cX5_isSo 34 = .ok (.aload_n 0, 1) := dk_i kdX5_isSo_30 2 rfl
theorem dX5_isSo_35 : decode cX5_isSo 35 = .ok (.getfield 15, 3) := dk_i kdX5_isSo_30 3 rfl
theorem dX5_isSo_38 : decode cX5_isSo 38 = .ok (.iload 4, 2) := dk_i kdX5_isSo_30 4 rfl
theorem dX5_isSo_40 : decode cX5_isSo 40 = .ok (.iaload, 1) := dk_i kdX5_isSo_30 5 rfl
theorem dX5_isSo_41 : decode cX5_isSo 41 = .ok (.aload_n 2, 1) := dk_i kdX5_isSo_30 6 rfl
theorem dX5_isSo_42 : decode cX5_isSo 42 = .ok (.arraylength, 1) := dk_i kdX5_isSo_30 7 rfl
theorem dX5_isSo_43 : decode cX5_isSo 43 = .ok (.if_icmp .ge 7, 3) := dk_i kdX5_isSo_30 8 rfl
theorem dX5_isSo_46 : decode cX5_isSo 46 = .ok (.iconst 1, 1) := dk_i kdX5_isSo_30 9 rfl
theorem dX5_isSo_47 : decode cX5_isSo 47 = .ok (.goto 4, 3) := dk_i kdX5_isSo_30 10 rfl
theorem dX5_isSo_50 : decode cX5_isSo 50 = .ok (.iconst 0, 1) := dk_i kdX5_isSo_30 11 rfl
theorem dX5_isSo_51 : decode cX5_isSo 51 = .ok (.istore 5, 2) := dk_i kdX5_isSo_30 12 rfl
theorem dX5_isSo_53 : decode cX5_isSo 53 = .ok (.iload 5, 2) := dk_i kdX5_isSo_30 13 rfl
theorem dX5_isSo_55 : decode cX5_isSo 55 = .ok (.ifCond .eq 22, 3) := dk_i kdX5_isSo_30 14 rfl
theorem dX5_isSo_58 : decode cX5_isSo 58 = .ok (.aload_n 2, 1) := dk_i kdX5_isSo_30 15 rfl
def ldX5_isSo_59 : List (Nat × ClassFile.Instr × Nat) := [(59, .aload_n 0, 1), (60, .getfield 15, 3), (63, .iload 4, 2), (65, .iaload, 1), (66, .iaload, 1), (67, .aload_n 0, 1), (68, .getfield 22, 3), (71, .iload 4, 2), (73, .iaload, 1), (74, .if_icmp .eq 5, 3), (77, .iconst 0, 1), (78, .ireturn, 1), (79, .iinc 4 1, 3), (82, .goto (-79), 3), (85, .iconst 1, 1), (86, .ireturn, 1)]
theorem kdX5_isSo_59 : dkO cX5_isSo 59 ldX5_isSo_59 = true := by decide +kernel
theorem dX5_isSo_59 : decode cX5_isSo 59 = .ok (.aload_n 0, 1) := dk_i kdX5_isSo_59 0 rfl
theorem dX5_isSo_60 : decode cX5_isSo 60 = .ok (.getfield 15, 3) := dk_i kdX5_isSo_59 1 rfl
theorem dX5_isSo_63 : decode cX5_isSo 63 = .ok (.iload 4, 2) := dk_i kdX5_isSo_59 2 rfl
theorem dX5_isSo_65 : decode cX5_isSo 65 = .ok (.iaload, 1) := dk_i kdX5_isSo_59 3 rfl
theorem dX5_isSo_66 : decode cX5_isSo 66 = .ok (.iaload, 1) := dk_i kdX5_isSo_59 4 rfl
theorem dX5_isSo_67 : decode cX5_isSo 67 = .ok (.aload_n 0, 1) := dk_i kdX5_isSo_59 5 rfl
theorem dX5_isSo_68 : decode cX5_isSo 68 = .ok (.getfield 22, 3) := dk_i kdX5_isSo_59 6 rfl
theorem dX5_isSo_71 : decode cX5_isSo 71 = .ok (.iload 4, 2) := dk_i kdX5_isSo_59 7 rfl
theorem dX5_isSo_73 : decode cX5_isSo 73 = .ok (.iaload, 1) := dk_i kdX5_isSo_59 8 rfl
theorem dX5_isSo_74 : decode cX5_isSo 74 = .ok (.if_icmp .eq 5, 3) := dk_i kdX5_isSo_59 9 rfl
theorem dX5_isSo_77 : decode cX5_isSo 77 = .ok (.iconst 0, 1) := dk_i kdX5_isSo_59 10 rfl
theorem dX5_isSo_78 : decode cX5_isSo 78 = .ok (.ireturn, 1) := dk_i kdX5_isSo_59 11 rfl
theorem dX5_isSo_79 : decode cX5_isSo 79 = .ok (.iinc 4 1, 3) := dk_i kdX5_isSo_59 12 rfl
theorem dX5_isSo_82 : decode cX5_isSo 82 = .ok (.goto (-79), 3) := dk_i kdX5_isSo_59 13 rfl
theorem dX5_isSo_85 : decode cX5_isSo 85 = .ok (.iconst 1, 1) := dk_i kdX5_isSo_59 14 rfl
theorem dX5_isSo_86 : decode cX5_isSo 86 = .ok (.ireturn, 1) := dk_i kdX5_isSo_59 15 rfl
def ldX5_noteHours_0 : List (Nat × ClassFile.Instr × Nat) := [(0, .iload_n 1, 1), (1, .ifCond .lt 9, 3), (4, .iload_n 1, 1), (5, .bipush 7, 2), (7, .if_icmp .lt 4, 3), (10, .return_, 1), (11, .iconst 0, 1), (12, .istore 4, 2), (14, .iload 4, 2), (16, .iload_n 3, 1), (17, .if_icmp .gt 36, 3), (20, .iload 4, 2), (22, .bipush 40, 2), (24, .if_icmp .gt 29, 3), (27, .iload 4, 2), (29, .aload_n 2, 1)]
theorem kdX5_noteHours_0 : dkO cX5_noteHours 0 ldX5_noteHours_0 = true := by decide +kernel
theorem dX5_noteHours_0 : decode cX5_noteHours 0 = .ok (.iload_n 1, 1) := dk_i kdX5_noteHours_0 0 rfl
theorem dX5_noteHours_1 : decode cX5_noteHours 1 = .ok (.ifCond .lt 9, 3) := dk_i kdX5_noteHours_0 1 rfl
theorem dX5_noteHours_4 : decode cX5_noteHours 4 = .ok (.iload_n 1, 1) := dk_i kdX5_noteHours_0 2 rfl
theorem dX5_noteHours_5 : decode cX5_noteHours 5 = .ok (.bipush 7, 2) := dk_i kdX5_noteHours_0 3 rfl
theorem dX5_noteHours_7 : decode cX5_noteHours 7 = .ok (.if_icmp .lt 4, 3) := dk_i kdX5_noteHours_0 4 rfl
theorem dX5_noteHours_10 : decode cX5_noteHours 10 = .ok (.return_, 1) := dk_i kdX5_noteHours_0 5 rfl
theorem dX5_noteHours_11 : decode cX5_noteHours 11 = .ok (.iconst 0, 1) := dk_i kdX5_noteHours_0 6 rfl
theorem dX5_noteHours_12 : decode cX5_noteHours 12 = .ok (.istore 4, 2) := dk_i kdX5_noteHours_0 7 rfl
theorem dX5_noteHours_14 : decode cX5_noteHours 14 = .ok (.iload 4, 2) := dk_i kdX5_noteHours_0 8 rfl
theorem dX5_noteHours_16 : decode cX5_noteHours 16 = .ok (.iload_n 3, 1) := dk_i kdX5_noteHours_0 9 rfl
theorem dX5_noteHours_17 : decode cX5_noteHours 17 = .ok (.if_icmp .gt 36, 3) := dk_i kdX5_noteHours_0 10 rfl
theorem dX5_noteHours_20 : decode cX5_noteHours 20 = .ok (.iload 4, 2) := dk_i kdX5_noteHours_0 11 rfl
theorem dX5_noteHours_22 : decode cX5_noteHours 22 = .ok (.bipush 40, 2) := dk_i kdX5_noteHours_0 12 rfl
theorem dX5_noteHours_24 : decode cX5_noteHours 24 = .ok (.if_icmp .gt 29, 3) := dk_i kdX5_noteHours_0 13 rfl
theorem dX5_noteHours_27 : decode cX5_noteHours 27 = .ok (.iload 4, 2) := dk_i kdX5_noteHours_0 14 rfl
theorem dX5_noteHours_29 : decode cX5_noteHours 29 = .ok (.aload_n 2, 1) := dk_i kdX5_noteHours_0 15 rfl
def ldX5_noteHours_30 : List (Nat × ClassFile.Instr × Nat) := [(30, .arraylength, 1), (31, .if_icmp .ge 22, 3), (34, .aload_n 0, 1), (35, .getfield 27, 3), (38, .iload_n 1, 1), (39, .aaload, 1), (40, .iload 4, 2), (42, .aload_n 2, 1), (43, .iload 4, 2), (45, .iaload, 1), (46, .iastore, 1), (47, .iinc 4 1, 3), (50, .goto (-36), 3), (53, .return_, 1)]
theorem kdX5_noteHours_30 : dkO cX5_noteHours 30 ldX5_noteHours_30 = true := by decide +kernel
theorem dX5_noteHours_30 : decode cX5_noteHours 30 = .ok (.arraylength, 1) := dk_i kdX5_noteHours_30 0 rfl
theorem dX5_noteHours_31 : decode cX5_noteHours 31 = .ok (.if_icmp .ge 22, 3) := dk_i kdX5_noteHours_30 1 rfl
theorem dX5_noteHours_34 : decode cX5_noteHours 34 = .ok (.aload_n 0, 1) := dk_i kdX5_noteHours_30 2 rfl
theorem dX5_noteHours_35 : decode cX5_noteHours 35 = .ok (.getfield 27, 3) := dk_i kdX5_noteHours_30 3 rfl
theorem dX5_noteHours_38 : decode cX5_noteHours 38 = .ok (.iload_n 1, 1) := dk_i kdX5_noteHours_30 4 rfl
theorem dX5_noteHours_39 : decode cX5_noteHours 39 = .ok (.aaload, 1) := dk_i kdX5_noteHours_30 5 rfl
theorem dX5_noteHours_40 : decode cX5_noteHours 40 = .ok (.iload 4, 2) := dk_i kdX5_noteHours_30 6 rfl
theorem dX5_noteHours_42 : decode cX5_noteHours 42 = .ok (.aload_n 2, 1) := dk_i kdX5_noteHours_30 7 rfl
theorem dX5_noteHours_43 : decode cX5_noteHours 43 = .ok (.iload 4, 2) := dk_i kdX5_noteHours_30 8 rfl
theorem dX5_noteHours_45 : decode cX5_noteHours 45 = .ok (.iaload, 1) := dk_i kdX5_noteHours_30 9 rfl
theorem dX5_noteHours_46 : decode cX5_noteHours 46 = .ok (.iastore, 1) := dk_i kdX5_noteHours_30 10 rfl
theorem dX5_noteHours_47 : decode cX5_noteHours 47 = .ok (.iinc 4 1, 3) := dk_i kdX5_noteHours_30 11 rfl
theorem dX5_noteHours_50 : decode cX5_noteHours 50 = .ok (.goto (-36), 3) := dk_i kdX5_noteHours_30 12 rfl
theorem dX5_noteHours_53 : decode cX5_noteHours 53 = .ok (.return_, 1) := dk_i kdX5_noteHours_30 13 rfl
def ldX5_mostLeft_0 : List (Nat × ClassFile.Instr × Nat) := [(0, .iload_n 2, 1), (1, .ifCond .lt 9, 3), (4, .iload_n 2, 1), (5, .bipush 40, 2), (7, .if_icmp .le 5, 3), (10, .iconst 0, 1), (11, .ireturn, 1), (12, .iconst 0, 1), (13, .istore_n 3, 1), (14, .iconst 0, 1), (15, .istore 4, 2), (17, .iload 4, 2), (19, .bipush 7, 2), (21, .if_icmp .ge 91, 3), (24, .iconst 0, 1), (25, .istore 5, 2)]
theorem kdX5_mostLeft_0 : dkO cX5_mostLeft 0 ldX5_mostLeft_0 = true := by decide +kernel
theorem dX5_mostLeft_0 : decode cX5_mostLeft 0 = .ok (.iload_n 2, 1) := dk_i kdX5_mostLeft_0 0 rfl
theorem dX5_mostLeft_1 : decode cX5_mostLeft 1 = .ok (.ifCond .lt 9, 3) := dk_i kdX5_mostLeft_0 1 rfl
theorem dX5_mostLeft_4 : decode cX5_mostLeft 4 = .ok (.iload_n 2, 1) := dk_i kdX5_mostLeft_0 2 rfl
theorem dX5_mostLeft_5 : decode cX5_mostLeft 5 = .ok (.bipush 40, 2) := dk_i kdX5_mostLeft_0 3 rfl
theorem dX5_mostLeft_7 : decode cX5_mostLeft 7 = .ok (.if_icmp .le 5, 3) := dk_i kdX5_mostLeft_0 4 rfl
theorem dX5_mostLeft_10 : decode cX5_mostLeft 10 = .ok (.iconst 0, 1) := dk_i kdX5_mostLeft_0 5 rfl
theorem dX5_mostLeft_11 : decode cX5_mostLeft 11 = .ok (.ireturn, 1) := dk_i kdX5_mostLeft_0 6 rfl
theorem dX5_mostLeft_12 : decode cX5_mostLeft 12 = .ok (.iconst 0, 1) := dk_i kdX5_mostLeft_0 7 rfl
theorem dX5_mostLeft_13 : decode cX5_mostLeft 13 = .ok (.istore_n 3, 1) := dk_i kdX5_mostLeft_0 8 rfl
theorem dX5_mostLeft_14 : decode cX5_mostLeft 14 = .ok (.iconst 0, 1) := dk_i kdX5_mostLeft_0 9 rfl
theorem dX5_mostLeft_15 : decode cX5_mostLeft 15 = .ok (.istore 4, 2) := dk_i kdX5_mostLeft_0 10 rfl
theorem dX5_mostLeft_17 : decode cX5_mostLeft 17 = .ok (.iload 4, 2) := dk_i kdX5_mostLeft_0 11 rfl
theorem dX5_mostLeft_19 : decode cX5_mostLeft 19 = .ok (.bipush 7, 2) := dk_i kdX5_mostLeft_0 12 rfl
theorem dX5_mostLeft_21 : decode cX5_mostLeft 21 = .ok (.if_icmp .ge 91, 3) := dk_i kdX5_mostLeft_0 13 rfl
theorem dX5_mostLeft_24 : decode cX5_mostLeft 24 = .ok (.iconst 0, 1) := dk_i kdX5_mostLeft_0 14 rfl
theorem dX5_mostLeft_25 : decode cX5_mostLeft 25 = .ok (.istore 5, 2) := dk_i kdX5_mostLeft_0 15 rfl
def ldX5_mostLeft_27 : List (Nat × ClassFile.Instr × Nat) := [(27, .iconst 0, 1), (28, .istore 6, 2), (30, .iload 6, 2), (32, .bipush 7, 2), (34, .if_icmp .ge 65, 3), (37, .iload_n 1, 1), (38, .iload 4, 2), (40, .ishr, 1), (41, .iconst 1, 1), (42, .iand, 1), (43, .iconst 1, 1), (44, .if_icmp .ne 17, 3), (47, .iload_n 1, 1), (48, .iload 6, 2), (50, .ishr, 1), (51, .iconst 1, 1)]
theorem kdX5_mostLeft_27 : dkO cX5_mostLeft 27 ldX5_mostLeft_27 = true := by decide +kernel
theorem dX5_mostLeft_27 : decode cX5_mostLeft 27 = .ok (.iconst 0, 1) := dk_i kdX5_mostLeft_27 0 rfl
theorem dX5_mostLeft_28 : decode cX5_mostLeft 28 = .ok (.istore 6, 2) := dk_i kdX5_mostLeft_27 1 rfl
theorem dX5_mostLeft_30 : decode cX5_mostLeft 30 = .ok (.iload 6, 2) := dk_i kdX5_mostLeft_27 2 rfl
theorem dX5_mostLeft_32 : decode cX5_mostLeft 32 = .ok (.bipush 7, 2) := dk_i kdX5_mostLeft_27 3 rfl
theorem dX5_mostLeft_34 : decode cX5_mostLeft 34 = .ok (.if_icmp .ge 65, 3) := dk_i kdX5_mostLeft_27 4 rfl
theorem dX5_mostLeft_37 : decode cX5_mostLeft 37 = .ok (.iload_n 1, 1) := dk_i kdX5_mostLeft_27 5 rfl
theorem dX5_mostLeft_38 : decode cX5_mostLeft 38 = .ok (.iload 4, 2) := dk_i kdX5_mostLeft_27 6 rfl
theorem dX5_mostLeft_40 : decode cX5_mostLeft 40 = .ok (.ishr, 1) := dk_i kdX5_mostLeft_27 7 rfl
theorem dX5_mostLeft_41 : decode cX5_mostLeft 41 = .ok (.iconst 1, 1) := dk_i kdX5_mostLeft_27 8 rfl
theorem dX5_mostLeft_42 : decode cX5_mostLeft 42 = .ok (.iand, 1) := dk_i kdX5_mostLeft_27 9 rfl
theorem dX5_mostLeft_43 : decode cX5_mostLeft 43 = .ok (.iconst 1, 1) := dk_i kdX5_mostLeft_27 10 rfl
theorem dX5_mostLeft_44 : decode cX5_mostLeft 44 = .ok (.if_icmp .ne 17, 3) := dk_i kdX5_mostLeft_27 11 rfl
theorem dX5_mostLeft_47 : decode cX5_mostLeft 47 = .ok (.iload_n 1, 1) := dk_i kdX5_mostLeft_27 12 rfl
theorem dX5_mostLeft_48 : decode cX5_mostLeft 48 = .ok (.iload 6, 2) := dk_i kdX5_mostLeft_27 13 rfl
theorem dX5_mostLeft_50 : decode cX5_mostLeft 50 = .ok (.ishr, 1) := dk_i kdX5_mostLeft_27 14 rfl
theorem dX5_mostLeft_51 : decode cX5_mostLeft 51 = .ok (.iconst 1, 1) := dk_i kdX5_mostLeft_27 15 rfl
def ldX5_mostLeft_52 : List (Nat × ClassFile.Instr × Nat) := [(52, .iand, 1), (53, .iconst 1, 1), (54, .if_icmp .ne 7, 3), (57, .iconst 1, 1), (58, .goto 4, 3), (61, .iconst 0, 1), (62, .istore 7, 2), (64, .iload 7, 2), (66, .ifCond .eq 27, 3), (69, .aload_n 0, 1), (70, .getfield 27, 3), (73, .iload 4, 2), (75, .aaload, 1), (76, .iload_n 2, 1), (77, .iaload, 1), (78, .aload_n 0, 1)]
theorem kdX5_mostLeft_52 : dkO cX5_mostLeft 52 ldX5_mostLeft_52 = true := by decide +kernel
theorem dX5_mostLeft_52 : decode cX5_mostLeft 52 = .ok (.iand, 1) := dk_i kdX5_mostLeft_52 0 rfl
theorem dX5_mostLeft_53 : decode cX5_mostLeft 53 = .ok (.iconst 1, 1) := dk_i kdX5_mostLeft_52 1 rfl
theorem dX5_mostLeft_54 : decode cX5_mostLeft 54 = .ok (.if_icmp .ne 7, 3) := dk_i kdX5_mostLeft_52 2 rfl
theorem dX5_mostLeft_57 : decode cX5_mostLeft 57 = .ok (.iconst 1, 1) := dk_i kdX5_mostLeft_52 3 rfl
theorem dX5_mostLeft_58 : decode cX5_mostLeft 58 = .ok (.goto 4, 3) := dk_i kdX5_mostLeft_52 4 rfl
theorem dX5_mostLeft_61 : decode cX5_mostLeft 61 = .ok (.iconst 0, 1) := dk_i kdX5_mostLeft_52 5 rfl
theorem dX5_mostLeft_62 : decode cX5_mostLeft 62 = .ok (.istore 7, 2) := dk_i kdX5_mostLeft_52 6 rfl
theorem dX5_mostLeft_64 : decode cX5_mostLeft 64 = .ok (.iload 7, 2) := dk_i kdX5_mostLeft_52 7 rfl
theorem dX5_mostLeft_66 : decode cX5_mostLeft 66 = .ok (.ifCond .eq 27, 3) := dk_i kdX5_mostLeft_52 8 rfl
theorem dX5_mostLeft_69 : decode cX5_mostLeft 69 = .ok (.aload_n 0, 1) := dk_i kdX5_mostLeft_52 9 rfl
theorem dX5_mostLeft_70 : decode cX5_mostLeft 70 = .ok (.getfield 27, 3) := dk_i kdX5_mostLeft_52 10 rfl
theorem dX5_mostLeft_73 : decode cX5_mostLeft 73 = .ok (.iload 4, 2) := dk_i kdX5_mostLeft_52 11 rfl
theorem dX5_mostLeft_75 : decode cX5_mostLeft 75 = .ok (.aaload, 1) := dk_i kdX5_mostLeft_52 12 rfl
theorem dX5_mostLeft_76 : decode cX5_mostLeft 76 = .ok (.iload_n 2, 1) := dk_i kdX5_mostLeft_52 13 rfl
theorem dX5_mostLeft_77 : decode cX5_mostLeft 77 = .ok (.iaload, 1) := dk_i kdX5_mostLeft_52 14 rfl
theorem dX5_mostLeft_78 : decode cX5_mostLeft 78 = .ok (.aload_n 0, 1) := dk_i kdX5_mostLeft_52 15 rfl
def ldX5_mostLeft_79 : List (Nat × ClassFile.Instr × Nat) := [(79, .getfield 27, 3), (82, .iload 6, 2), (84, .aaload, 1), (85, .iload_n 2, 1), (86, .iaload, 1), (87, .if_icmp .ne 6, 3), (90, .iinc 5 1, 3), (93, .iinc 6 1, 3), (96, .goto (-66), 3), (99, .iload_n 3, 1), (100, .iload 5, 2), (102, .invokestatic 45, 3), (105, .istore_n 3, 1), (106, .iinc 4 1, 3), (109, .goto (-92), 3), (112, .iload_n 3, 1)]
theorem kdX5_mostLeft_79 : dkO cX5_mostLeft 79 ldX5_mostLeft_79 = true := by decide +kernel
theorem dX5_mostLeft_79 : decode cX5_mostLeft 79 = .ok (.getfield 27, 3) := dk_i kdX5_mostLeft_79 0 rfl
theorem dX5_mostLeft_82 : decode cX5_mostLeft 82 = .ok (.iload 6, 2) := dk_i kdX5_mostLeft_79 1 rfl
theorem dX5_mostLeft_84 : decode cX5_mostLeft 84 = .ok (.aaload, 1) := dk_i kdX5_mostLeft_79 2 rfl
theorem dX5_mostLeft_85 : decode cX5_mostLeft 85 = .ok (.iload_n 2, 1) := dk_i kdX5_mostLeft_79 3 rfl
theorem dX5_mostLeft_86 : decode cX5_mostLeft 86 = .ok (.iaload, 1) := dk_i kdX5_mostLeft_79 4 rfl
theorem dX5_mostLeft_87 : decode cX5_mostLeft 87 = .ok (.if_icmp .ne 6, 3) := dk_i kdX5_mostLeft_79 5 rfl
theorem dX5_mostLeft_90 : decode cX5_mostLeft 90 = .ok (.iinc 5 1, 3) := dk_i kdX5_mostLeft_79 6 rfl
theorem dX5_mostLeft_93 : decode cX5_mostLeft 93 = .ok (.iinc 6 1, 3) := dk_i kdX5_mostLeft_79 7 rfl
theorem dX5_mostLeft_96 : decode cX5_mostLeft 96 = .ok (.goto (-66), 3) := dk_i kdX5_mostLeft_79 8 rfl
theorem dX5_mostLeft_99 : decode cX5_mostLeft 99 = .ok (.iload_n 3, 1) := dk_i kdX5_mostLeft_79 9 rfl
theorem dX5_mostLeft_100 : decode cX5_mostLeft 100 = .ok (.iload 5, 2) := dk_i kdX5_mostLeft_79 10 rfl
theorem dX5_mostLeft_102 : decode cX5_mostLeft 102 = .ok (.invokestatic 45, 3) := dk_i kdX5_mostLeft_79 11 rfl
theorem dX5_mostLeft_105 : decode cX5_mostLeft 105 = .ok (.istore_n 3, 1) := dk_i kdX5_mostLeft_79 12 rfl
theorem dX5_mostLeft_106 : decode cX5_mostLeft 106 = .ok (.iinc 4 1, 3) := dk_i kdX5_mostLeft_79 13 rfl
theorem dX5_mostLeft_109 : decode cX5_mostLeft 109 = .ok (.goto (-92), 3) := dk_i kdX5_mostLeft_79 14 rfl
theorem dX5_mostLeft_112 : decode cX5_mostLeft 112 = .ok (.iload_n 3, 1) := dk_i kdX5_mostLeft_79 15 rfl
def ldX5_mostLeft_113 : List (Nat × ClassFile.Instr × Nat) := [(113, .ireturn, 1)]
theorem kdX5_mostLeft_113 : dkO cX5_mostLeft 113 ldX5_mostLeft_113 = true := by decide +kernel
theorem dX5_mostLeft_113 : decode cX5_mostLeft 113 = .ok (.ireturn, 1) := dk_i kdX5_mostLeft_113 0 rfl
end
