section
def ldX12_evening_30 : List (Nat × ClassFile.Instr × Nat) := [(30, .getfield 54, 3), (33, .aload_n 0, 1), (34, .getfield 51, 3), (37, .iaload, 1), (38, .if_icmp .ge 117, 3), (41, .aload_n 0, 1), (42, .iconst 1, 1), (43, .iconst 0, 1), (44, .invokevirtual 418, 3), (47, .aload_n 0, 1), (48, .iconst 1, 1), (49, .iload_n 1, 1), (50, .iload 5, 2), (52, .invokevirtual 457, 3), (55, .aload_n 0, 1), (56, .iconst 1, 1)]
theorem kdX12_evening_30 : dkO cX12_evening 30 ldX12_evening_30 = true := by decide +kernel
theorem dX12_evening_30 : decode cX12_evening 30 = .ok (.getfield 54, 3) := dk_i kdX12_evening_30 0 rfl
theorem dX12_evening_33 : decode cX12_evening 33 = .ok (.aload_n 0, 1) := dk_i kdX12_evening_30 1 rfl
theorem dX12_evening_34 : decode cX12_evening 34 = .ok (.getfield 51, 3) := dk_i kdX12_evening_30 2 rfl
theorem dX12_evening_37 : decode cX12_evening 37 = .ok (.iaload, 1) := dk_i kdX12_evening_30 3 rfl
theorem dX12_evening_38 : decode cX12_evening 38 = .ok (.if_icmp .ge 117, 3) := dk_i kdX12_evening_30 4 rfl
theorem dX12_evening_41 : decode cX12_evening 41 = .ok (.aload_n 0, 1) := dk_i kdX12_evening_30 5 rfl
theorem dX12_evening_42 : decode cX12_evening 42 = .ok (.iconst 1, 1) := dk_i kdX12_evening_30 6 rfl
theorem dX12_evening_43 : decode cX12_evening 43 = .ok (.iconst 0, 1) := dk_i kdX12_evening_30 7 rfl
theorem dX12_evening_44 : decode cX12_evening 44 = .ok (.invokevirtual 418, 3) := dk_i kdX12_evening_30 8 rfl
theorem dX12_evening_47 : decode cX12_evening 47 = .ok (.aload_n 0, 1) := dk_i kdX12_evening_30 9 rfl
theorem dX12_evening_48 : decode cX12_evening 48 = .ok (.iconst 1, 1) := dk_i kdX12_evening_30 10 rfl
theorem dX12_evening_49 : decode cX12_evening 49 = .ok (.iload_n 1, 1) := dk_i kdX12_evening_30 11 rfl
theorem dX12_evening_50 : decode cX12_evening 50 = .ok (.iload 5, 2) := dk_i kdX12_evening_30 12 rfl
theorem dX12_evening_52 : decode cX12_evening 52 = .ok (.invokevirtual 457, 3) := dk_i kdX12_evening_30 13 rfl
theorem dX12_evening_55 : decode cX12_evening 55 = .ok (.aload_n 0, 1) := dk_i kdX12_evening_30 14 rfl
theorem dX12_evening_56 : decode cX12_evening 56 = .ok (.iconst 1, 1) := dk_i kdX12_evening_30 15 rfl
def ldX12_evening_57 : List (Nat × ClassFile.Instr × Nat) := [(57, .iload_n 1, 1), (58, .invokevirtual 449, 3), (61, .istore 6, 2), (63, .iconst 0, 1), (64, .istore 7, 2), (66, .iconst 1, 1), (67, .istore 8, 2), (69, .iconst 1, 1), (70, .istore 9, 2), (72, .aload_n 0, 1), (73, .iload 9, 2), (75, .iconst 1, 1), (76, .bipush 60, 2), (78, .invokevirtual 478, 3), (81, .ifCond .eq 51, 3), (84, .iload 8, 2)]
theorem kdX12_evening_57 : dkO cX12_evening 57 ldX12_evening_57 = true := by decide +kernel
theorem dX12_evening_57 : decode cX12_evening 57 = .ok (.iload_n 1, 1) := dk_i kdX12_evening_57 0 rfl
theorem dX12_evening_58 : decode cX12_evening 58 = .ok (.invokevirtual 449, 3) := dk_i kdX12_evening_57 1 rfl
theorem dX12_evening_61 : decode cX12_evening 61 = .ok (.istore 6, 2) := dk_i kdX12_evening_57 2 rfl
theorem dX12_evening_63 : decode cX12_evening 63 = .ok (.iconst 0, 1) := dk_i kdX12_evening_57 3 rfl
theorem dX12_evening_64 : decode cX12_evening 64 = .ok (.istore 7, 2) := dk_i kdX12_evening_57 4 rfl
theorem dX12_evening_66 : decode cX12_evening 66 = .ok (.iconst 1, 1) := dk_i kdX12_evening_57 5 rfl
theorem dX12_evening_67 : decode cX12_evening 67 = .ok (.istore 8, 2) := dk_i kdX12_evening_57 6 rfl
theorem dX12_evening_69 : decode cX12_evening 69 = .ok (.iconst 1, 1) := dk_i kdX12_evening_57 7 rfl
theorem dX12_evening_70 : decode cX12_evening 70 = .ok (.istore 9, 2) := dk_i kdX12_evening_57 8 rfl
theorem dX12_evening_72 : decode cX12_evening 72 = .ok (.aload_n 0, 1) := dk_i kdX12_evening_57 9 rfl
theorem dX12_evening_73 : decode cX12_evening 73 = .ok (.iload 9, 2) := dk_i kdX12_evening_57 10 rfl
theorem dX12_evening_75 : decode cX12_evening 75 = .ok (.iconst 1, 1) := dk_i kdX12_evening_57 11 rfl
theorem dX12_evening_76 : decode cX12_evening 76 = .ok (.bipush 60, 2) := dk_i kdX12_evening_57 12 rfl
theorem dX12_evening_78 : decode cX12_evening 78 = .ok (.invokevirtual 478, 3) := dk_i kdX12_evening_57 13 rfl
theorem dX12_evening_81 : decode cX12_evening 81 = .ok (.ifCond .eq 51, 3) := dk_i kdX12_evening_57 14 rfl
theorem dX12_evening_84 : decode cX12_evening 84 = .ok (.iload 8, 2) := dk_i kdX12_evening_57 15 rfl
def ldX12_evening_86 : List (Nat × ClassFile.Instr × Nat) := [(86, .ifCond .eq 46, 3), (89, .aload_n 0, 1), (90, .iconst 1, 1), (91, .invokevirtual 461, 3), (94, .aload_n 0, 1), (95, .iconst 1, 1), (96, .iload_n 1, 1), (97, .invokevirtual 449, 3), (100, .iload 6, 2), (102, .if_icmp .ne 7, 3), (105, .iconst 1, 1), (106, .goto 4, 3), (109, .iconst 0, 1), (110, .istore 8, 2), (112, .iload 8, 2), (114, .ifCond .eq 8, 3)]
theorem kdX12_evening_86 : dkO cX12_evening 86 ldX12_evening_86 = true := by decide +kernel
theorem dX12_evening_86 : decode cX12_evening 86 = .ok (.ifCond .eq 46, 3) := dk_i kdX12_evening_86 0 rfl
theorem dX12_evening_89 : decode cX12_evening 89 = .ok (.aload_n 0, 1) := dk_i kdX12_evening_86 1 rfl
theorem dX12_evening_90 : decode cX12_evening 90 = .ok (.iconst 1, 1) := dk_i kdX12_evening_86 2 rfl
theorem dX12_evening_91 : decode cX12_evening 91 = .ok (.invokevirtual 461, 3) := dk_i kdX12_evening_86 3 rfl
theorem dX12_evening_94 : decode cX12_evening 94 = .ok (.aload_n 0, 1) := dk_i kdX12_evening_86 4 rfl
theorem dX12_evening_95 : decode cX12_evening 95 = .ok (.iconst 1, 1) := dk_i kdX12_evening_86 5 rfl
theorem dX12_evening_96 : decode cX12_evening 96 = .ok (.iload_n 1, 1) := dk_i kdX12_evening_86 6 rfl
theorem dX12_evening_97 : decode cX12_evening 97 = .ok (.invokevirtual 449, 3) := dk_i kdX12_evening_86 7 rfl
theorem dX12_evening_100 : decode cX12_evening 100 = .ok (.iload 6, 2) := dk_i kdX12_evening_86 8 rfl
theorem dX12_evening_102 : decode cX12_evening 102 = .ok (.if_icmp .ne 7, 3) := dk_i kdX12_evening_86 9 rfl
theorem dX12_evening_105 : decode cX12_evening 105 = .ok (.iconst 1, 1) := dk_i kdX12_evening_86 10 rfl
theorem dX12_evening_106 : decode cX12_evening 106 = .ok (.goto 4, 3) := dk_i kdX12_evening_86 11 rfl
theorem dX12_evening_109 : decode cX12_evening 109 = .ok (.iconst 0, 1) := dk_i kdX12_evening_86 12 rfl
theorem dX12_evening_110 : decode cX12_evening 110 = .ok (.istore 8, 2) := dk_i kdX12_evening_86 13 rfl
theorem dX12_evening_112 : decode cX12_evening 112 = .ok (.iload 8, 2) := dk_i kdX12_evening_86 14 rfl
theorem dX12_evening_114 : decode cX12_evening 114 = .ok (.ifCond .eq 8, 3) := dk_i kdX12_evening_86 15 rfl
def ldX12_evening_117 : List (Nat × ClassFile.Instr × Nat) := [(117, .iload 9, 2), (119, .goto 5, 3), (122, .iload 7, 2), (124, .istore 7, 2), (126, .iinc 9 1, 3), (129, .goto (-57), 3), (132, .iload 7, 2), (134, .iload 4, 2), (136, .if_icmp .gt 6, 3), (139, .goto 10, 3), (142, .iload 7, 2), (144, .istore 4, 2), (146, .iload 5, 2), (148, .istore_n 3, 1), (149, .iinc 5 1, 3), (152, .goto (-125), 3)]
theorem kdX12_evening_117 : dkO cX12_evening 117 ldX12_evening_117 = true := by decide +kernel
theorem dX12_evening_117 : decode cX12_evening 117 = .ok (.iload 9, 2) := dk_i kdX12_evening_117 0 rfl
theorem dX12_evening_119 : decode cX12_evening 119 = .ok (.goto 5, 3) := dk_i kdX12_evening_117 1 rfl
theorem dX12_evening_122 : decode cX12_evening 122 = .ok (.iload 7, 2) := dk_i kdX12_evening_117 2 rfl
theorem dX12_evening_124 : decode cX12_evening 124 = .ok (.istore 7, 2) := dk_i kdX12_evening_117 3 rfl
theorem dX12_evening_126 : decode cX12_evening 126 = .ok (.iinc 9 1, 3) := dk_i kdX12_evening_117 4 rfl
theorem dX12_evening_129 : decode cX12_evening 129 = .ok (.goto (-57), 3) := dk_i kdX12_evening_117 5 rfl
theorem dX12_evening_132 : decode cX12_evening 132 = .ok (.iload 7, 2) := dk_i kdX12_evening_117 6 rfl
theorem dX12_evening_134 : decode cX12_evening 134 = .ok (.iload 4, 2) := dk_i kdX12_evening_117 7 rfl
theorem dX12_evening_136 : decode cX12_evening 136 = .ok (.if_icmp .gt 6, 3) := dk_i kdX12_evening_117 8 rfl
theorem dX12_evening_139 : decode cX12_evening 139 = .ok (.goto 10, 3) := dk_i kdX12_evening_117 9 rfl
theorem dX12_evening_142 : decode cX12_evening 142 = .ok (.iload 7, 2) := dk_i kdX12_evening_117 10 rfl
theorem dX12_evening_144 : decode cX12_evening 144 = .ok (.istore 4, 2) := dk_i kdX12_evening_117 11 rfl
theorem dX12_evening_146 : decode cX12_evening 146 = .ok (.iload 5, 2) := dk_i kdX12_evening_117 12 rfl
theorem dX12_evening_148 : decode cX12_evening 148 = .ok (.istore_n 3, 1) := dk_i kdX12_evening_117 13 rfl
theorem dX12_evening_149 : decode cX12_evening 149 = .ok (.iinc 5 1, 3) := dk_i kdX12_evening_117 14 rfl
theorem dX12_evening_152 : decode cX12_evening 152 = .ok (.goto (-125), 3) := dk_i kdX12_evening_117 15 rfl
def ldX12_evening_155 : List (Nat × ClassFile.Instr × Nat) := [(155, .iload_n 2, 1), (156, .ifCond .ne 7, 3), (159, .iload_n 3, 1), (160, .goto 5, 3), (163, .iload 4, 2), (165, .ireturn, 1)]
theorem kdX12_evening_155 : dkO cX12_evening 155 ldX12_evening_155 = true := by decide +kernel
theorem dX12_evening_155 : decode cX12_evening 155 = .ok (.iload_n 2, 1) := dk_i kdX12_evening_155 0 rfl
theorem dX12_evening_156 : decode cX12_evening 156 = .ok (.ifCond .ne 7, 3) := dk_i kdX12_evening_155 1 rfl
theorem dX12_evening_159 : decode cX12_evening 159 = .ok (.iload_n 3, 1) := dk_i kdX12_evening_155 2 rfl
theorem dX12_evening_160 : decode cX12_evening 160 = .ok (.goto 5, 3) := dk_i kdX12_evening_155 3 rfl
theorem dX12_evening_163 : decode cX12_evening 163 = .ok (.iload 4, 2) := dk_i kdX12_evening_155 4 rfl
theorem dX12_evening_165 : decode cX12_evening 165 = .ok (.ireturn, 1) := dk_i kdX12_evening_155 5 rfl
def ldX12_odds_0 : List (Nat × ClassFile.Instr × Nat) := [(0, .aload_n 0, 1), (1, .iload_n 1, 1), (2, .invokevirtual 472, 3), (5, .ifCond .eq 35, 3), (8, .aload_n 0, 1), (9, .getfield 54, 3), (12, .aload_n 0, 1), (13, .getfield 51, 3), (16, .iaload, 1), (17, .ifCond .eq 23, 3), (20, .iload_n 2, 1), (21, .iconst (-1), 1), (22, .bipush 23, 2), (24, .invokestatic 305, 3), (27, .ifCond .eq 13, 3), (30, .aload_n 0, 1)]
theorem kdX12_odds_0 : dkO cX12_odds 0 ldX12_odds_0 = true := by decide +kernel
theorem dX12_odds_0 : decode cX12_odds 0 = .ok (.aload_n 0, 1) := dk_i kdX12_odds_0 0 rfl
theorem dX12_odds_1 : decode cX12_odds 1 = .ok (.iload_n 1, 1) := dk_i kdX12_odds_0 1 rfl
theorem dX12_odds_2 : decode cX12_odds 2 = .ok (.invokevirtual 472, 3) := dk_i kdX12_odds_0 2 rfl
theorem dX12_odds_5 : decode cX12_odds 5 = .ok (.ifCond .eq 35, 3) := dk_i kdX12_odds_0 3 rfl
theorem dX12_odds_8 : decode cX12_odds 8 = .ok (.aload_n 0, 1) := dk_i kdX12_odds_0 4 rfl
theorem dX12_odds_9 : decode cX12_odds 9 = .ok (.getfield 54, 3) := dk_i kdX12_odds_0 5 rfl
theorem dX12_odds_12 : decode cX12_odds 12 = .ok (.aload_n 0, 1) := dk_i kdX12_odds_0 6 rfl
theorem dX12_odds_13 : decode cX12_odds 13 = .ok (.getfield 51, 3) := dk_i kdX12_odds_0 7 rfl
theorem dX12_odds_16 : decode cX12_odds 16 = .ok (.iaload, 1) := dk_i kdX12_odds_0 8 rfl
theorem dX12_odds_17 : decode cX12_odds 17 = .ok (.ifCond .eq 23, 3) := dk_i kdX12_odds_0 9 rfl
theorem dX12_odds_20 : decode cX12_odds 20 = .ok (.iload_n 2, 1) := dk_i kdX12_odds_0 10 rfl
theorem dX12_odds_21 : decode cX12_odds 21 = .ok (.iconst (-1), 1) := dk_i kdX12_odds_0 11 rfl
theorem dX12_odds_22 : decode cX12_odds 22 = .ok (.bipush 23, 2) := dk_i kdX12_odds_0 12 rfl
theorem dX12_odds_24 : decode cX12_odds 24 = .ok (.invokestatic 305, 3) := dk_i kdX12_odds_0 13 rfl
theorem dX12_odds_27 : decode cX12_odds 27 = .ok (.ifCond .eq 13, 3) := dk_i kdX12_odds_0 14 rfl
theorem dX12_odds_30 : decode cX12_odds 30 = .ok (.aload_n 0, 1) := dk_i kdX12_odds_0 15 rfl
def ldX12_odds_31 : List (Nat × ClassFile.Instr × Nat) := [(31, .iload_n 3, 1), (32, .iconst 1, 1), (33, .iconst 2, 1), (34, .invokevirtual 478, 3), (37, .ifCond .ne 7, 3), (40, .ldc2_w 487, 3), (43, .lreturn, 1), (44, .aload_n 0, 1), (45, .getfield 63, 3), (48, .aload_n 0, 1), (49, .getfield 51, 3), (52, .iaload, 1), (53, .aload_n 0, 1), (54, .getfield 54, 3), (57, .aload_n 0, 1), (58, .getfield 51, 3)]
theorem kdX12_odds_31 : dkO cX12_odds 31 ldX12_odds_31 = true := by decide +kernel
theorem dX12_odds_31 : decode cX12_odds 31 = .ok (.iload_n 3, 1) := dk_i kdX12_odds_31 0 rfl
theorem dX12_odds_32 : decode cX12_odds 32 = .ok (.iconst 1, 1) := dk_i kdX12_odds_31 1 rfl
theorem dX12_odds_33 : decode cX12_odds 33 = .ok (.iconst 2, 1) := dk_i kdX12_odds_31 2 rfl
theorem dX12_odds_34 : decode cX12_odds 34 = .ok (.invokevirtual 478, 3) := dk_i kdX12_odds_31 3 rfl
theorem dX12_odds_37 : decode cX12_odds 37 = .ok (.ifCond .ne 7, 3) := dk_i kdX12_odds_31 4 rfl
theorem dX12_odds_40 : decode cX12_odds 40 = .ok (.ldc2_w 487, 3) := dk_i kdX12_odds_31 5 rfl
theorem dX12_odds_43 : decode cX12_odds 43 = .ok (.lreturn, 1) := dk_i kdX12_odds_31 6 rfl
theorem dX12_odds_44 : decode cX12_odds 44 = .ok (.aload_n 0, 1) := dk_i kdX12_odds_31 7 rfl
theorem dX12_odds_45 : decode cX12_odds 45 = .ok (.getfield 63, 3) := dk_i kdX12_odds_31 8 rfl
theorem dX12_odds_48 : decode cX12_odds 48 = .ok (.aload_n 0, 1) := dk_i kdX12_odds_31 9 rfl
theorem dX12_odds_49 : decode cX12_odds 49 = .ok (.getfield 51, 3) := dk_i kdX12_odds_31 10 rfl
theorem dX12_odds_52 : decode cX12_odds 52 = .ok (.iaload, 1) := dk_i kdX12_odds_31 11 rfl
theorem dX12_odds_53 : decode cX12_odds 53 = .ok (.aload_n 0, 1) := dk_i kdX12_odds_31 12 rfl
theorem dX12_odds_54 : decode cX12_odds 54 = .ok (.getfield 54, 3) := dk_i kdX12_odds_31 13 rfl
theorem dX12_odds_57 : decode cX12_odds 57 = .ok (.aload_n 0, 1) := dk_i kdX12_odds_31 14 rfl
theorem dX12_odds_58 : decode cX12_odds 58 = .ok (.getfield 51, 3) := dk_i kdX12_odds_31 15 rfl
def ldX12_odds_61 : List (Nat × ClassFile.Instr × Nat) := [(61, .iaload, 1), (62, .imul, 1), (63, .istore 4, 2), (65, .iload_n 3, 1), (66, .iconst 1, 1), (67, .if_icmp .ne 10, 3), (70, .iload 4, 2), (72, .iconst 1, 1), (73, .iadd, 1), (74, .goto 12, 3), (77, .iload 4, 2), (79, .iconst 1, 1), (80, .iadd, 1), (81, .iload 4, 2), (83, .iconst 1, 1), (84, .iadd, 1)]
theorem kdX12_odds_61 : dkO cX12_odds 61 ldX12_odds_61 = true := by decide +kernel
theorem dX12_odds_61 : decode cX12_odds 61 = .ok (.iaload, 1) := dk_i kdX12_odds_61 0 rfl
theorem dX12_odds_62 : decode cX12_odds 62 = .ok (.imul, 1) := dk_i kdX12_odds_61 1 rfl
theorem dX12_odds_63 : decode cX12_odds 63 = .ok (.istore 4, 2) := dk_i kdX12_odds_61 2 rfl
theorem dX12_odds_65 : decode cX12_odds 65 = .ok (.iload_n 3, 1) := dk_i kdX12_odds_61 3 rfl
theorem dX12_odds_66 : decode cX12_odds 66 = .ok (.iconst 1, 1) := dk_i kdX12_odds_61 4 rfl
theorem dX12_odds_67 : decode cX12_odds 67 = .ok (.if_icmp .ne 10, 3) := dk_i kdX12_odds_61 5 rfl
theorem dX12_odds_70 : decode cX12_odds 70 = .ok (.iload 4, 2) := dk_i kdX12_odds_61 6 rfl
theorem dX12_odds_72 : decode cX12_odds 72 = .ok (.iconst 1, 1) := dk_i kdX12_odds_61 7 rfl
theorem dX12_odds_73 : decode cX12_odds 73 = .ok (.iadd, 1) := dk_i kdX12_odds_61 8 rfl
theorem dX12_odds_74 : decode cX12_odds 74 = .ok (.goto 12, 3) := dk_i kdX12_odds_61 9 rfl
theorem dX12_odds_77 : decode cX12_odds 77 = .ok (.iload 4, 2) := dk_i kdX12_odds_61 10 rfl
theorem dX12_odds_79 : decode cX12_odds 79 = .ok (.iconst 1, 1) := dk_i kdX12_odds_61 11 rfl
theorem dX12_odds_80 : decode cX12_odds 80 = .ok (.iadd, 1) := dk_i kdX12_odds_61 12 rfl
theorem dX12_odds_81 : decode cX12_odds 81 = .ok (.iload 4, 2) := dk_i kdX12_odds_61 13 rfl
theorem dX12_odds_83 : decode cX12_odds 83 = .ok (.iconst 1, 1) := dk_i kdX12_odds_61 14 rfl
theorem dX12_odds_84 : decode cX12_odds 84 = .ok (.iadd, 1) := dk_i kdX12_odds_61 15 rfl
def ldX12_odds_85 : List (Nat × ClassFile.Instr × Nat) := [(85, .imul, 1), (86, .istore 5, 2), (88, .lconst 0, 1), (89, .lstore 6, 2), (91, .iconst 0, 1), (92, .istore 8, 2), (94, .iload 8, 2), (96, .iload 5, 2), (98, .if_icmp .ge 163, 3), (101, .aload_n 0, 1), (102, .iconst 1, 1), (103, .iconst 0, 1), (104, .invokevirtual 418, 3), (107, .lconst 1, 1), (108, .lstore 9, 2), (110, .iload 8, 2)]
theorem kdX12_odds_85 : dkO cX12_odds 85 ldX12_odds_85 = true := by decide +kernel
theorem dX12_odds_85 : decode cX12_odds 85 = .ok (.imul, 1) := dk_i kdX12_odds_85 0 rfl
theorem dX12_odds_86 : decode cX12_odds 86 = .ok (.istore 5, 2) := dk_i kdX12_odds_85 1 rfl
theorem dX12_odds_88 : decode cX12_odds 88 = .ok (.lconst 0, 1) := dk_i kdX12_odds_85 2 rfl
theorem dX12_odds_89 : decode cX12_odds 89 = .ok (.lstore 6, 2) := dk_i kdX12_odds_85 3 rfl
theorem dX12_odds_91 : decode cX12_odds 91 = .ok (.iconst 0, 1) := dk_i kdX12_odds_85 4 rfl
theorem dX12_odds_92 : decode cX12_odds 92 = .ok (.istore 8, 2) := dk_i kdX12_odds_85 5 rfl
theorem dX12_odds_94 : decode cX12_odds 94 = .ok (.iload 8, 2) := dk_i kdX12_odds_85 6 rfl
theorem dX12_odds_96 : decode cX12_odds 96 = .ok (.iload 5, 2) := dk_i kdX12_odds_85 7 rfl
theorem dX12_odds_98 : decode cX12_odds 98 = .ok (.if_icmp .ge 163, 3) := dk_i kdX12_odds_85 8 rfl
theorem dX12_odds_101 : decode cX12_odds 101 = .ok (.aload_n 0, 1) := dk_i kdX12_odds_85 9 rfl
theorem dX12_odds_102 : decode cX12_odds 102 = .ok (.iconst 1, 1) := dk_i kdX12_odds_85 10 rfl
theorem dX12_odds_103 : decode cX12_odds 103 = .ok (.iconst 0, 1) := dk_i kdX12_odds_85 11 rfl
theorem dX12_odds_104 : decode cX12_odds 104 = .ok (.invokevirtual 418, 3) := dk_i kdX12_odds_85 12 rfl
theorem dX12_odds_107 : decode cX12_odds 107 = .ok (.lconst 1, 1) := dk_i kdX12_odds_85 13 rfl
theorem dX12_odds_108 : decode cX12_odds 108 = .ok (.lstore 9, 2) := dk_i kdX12_odds_85 14 rfl
theorem dX12_odds_110 : decode cX12_odds 110 = .ok (.iload 8, 2) := dk_i kdX12_odds_85 15 rfl
def ldX12_odds_112 : List (Nat × ClassFile.Instr × Nat) := [(112, .istore 11, 2), (114, .iconst 0, 1), (115, .istore 12, 2), (117, .iload 12, 2), (119, .iload_n 3, 1), (120, .if_icmp .ge 109, 3), (123, .iload 11, 2), (125, .iload 4, 2), (127, .iconst 1, 1), (128, .iadd, 1), (129, .irem, 1), (130, .istore 13, 2), (132, .iload 11, 2), (134, .iload 4, 2), (136, .iconst 1, 1), (137, .iadd, 1)]
theorem kdX12_odds_112 : dkO cX12_odds 112 ldX12_odds_112 = true := by decide +kernel
theorem dX12_odds_112 : decode cX12_odds 112 = .ok (.istore 11, 2) := dk_i kdX12_odds_112 0 rfl
theorem dX12_odds_114 : decode cX12_odds 114 = .ok (.iconst 0, 1) := dk_i kdX12_odds_112 1 rfl
theorem dX12_odds_115 : decode cX12_odds 115 = .ok (.istore 12, 2) := dk_i kdX12_odds_112 2 rfl
theorem dX12_odds_117 : decode cX12_odds 117 = .ok (.iload 12, 2) := dk_i kdX12_odds_112 3 rfl
theorem dX12_odds_119 : decode cX12_odds 119 = .ok (.iload_n 3, 1) := dk_i kdX12_odds_112 4 rfl
theorem dX12_odds_120 : decode cX12_odds 120 = .ok (.if_icmp .ge 109, 3) := dk_i kdX12_odds_112 5 rfl
theorem dX12_odds_123 : decode cX12_odds 123 = .ok (.iload 11, 2) := dk_i kdX12_odds_112 6 rfl
theorem dX12_odds_125 : decode cX12_odds 125 = .ok (.iload 4, 2) := dk_i kdX12_odds_112 7 rfl
theorem dX12_odds_127 : decode cX12_odds 127 = .ok (.iconst 1, 1) := dk_i kdX12_odds_112 8 rfl
theorem dX12_odds_128 : decode cX12_odds 128 = .ok (.iadd, 1) := dk_i kdX12_odds_112 9 rfl
theorem dX12_odds_129 : decode cX12_odds 129 = .ok (.irem, 1) := dk_i kdX12_odds_112 10 rfl
theorem dX12_odds_130 : decode cX12_odds 130 = .ok (.istore 13, 2) := dk_i kdX12_odds_112 11 rfl
theorem dX12_odds_132 : decode cX12_odds 132 = .ok (.iload 11, 2) := dk_i kdX12_odds_112 12 rfl
theorem dX12_odds_134 : decode cX12_odds 134 = .ok (.iload 4, 2) := dk_i kdX12_odds_112 13 rfl
theorem dX12_odds_136 : decode cX12_odds 136 = .ok (.iconst 1, 1) := dk_i kdX12_odds_112 14 rfl
theorem dX12_odds_137 : decode cX12_odds 137 = .ok (.iadd, 1) := dk_i kdX12_odds_112 15 rfl
def ldX12_odds_138 : List (Nat × ClassFile.Instr × Nat) := [(138, .idiv, 1), (139, .istore 11, 2), (141, .aload_n 0, 1), (142, .iconst 1, 1), (143, .invokevirtual 461, 3), (146, .iload 13, 2), (148, .iload 4, 2), (150, .if_icmp .ge 32, 3), (153, .aload_n 0, 1), (154, .iconst 1, 1), (155, .iload 13, 2), (157, .aload_n 0, 1), (158, .getfield 54, 3), (161, .aload_n 0, 1), (162, .getfield 51, 3), (165, .iaload, 1)]
theorem kdX12_odds_138 : dkO cX12_odds 138 ldX12_odds_138 = true := by decide +kernel
theorem dX12_odds_138 : decode cX12_odds 138 = .ok (.idiv, 1) := dk_i kdX12_odds_138 0 rfl
theorem dX12_odds_139 : decode cX12_odds 139 = .ok (.istore 11, 2) := dk_i kdX12_odds_138 1 rfl
theorem dX12_odds_141 : decode cX12_odds 141 = .ok (.aload_n 0, 1) := dk_i kdX12_odds_138 2 rfl
theorem dX12_odds_142 : decode cX12_odds 142 = .ok (.iconst 1, 1) := dk_i kdX12_odds_138 3 rfl
theorem dX12_odds_143 : decode cX12_odds 143 = .ok (.invokevirtual 461, 3) := dk_i kdX12_odds_138 4 rfl
theorem dX12_odds_146 : decode cX12_odds 146 = .ok (.iload 13, 2) := dk_i kdX12_odds_138 5 rfl
theorem dX12_odds_148 : decode cX12_odds 148 = .ok (.iload 4, 2) := dk_i kdX12_odds_138 6 rfl
theorem dX12_odds_150 : decode cX12_odds 150 = .ok (.if_icmp .ge 32, 3) := dk_i kdX12_odds_138 7 rfl
theorem dX12_odds_153 : decode cX12_odds 153 = .ok (.aload_n 0, 1) := dk_i kdX12_odds_138 8 rfl
theorem dX12_odds_154 : decode cX12_odds 154 = .ok (.iconst 1, 1) := dk_i kdX12_odds_138 9 rfl
theorem dX12_odds_155 : decode cX12_odds 155 = .ok (.iload 13, 2) := dk_i kdX12_odds_138 10 rfl
theorem dX12_odds_157 : decode cX12_odds 157 = .ok (.aload_n 0, 1) := dk_i kdX12_odds_138 11 rfl
theorem dX12_odds_158 : decode cX12_odds 158 = .ok (.getfield 54, 3) := dk_i kdX12_odds_138 12 rfl
theorem dX12_odds_161 : decode cX12_odds 161 = .ok (.aload_n 0, 1) := dk_i kdX12_odds_138 13 rfl
theorem dX12_odds_162 : decode cX12_odds 162 = .ok (.getfield 51, 3) := dk_i kdX12_odds_138 14 rfl
theorem dX12_odds_165 : decode cX12_odds 165 = .ok (.iaload, 1) := dk_i kdX12_odds_138 15 rfl
def ldX12_odds_166 : List (Nat × ClassFile.Instr × Nat) := [(166, .idiv, 1), (167, .iload 13, 2), (169, .aload_n 0, 1), (170, .getfield 54, 3), (173, .aload_n 0, 1), (174, .getfield 51, 3), (177, .iaload, 1), (178, .irem, 1), (179, .invokevirtual 457, 3), (182, .lload 9, 2), (184, .iload 13, 2), (186, .iload 4, 2), (188, .if_icmp .ge 16, 3), (191, .aload_n 0, 1), (192, .getfield 87, 3), (195, .aload_n 0, 1)]
theorem kdX12_odds_166 : dkO cX12_odds 166 ldX12_odds_166 = true := by decide +kernel
theorem dX12_odds_166 : decode cX12_odds 166 = .ok (.idiv, 1) := dk_i kdX12_odds_166 0 rfl
theorem dX12_odds_167 : decode cX12_odds 167 = .ok (.iload 13, 2) := dk_i kdX12_odds_166 1 rfl
theorem dX12_odds_169 : decode cX12_odds 169 = .ok (.aload_n 0, 1) := dk_i kdX12_odds_166 2 rfl
theorem dX12_odds_170 : decode cX12_odds 170 = .ok (.getfield 54, 3) := dk_i kdX12_odds_166 3 rfl
theorem dX12_odds_173 : decode cX12_odds 173 = .ok (.aload_n 0, 1) := dk_i kdX12_odds_166 4 rfl
theorem dX12_odds_174 : decode cX12_odds 174 = .ok (.getfield 51, 3) := dk_i kdX12_odds_166 5 rfl
theorem dX12_odds_177 : decode cX12_odds 177 = .ok (.iaload, 1) := dk_i kdX12_odds_166 6 rfl
theorem dX12_odds_178 : decode cX12_odds 178 = .ok (.irem, 1) := dk_i kdX12_odds_166 7 rfl
theorem dX12_odds_179 : decode cX12_odds 179 = .ok (.invokevirtual 457, 3) := dk_i kdX12_odds_166 8 rfl
theorem dX12_odds_182 : decode cX12_odds 182 = .ok (.lload 9, 2) := dk_i kdX12_odds_166 9 rfl
theorem dX12_odds_184 : decode cX12_odds 184 = .ok (.iload 13, 2) := dk_i kdX12_odds_166 10 rfl
theorem dX12_odds_186 : decode cX12_odds 186 = .ok (.iload 4, 2) := dk_i kdX12_odds_166 11 rfl
theorem dX12_odds_188 : decode cX12_odds 188 = .ok (.if_icmp .ge 16, 3) := dk_i kdX12_odds_166 12 rfl
theorem dX12_odds_191 : decode cX12_odds 191 = .ok (.aload_n 0, 1) := dk_i kdX12_odds_166 13 rfl
theorem dX12_odds_192 : decode cX12_odds 192 = .ok (.getfield 87, 3) := dk_i kdX12_odds_166 14 rfl
theorem dX12_odds_195 : decode cX12_odds 195 = .ok (.aload_n 0, 1) := dk_i kdX12_odds_166 15 rfl
def ldX12_odds_196 : List (Nat × ClassFile.Instr × Nat) := [(196, .getfield 51, 3), (199, .iaload, 1), (200, .i2l, 1), (201, .goto 19, 3), (204, .bipush 100, 2), (206, .aload_n 0, 1), (207, .getfield 87, 3), (210, .aload_n 0, 1), (211, .getfield 51, 3), (214, .iaload, 1), (215, .isub, 1), (216, .iload 4, 2), (218, .imul, 1), (219, .i2l, 1), (220, .lmul, 1), (221, .lstore 9, 2)]
theorem kdX12_odds_196 : dkO cX12_odds 196 ldX12_odds_196 = true := by decide +kernel
theorem dX12_odds_196 : decode cX12_odds 196 = .ok (.getfield 51, 3) := dk_i kdX12_odds_196 0 rfl
theorem dX12_odds_199 : decode cX12_odds 199 = .ok (.iaload, 1) := dk_i kdX12_odds_196 1 rfl
theorem dX12_odds_200 : decode cX12_odds 200 = .ok (.i2l, 1) := dk_i kdX12_odds_196 2 rfl
theorem dX12_odds_201 : decode cX12_odds 201 = .ok (.goto 19, 3) := dk_i kdX12_odds_196 3 rfl
theorem dX12_odds_204 : decode cX12_odds 204 = .ok (.bipush 100, 2) := dk_i kdX12_odds_196 4 rfl
theorem dX12_odds_206 : decode cX12_odds 206 = .ok (.aload_n 0, 1) := dk_i kdX12_odds_196 5 rfl
theorem dX12_odds_207 : decode cX12_odds 207 = .ok (.getfield 87, 3) := dk_i kdX12_odds_196 6 rfl
theorem dX12_odds_210 : decode cX12_odds 210 = .ok (.aload_n 0, 1) := dk_i kdX12_odds_196 7 rfl
theorem dX12_odds_211 : decode cX12_odds 211 = .ok (.getfield 51, 3) := dk_i kdX12_odds_196 8 rfl
theorem dX12_odds_214 : decode cX12_odds 214 = .ok (.iaload, 1) := dk_i kdX12_odds_196 9 rfl
theorem dX12_odds_215 : decode cX12_odds 215 = .ok (.isub, 1) := dk_i kdX12_odds_196 10 rfl
theorem dX12_odds_216 : decode cX12_odds 216 = .ok (.iload 4, 2) := dk_i kdX12_odds_196 11 rfl
theorem dX12_odds_218 : decode cX12_odds 218 = .ok (.imul, 1) := dk_i kdX12_odds_196 12 rfl
theorem dX12_odds_219 : decode cX12_odds 219 = .ok (.i2l, 1) := dk_i kdX12_odds_196 13 rfl
theorem dX12_odds_220 : decode cX12_odds 220 = .ok (.lmul, 1) := dk_i kdX12_odds_196 14 rfl
theorem dX12_odds_221 : decode cX12_odds 221 = .ok (.lstore 9, 2) := dk_i kdX12_odds_196 15 rfl
def ldX12_odds_223 : List (Nat × ClassFile.Instr × Nat) := [(223, .iinc 12 1, 3), (226, .goto (-109), 3), (229, .lload 6, 2), (231, .iload_n 2, 1), (232, .iconst (-1), 1), (233, .if_icmp .eq 13, 3), (236, .aload_n 0, 1), (237, .iconst 1, 1), (238, .iload_n 1, 1), (239, .invokevirtual 449, 3), (242, .iload_n 2, 1), (243, .if_icmp .ne 8, 3), (246, .lload 9, 2), (248, .goto 4, 3), (251, .lconst 0, 1), (252, .ladd, 1)]
theorem kdX12_odds_223 : dkO cX12_odds 223 ldX12_odds_223 = true := by decide +kernel
theorem dX12_odds_223 : decode cX12_odds 223 = .ok (.iinc 12 1, 3) := dk_i kdX12_odds_223 0 rfl
theorem dX12_odds_226 : decode cX12_odds 226 = .ok (.goto (-109), 3) := dk_i kdX12_odds_223 1 rfl
theorem dX12_odds_229 : decode cX12_odds 229 = .ok (.lload 6, 2) := dk_i kdX12_odds_223 2 rfl
theorem dX12_odds_231 : decode cX12_odds 231 = .ok (.iload_n 2, 1) := dk_i kdX12_odds_223 3 rfl
theorem dX12_odds_232 : decode cX12_odds 232 = .ok (.iconst (-1), 1) := dk_i kdX12_odds_223 4 rfl
theorem dX12_odds_233 : decode cX12_odds 233 = .ok (.if_icmp .eq 13, 3) := dk_i kdX12_odds_223 5 rfl
theorem dX12_odds_236 : decode cX12_odds 236 = .ok (.aload_n 0, 1) := dk_i kdX12_odds_223 6 rfl
theorem dX12_odds_237 : decode cX12_odds 237 = .ok (.iconst 1, 1) := dk_i kdX12_odds_223 7 rfl
theorem dX12_odds_238 : decode cX12_odds 238 = .ok (.iload_n 1, 1) := dk_i kdX12_odds_223 8 rfl
theorem dX12_odds_239 : decode cX12_odds 239 = .ok (.invokevirtual 449, 3) := dk_i kdX12_odds_223 9 rfl
theorem dX12_odds_242 : decode cX12_odds 242 = .ok (.iload_n 2, 1) := dk_i kdX12_odds_223 10 rfl
theorem dX12_odds_243 : decode cX12_odds 243 = .ok (.if_icmp .ne 8, 3) := dk_i kdX12_odds_223 11 rfl
theorem dX12_odds_246 : decode cX12_odds 246 = .ok (.lload 9, 2) := dk_i kdX12_odds_223 12 rfl
theorem dX12_odds_248 : decode cX12_odds 248 = .ok (.goto 4, 3) := dk_i kdX12_odds_223 13 rfl
theorem dX12_odds_251 : decode cX12_odds 251 = .ok (.lconst 0, 1) := dk_i kdX12_odds_223 14 rfl
theorem dX12_odds_252 : decode cX12_odds 252 = .ok (.ladd, 1) := dk_i kdX12_odds_223 15 rfl
def ldX12_odds_253 : List (Nat × ClassFile.Instr × Nat) := [(253, .lstore 6, 2), (255, .iinc 8 1, 3), (258, .goto (-164), 3), (261, .lload 6, 2), (263, .lreturn, 1)]
theorem kdX12_odds_253 : dkO cX12_odds 253 ldX12_odds_253 = true := by decide +kernel
theorem dX12_odds_253 : decode cX12_odds 253 = .ok (.lstore 6, 2) := dk_i kdX12_odds_253 0 rfl
theorem dX12_odds_255 : decode cX12_odds 255 = .ok (.iinc 8 1, 3) := dk_i kdX12_odds_253 1 rfl
theorem dX12_odds_258 : decode cX12_odds 258 = .ok (.goto (-164), 3) := dk_i kdX12_odds_253 2 rfl
theorem dX12_odds_261 : decode cX12_odds 261 = .ok (.lload 6, 2) := dk_i kdX12_odds_253 3 rfl
theorem dX12_odds_263 : decode cX12_odds 263 = .ok (.lreturn, 1) := dk_i kdX12_odds_253 4 rfl
def ldX12_way_0 : List (Nat × ClassFile.Instr × Nat) := [(0, .aload_n 0, 1), (1, .iload_n 1, 1), (2, .invokevirtual 472, 3), (5, .ifCond .eq 50, 3), (8, .aload_n 0, 1), (9, .iload_n 2, 1), (10, .invokevirtual 472, 3), (13, .ifCond .eq 42, 3), (16, .aload_n 0, 1), (17, .getfield 75, 3), (20, .aload_n 0, 1), (21, .aload_n 0, 1), (22, .getfield 51, 3), (25, .iload_n 1, 1), (26, .iload_n 2, 1), (27, .invokevirtual 369, 3)]
theorem kdX12_way_0 : dkO cX12_way 0 ldX12_way_0 = true := by decide +kernel
theorem dX12_way_0 : decode cX12_way 0 = .ok (.aload_n 0, 1) := dk_i kdX12_way_0 0 rfl
theorem dX12_way_1 : decode cX12_way 1 = .ok (.iload_n 1, 1) := dk_i kdX12_way_0 1 rfl
theorem dX12_way_2 : decode cX12_way 2 = .ok (.invokevirtual 472, 3) := dk_i kdX12_way_0 2 rfl
theorem dX12_way_5 : decode cX12_way 5 = .ok (.ifCond .eq 50, 3) := dk_i kdX12_way_0 3 rfl
theorem dX12_way_8 : decode cX12_way 8 = .ok (.aload_n 0, 1) := dk_i kdX12_way_0 4 rfl
theorem dX12_way_9 : decode cX12_way 9 = .ok (.iload_n 2, 1) := dk_i kdX12_way_0 5 rfl
theorem dX12_way_10 : decode cX12_way 10 = .ok (.invokevirtual 472, 3) := dk_i kdX12_way_0 6 rfl
theorem dX12_way_13 : decode cX12_way 13 = .ok (.ifCond .eq 42, 3) := dk_i kdX12_way_0 7 rfl
theorem dX12_way_16 : decode cX12_way 16 = .ok (.aload_n 0, 1) := dk_i kdX12_way_0 8 rfl
theorem dX12_way_17 : decode cX12_way 17 = .ok (.getfield 75, 3) := dk_i kdX12_way_0 9 rfl
theorem dX12_way_20 : decode cX12_way 20 = .ok (.aload_n 0, 1) := dk_i kdX12_way_0 10 rfl
theorem dX12_way_21 : decode cX12_way 21 = .ok (.aload_n 0, 1) := dk_i kdX12_way_0 11 rfl
theorem dX12_way_22 : decode cX12_way 22 = .ok (.getfield 51, 3) := dk_i kdX12_way_0 12 rfl
theorem dX12_way_25 : decode cX12_way 25 = .ok (.iload_n 1, 1) := dk_i kdX12_way_0 13 rfl
theorem dX12_way_26 : decode cX12_way 26 = .ok (.iload_n 2, 1) := dk_i kdX12_way_0 14 rfl
theorem dX12_way_27 : decode cX12_way 27 = .ok (.invokevirtual 369, 3) := dk_i kdX12_way_0 15 rfl
def ldX12_way_30 : List (Nat × ClassFile.Instr × Nat) := [(30, .iaload, 1), (31, .ldc_w 399, 3), (34, .if_icmp .ge 21, 3), (37, .aload_n 0, 1), (38, .getfield 75, 3), (41, .aload_n 0, 1), (42, .aload_n 0, 1), (43, .getfield 51, 3), (46, .iload_n 1, 1), (47, .iload_n 2, 1), (48, .invokevirtual 369, 3), (51, .iaload, 1), (52, .goto 4, 3), (55, .iconst (-1), 1), (56, .ireturn, 1)]
theorem kdX12_way_30 : dkO cX12_way 30 ldX12_way_30 = true := by decide +kernel
theorem dX12_way_30 : decode cX12_way 30 = .ok (.iaload, 1) := dk_i kdX12_way_30 0 rfl
theorem dX12_way_31 : decode cX12_way 31 = .ok (.ldc_w 399, 3) := dk_i kdX12_way_30 1 rfl
theorem dX12_way_34 : decode cX12_way 34 = .ok (.if_icmp .ge 21, 3) := dk_i kdX12_way_30 2 rfl
theorem dX12_way_37 : decode cX12_way 37 = .ok (.aload_n 0, 1) := dk_i kdX12_way_30 3 rfl
theorem dX12_way_38 : decode cX12_way 38 = .ok (.getfield 75, 3) := dk_i kdX12_way_30 4 rfl
theorem dX12_way_41 : decode cX12_way 41 = .ok (.aload_n 0, 1) := dk_i kdX12_way_30 5 rfl
theorem dX12_way_42 : decode cX12_way 42 = .ok (.aload_n 0, 1) := dk_i kdX12_way_30 6 rfl
theorem dX12_way_43 : decode cX12_way 43 = .ok (.getfield 51, 3) := dk_i kdX12_way_30 7 rfl
theorem dX12_way_46 : decode cX12_way 46 = .ok (.iload_n 1, 1) := dk_i kdX12_way_30 8 rfl
theorem dX12_way_47 : decode cX12_way 47 = .ok (.iload_n 2, 1) := dk_i kdX12_way_30 9 rfl
theorem dX12_way_48 : decode cX12_way 48 = .ok (.invokevirtual 369, 3) := dk_i kdX12_way_30 10 rfl
theorem dX12_way_51 : decode cX12_way 51 = .ok (.iaload, 1) := dk_i kdX12_way_30 11 rfl
theorem dX12_way_52 : decode cX12_way 52 = .ok (.goto 4, 3) := dk_i kdX12_way_30 12 rfl
theorem dX12_way_55 : decode cX12_way 55 = .ok (.iconst (-1), 1) := dk_i kdX12_way_30 13 rfl
theorem dX12_way_56 : decode cX12_way 56 = .ok (.ireturn, 1) := dk_i kdX12_way_30 14 rfl
def ldX12_arrive_0 : List (Nat × ClassFile.Instr × Nat) := [(0, .aload_n 0, 1), (1, .iload_n 1, 1), (2, .iload_n 2, 1), (3, .invokevirtual 489, 3), (6, .istore_n 3, 1), (7, .iload_n 3, 1), (8, .iconst (-1), 1), (9, .if_icmp .ne 7, 3), (12, .iconst (-1), 1), (13, .goto 9, 3), (16, .aload_n 0, 1), (17, .iload_n 2, 1), (18, .iload_n 3, 1), (19, .invokevirtual 492, 3), (22, .ireturn, 1)]
theorem kdX12_arrive_0 : dkO cX12_arrive 0 ldX12_arrive_0 = true := by decide +kernel
theorem dX12_arrive_0 : decode cX12_arrive 0 = .ok (.aload_n 0, 1) := dk_i kdX12_arrive_0 0 rfl
theorem dX12_arrive_1 : decode cX12_arrive 1 = .ok (.iload_n 1, 1) := dk_i kdX12_arrive_0 1 rfl
theorem dX12_arrive_2 : decode cX12_arrive 2 = .ok (.iload_n 2, 1) := dk_i kdX12_arrive_0 2 rfl
theorem dX12_arrive_3 : decode cX12_arrive 3 = .ok (.invokevirtual 489, 3) := dk_i kdX12_arrive_0 3 rfl
theorem dX12_arrive_6 : decode cX12_arrive 6 = .ok (.istore_n 3, 1) := dk_i kdX12_arrive_0 4 rfl
theorem dX12_arrive_7 : decode cX12_arrive 7 = .ok (.iload_n 3, 1) := dk_i kdX12_arrive_0 5 rfl
theorem dX12_arrive_8 : decode cX12_arrive 8 = .ok (.iconst (-1), 1) := dk_i kdX12_arrive_0 6 rfl
theorem dX12_arrive_9 : decode cX12_arrive 9 = .ok (.if_icmp .ne 7, 3) := dk_i kdX12_arrive_0 7 rfl
theorem dX12_arrive_12 : decode cX12_arrive 12 = .ok (.iconst (-1), 1) := dk_i kdX12_arrive_0 8 rfl
theorem dX12_arrive_13 : decode cX12_arrive 13 = .ok (.goto 9, 3) := dk_i kdX12_arrive_0 9 rfl
theorem dX12_arrive_16 : decode cX12_arrive 16 = .ok (.aload_n 0, 1) := dk_i kdX12_arrive_0 10 rfl
theorem dX12_arrive_17 : decode cX12_arrive 17 = .ok (.iload_n 2, 1) := dk_i kdX12_arrive_0 11 rfl
theorem dX12_arrive_18 : decode cX12_arrive 18 = .ok (.iload_n 3, 1) := dk_i kdX12_arrive_0 12 rfl
theorem dX12_arrive_19 : decode cX12_arrive 19 = .ok (.invokevirtual 492, 3) := dk_i kdX12_arrive_0 13 rfl
theorem dX12_arrive_22 : decode cX12_arrive 22 = .ok (.ireturn, 1) := dk_i kdX12_arrive_0 14 rfl
def ldX12_early_0 : List (Nat × ClassFile.Instr × Nat) := [(0, .aload_n 0, 1), (1, .iload_n 1, 1), (2, .invokevirtual 472, 3), (5, .ifCond .ne 5, 3), (8, .iconst (-1), 1), (9, .ireturn, 1), (10, .aload_n 0, 1), (11, .getfield 195, 3), (14, .iconst 0, 1), (15, .iconst 1, 1), (16, .iload_n 1, 1), (17, .ishl, 1), (18, .iastore, 1), (19, .iconst 1, 1), (20, .istore_n 2, 1), (21, .iload_n 2, 1)]
theorem kdX12_early_0 : dkO cX12_early 0 ldX12_early_0 = true := by decide +kernel
theorem dX12_early_0 : decode cX12_early 0 = .ok (.aload_n 0, 1) := dk_i kdX12_early_0 0 rfl
theorem dX12_early_1 : decode cX12_early 1 = .ok (.iload_n 1, 1) := dk_i kdX12_early_0 1 rfl
theorem dX12_early_2 : decode cX12_early 2 = .ok (.invokevirtual 472, 3) := dk_i kdX12_early_0 2 rfl
theorem dX12_early_5 : decode cX12_early 5 = .ok (.ifCond .ne 5, 3) := dk_i kdX12_early_0 3 rfl
theorem dX12_early_8 : decode cX12_early 8 = .ok (.iconst (-1), 1) := dk_i kdX12_early_0 4 rfl
theorem dX12_early_9 : decode cX12_early 9 = .ok (.ireturn, 1) := dk_i kdX12_early_0 5 rfl
theorem dX12_early_10 : decode cX12_early 10 = .ok (.aload_n 0, 1) := dk_i kdX12_early_0 6 rfl
theorem dX12_early_11 : decode cX12_early 11 = .ok (.getfield 195, 3) := dk_i kdX12_early_0 7 rfl
theorem dX12_early_14 : decode cX12_early 14 = .ok (.iconst 0, 1) := dk_i kdX12_early_0 8 rfl
theorem dX12_early_15 : decode cX12_early 15 = .ok (.iconst 1, 1) := dk_i kdX12_early_0 9 rfl
theorem dX12_early_16 : decode cX12_early 16 = .ok (.iload_n 1, 1) := dk_i kdX12_early_0 10 rfl
theorem dX12_early_17 : decode cX12_early 17 = .ok (.ishl, 1) := dk_i kdX12_early_0 11 rfl
theorem dX12_early_18 : decode cX12_early 18 = .ok (.iastore, 1) := dk_i kdX12_early_0 12 rfl
theorem dX12_early_19 : decode cX12_early 19 = .ok (.iconst 1, 1) := dk_i kdX12_early_0 13 rfl
theorem dX12_early_20 : decode cX12_early 20 = .ok (.istore_n 2, 1) := dk_i kdX12_early_0 14 rfl
theorem dX12_early_21 : decode cX12_early 21 = .ok (.iload_n 2, 1) := dk_i kdX12_early_0 15 rfl
def ldX12_early_22 : List (Nat × ClassFile.Instr × Nat) := [(22, .bipush 60, 2), (24, .if_icmp .gt 106, 3), (27, .aload_n 0, 1), (28, .getfield 195, 3), (31, .iload_n 2, 1), (32, .iconst 0, 1), (33, .iastore, 1), (34, .iconst 0, 1), (35, .istore_n 3, 1), (36, .iload_n 3, 1), (37, .iconst 5, 1), (38, .if_icmp .ge 86, 3), (41, .iconst 0, 1), (42, .istore 4, 2), (44, .iload 4, 2), (46, .iconst 5, 1)]
theorem kdX12_early_22 : dkO cX12_early 22 ldX12_early_22 = true := by decide +kernel
theorem dX12_early_22 : decode cX12_early 22 = .ok (.bipush 60, 2) := dk_i kdX12_early_22 0 rfl
theorem dX12_early_24 : decode cX12_early 24 = .ok (.if_icmp .gt 106, 3) := dk_i kdX12_early_22 1 rfl
theorem dX12_early_27 : decode cX12_early 27 = .ok (.aload_n 0, 1) := dk_i kdX12_early_22 2 rfl
theorem dX12_early_28 : decode cX12_early 28 = .ok (.getfield 195, 3) := dk_i kdX12_early_22 3 rfl
theorem dX12_early_31 : decode cX12_early 31 = .ok (.iload_n 2, 1) := dk_i kdX12_early_22 4 rfl
theorem dX12_early_32 : decode cX12_early 32 = .ok (.iconst 0, 1) := dk_i kdX12_early_22 5 rfl
theorem dX12_early_33 : decode cX12_early 33 = .ok (.iastore, 1) := dk_i kdX12_early_22 6 rfl
theorem dX12_early_34 : decode cX12_early 34 = .ok (.iconst 0, 1) := dk_i kdX12_early_22 7 rfl
theorem dX12_early_35 : decode cX12_early 35 = .ok (.istore_n 3, 1) := dk_i kdX12_early_22 8 rfl
theorem dX12_early_36 : decode cX12_early 36 = .ok (.iload_n 3, 1) := dk_i kdX12_early_22 9 rfl
theorem dX12_early_37 : decode cX12_early 37 = .ok (.iconst 5, 1) := dk_i kdX12_early_22 10 rfl
theorem dX12_early_38 : decode cX12_early 38 = .ok (.if_icmp .ge 86, 3) := dk_i kdX12_early_22 11 rfl
theorem dX12_early_41 : decode cX12_early 41 = .ok (.iconst 0, 1) := dk_i kdX12_early_22 12 rfl
theorem dX12_early_42 : decode cX12_early 42 = .ok (.istore 4, 2) := dk_i kdX12_early_22 13 rfl
theorem dX12_early_44 : decode cX12_early 44 = .ok (.iload 4, 2) := dk_i kdX12_early_22 14 rfl
theorem dX12_early_46 : decode cX12_early 46 = .ok (.iconst 5, 1) := dk_i kdX12_early_22 15 rfl
def ldX12_early_47 : List (Nat × ClassFile.Instr × Nat) := [(47, .if_icmp .ge 71, 3), (50, .aload_n 0, 1), (51, .getfield 72, 3), (54, .aload_n 0, 1), (55, .aload_n 0, 1), (56, .getfield 51, 3), (59, .iload_n 3, 1), (60, .iload 4, 2), (62, .invokevirtual 369, 3), (65, .iaload, 1), (66, .istore 5, 2), (68, .aload_n 0, 1), (69, .getfield 195, 3), (72, .iload_n 2, 1), (73, .dup2, 1), (74, .iaload, 1)]
theorem kdX12_early_47 : dkO cX12_early 47 ldX12_early_47 = true := by decide +kernel
theorem dX12_early_47 : decode cX12_early 47 = .ok (.if_icmp .ge 71, 3) := dk_i kdX12_early_47 0 rfl
theorem dX12_early_50 : decode cX12_early 50 = .ok (.aload_n 0, 1) := dk_i kdX12_early_47 1 rfl
theorem dX12_early_51 : decode cX12_early 51 = .ok (.getfield 72, 3) := dk_i kdX12_early_47 2 rfl
theorem dX12_early_54 : decode cX12_early 54 = .ok (.aload_n 0, 1) := dk_i kdX12_early_47 3 rfl
theorem dX12_early_55 : decode cX12_early 55 = .ok (.aload_n 0, 1) := dk_i kdX12_early_47 4 rfl
theorem dX12_early_56 : decode cX12_early 56 = .ok (.getfield 51, 3) := dk_i kdX12_early_47 5 rfl
theorem dX12_early_59 : decode cX12_early 59 = .ok (.iload_n 3, 1) := dk_i kdX12_early_47 6 rfl
theorem dX12_early_60 : decode cX12_early 60 = .ok (.iload 4, 2) := dk_i kdX12_early_47 7 rfl
theorem dX12_early_62 : decode cX12_early 62 = .ok (.invokevirtual 369, 3) := dk_i kdX12_early_47 8 rfl
theorem dX12_early_65 : decode cX12_early 65 = .ok (.iaload, 1) := dk_i kdX12_early_47 9 rfl
theorem dX12_early_66 : decode cX12_early 66 = .ok (.istore 5, 2) := dk_i kdX12_early_47 10 rfl
theorem dX12_early_68 : decode cX12_early 68 = .ok (.aload_n 0, 1) := dk_i kdX12_early_47 11 rfl
theorem dX12_early_69 : decode cX12_early 69 = .ok (.getfield 195, 3) := dk_i kdX12_early_47 12 rfl
theorem dX12_early_72 : decode cX12_early 72 = .ok (.iload_n 2, 1) := dk_i kdX12_early_47 13 rfl
theorem dX12_early_73 : decode cX12_early 73 = .ok (.dup2, 1) := dk_i kdX12_early_47 14 rfl
theorem dX12_early_74 : decode cX12_early 74 = .ok (.iaload, 1) := dk_i kdX12_early_47 15 rfl
def ldX12_early_75 : List (Nat × ClassFile.Instr × Nat) := [(75, .iload 5, 2), (77, .ifCond .le 32, 3), (80, .iload 5, 2), (82, .iload_n 2, 1), (83, .if_icmp .gt 26, 3), (86, .aload_n 0, 1), (87, .getfield 195, 3), (90, .iload_n 2, 1), (91, .iload 5, 2), (93, .isub, 1), (94, .iaload, 1), (95, .iload_n 3, 1), (96, .invokestatic 347, 3), (99, .ifCond .eq 10, 3), (102, .iconst 1, 1), (103, .iload 4, 2)]
theorem kdX12_early_75 : dkO cX12_early 75 ldX12_early_75 = true := by decide +kernel
theorem dX12_early_75 : decode cX12_early 75 = .ok (.iload 5, 2) := dk_i kdX12_early_75 0 rfl
theorem dX12_early_77 : decode cX12_early 77 = .ok (.ifCond .le 32, 3) := dk_i kdX12_early_75 1 rfl
theorem dX12_early_80 : decode cX12_early 80 = .ok (.iload 5, 2) := dk_i kdX12_early_75 2 rfl
theorem dX12_early_82 : decode cX12_early 82 = .ok (.iload_n 2, 1) := dk_i kdX12_early_75 3 rfl
theorem dX12_early_83 : decode cX12_early 83 = .ok (.if_icmp .gt 26, 3) := dk_i kdX12_early_75 4 rfl
theorem dX12_early_86 : decode cX12_early 86 = .ok (.aload_n 0, 1) := dk_i kdX12_early_75 5 rfl
theorem dX12_early_87 : decode cX12_early 87 = .ok (.getfield 195, 3) := dk_i kdX12_early_75 6 rfl
theorem dX12_early_90 : decode cX12_early 90 = .ok (.iload_n 2, 1) := dk_i kdX12_early_75 7 rfl
theorem dX12_early_91 : decode cX12_early 91 = .ok (.iload 5, 2) := dk_i kdX12_early_75 8 rfl
theorem dX12_early_93 : decode cX12_early 93 = .ok (.isub, 1) := dk_i kdX12_early_75 9 rfl
theorem dX12_early_94 : decode cX12_early 94 = .ok (.iaload, 1) := dk_i kdX12_early_75 10 rfl
theorem dX12_early_95 : decode cX12_early 95 = .ok (.iload_n 3, 1) := dk_i kdX12_early_75 11 rfl
theorem dX12_early_96 : decode cX12_early 96 = .ok (.invokestatic 347, 3) := dk_i kdX12_early_75 12 rfl
theorem dX12_early_99 : decode cX12_early 99 = .ok (.ifCond .eq 10, 3) := dk_i kdX12_early_75 13 rfl
theorem dX12_early_102 : decode cX12_early 102 = .ok (.iconst 1, 1) := dk_i kdX12_early_75 14 rfl
theorem dX12_early_103 : decode cX12_early 103 = .ok (.iload 4, 2) := dk_i kdX12_early_75 15 rfl
def ldX12_early_105 : List (Nat × ClassFile.Instr × Nat) := [(105, .ishl, 1), (106, .goto 4, 3), (109, .iconst 0, 1), (110, .ior, 1), (111, .iastore, 1), (112, .iinc 4 1, 3), (115, .goto (-71), 3), (118, .iinc 3 1, 3), (121, .goto (-85), 3), (124, .iinc 2 1, 3), (127, .goto (-106), 3), (130, .aload_n 0, 1), (131, .iconst 0, 1), (132, .iload_n 1, 1), (133, .invokevirtual 449, 3), (136, .istore_n 2, 1)]
theorem kdX12_early_105 : dkO cX12_early 105 ldX12_early_105 = true := by decide +kernel
theorem dX12_early_105 : decode cX12_early 105 = .ok (.ishl, 1) := dk_i kdX12_early_105 0 rfl
theorem dX12_early_106 : decode cX12_early 106 = .ok (.goto 4, 3) := dk_i kdX12_early_105 1 rfl
theorem dX12_early_109 : decode cX12_early 109 = .ok (.iconst 0, 1) := dk_i kdX12_early_105 2 rfl
theorem dX12_early_110 : decode cX12_early 110 = .ok (.ior, 1) := dk_i kdX12_early_105 3 rfl
theorem dX12_early_111 : decode cX12_early 111 = .ok (.iastore, 1) := dk_i kdX12_early_105 4 rfl
theorem dX12_early_112 : decode cX12_early 112 = .ok (.iinc 4 1, 3) := dk_i kdX12_early_105 5 rfl
theorem dX12_early_115 : decode cX12_early 115 = .ok (.goto (-71), 3) := dk_i kdX12_early_105 6 rfl
theorem dX12_early_118 : decode cX12_early 118 = .ok (.iinc 3 1, 3) := dk_i kdX12_early_105 7 rfl
theorem dX12_early_121 : decode cX12_early 121 = .ok (.goto (-85), 3) := dk_i kdX12_early_105 8 rfl
theorem dX12_early_124 : decode cX12_early 124 = .ok (.iinc 2 1, 3) := dk_i kdX12_early_105 9 rfl
theorem dX12_early_127 : decode cX12_early 127 = .ok (.goto (-106), 3) := dk_i kdX12_early_105 10 rfl
theorem dX12_early_130 : decode cX12_early 130 = .ok (.aload_n 0, 1) := dk_i kdX12_early_105 11 rfl
theorem dX12_early_131 : decode cX12_early 131 = .ok (.iconst 0, 1) := dk_i kdX12_early_105 12 rfl
theorem dX12_early_132 : decode cX12_early 132 = .ok (.iload_n 1, 1) := dk_i kdX12_early_105 13 rfl
theorem dX12_early_133 : decode cX12_early 133 = .ok (.invokevirtual 449, 3) := dk_i kdX12_early_105 14 rfl
theorem dX12_early_136 : decode cX12_early 136 = .ok (.istore_n 2, 1) := dk_i kdX12_early_105 15 rfl
def ldX12_early_137 : List (Nat × ClassFile.Instr × Nat) := [(137, .aload_n 0, 1), (138, .iconst 1, 1), (139, .iconst 0, 1), (140, .invokevirtual 418, 3), (143, .iconst 1, 1), (144, .istore_n 3, 1), (145, .aload_n 0, 1), (146, .iload_n 3, 1), (147, .iconst 1, 1), (148, .bipush 60, 2), (150, .invokevirtual 478, 3), (153, .ifCond .eq 39, 3), (156, .aload_n 0, 1), (157, .iconst 1, 1), (158, .invokevirtual 461, 3), (161, .aload_n 0, 1)]
theorem kdX12_early_137 : dkO cX12_early 137 ldX12_early_137 = true := by decide +kernel
theorem dX12_early_137 : decode cX12_early 137 = .ok (.aload_n 0, 1) := dk_i kdX12_early_137 0 rfl
theorem dX12_early_138 : decode cX12_early 138 = .ok (.iconst 1, 1) := dk_i kdX12_early_137 1 rfl
theorem dX12_early_139 : decode cX12_early 139 = .ok (.iconst 0, 1) := dk_i kdX12_early_137 2 rfl
theorem dX12_early_140 : decode cX12_early 140 = .ok (.invokevirtual 418, 3) := dk_i kdX12_early_137 3 rfl
theorem dX12_early_143 : decode cX12_early 143 = .ok (.iconst 1, 1) := dk_i kdX12_early_137 4 rfl
theorem dX12_early_144 : decode cX12_early 144 = .ok (.istore_n 3, 1) := dk_i kdX12_early_137 5 rfl
theorem dX12_early_145 : decode cX12_early 145 = .ok (.aload_n 0, 1) := dk_i kdX12_early_137 6 rfl
theorem dX12_early_146 : decode cX12_early 146 = .ok (.iload_n 3, 1) := dk_i kdX12_early_137 7 rfl
theorem dX12_early_147 : decode cX12_early 147 = .ok (.iconst 1, 1) := dk_i kdX12_early_137 8 rfl
theorem dX12_early_148 : decode cX12_early 148 = .ok (.bipush 60, 2) := dk_i kdX12_early_137 9 rfl
theorem dX12_early_150 : decode cX12_early 150 = .ok (.invokevirtual 478, 3) := dk_i kdX12_early_137 10 rfl
theorem dX12_early_153 : decode cX12_early 153 = .ok (.ifCond .eq 39, 3) := dk_i kdX12_early_137 11 rfl
theorem dX12_early_156 : decode cX12_early 156 = .ok (.aload_n 0, 1) := dk_i kdX12_early_137 12 rfl
theorem dX12_early_157 : decode cX12_early 157 = .ok (.iconst 1, 1) := dk_i kdX12_early_137 13 rfl
theorem dX12_early_158 : decode cX12_early 158 = .ok (.invokevirtual 461, 3) := dk_i kdX12_early_137 14 rfl
theorem dX12_early_161 : decode cX12_early 161 = .ok (.aload_n 0, 1) := dk_i kdX12_early_137 15 rfl
def ldX12_early_162 : List (Nat × ClassFile.Instr × Nat) := [(162, .getfield 195, 3), (165, .iload_n 3, 1), (166, .iaload, 1), (167, .iload_n 1, 1), (168, .invokestatic 347, 3), (171, .ifCond .eq 15, 3), (174, .aload_n 0, 1), (175, .iconst 1, 1), (176, .iload_n 1, 1), (177, .invokevirtual 449, 3), (180, .iload_n 2, 1), (181, .if_icmp .ge 5, 3), (184, .iload_n 3, 1), (185, .ireturn, 1), (186, .iinc 3 1, 3), (189, .goto (-44), 3)]
theorem kdX12_early_162 : dkO cX12_early 162 ldX12_early_162 = true := by decide +kernel
theorem dX12_early_162 : decode cX12_early 162 = .ok (.getfield 195, 3) := dk_i kdX12_early_162 0 rfl
theorem dX12_early_165 : decode cX12_early 165 = .ok (.iload_n 3, 1) := dk_i kdX12_early_162 1 rfl
theorem dX12_early_166 : decode cX12_early 166 = .ok (.iaload, 1) := dk_i kdX12_early_162 2 rfl
theorem dX12_early_167 : decode cX12_early 167 = .ok (.iload_n 1, 1) := dk_i kdX12_early_162 3 rfl
theorem dX12_early_168 : decode cX12_early 168 = .ok (.invokestatic 347, 3) := dk_i kdX12_early_162 4 rfl
theorem dX12_early_171 : decode cX12_early 171 = .ok (.ifCond .eq 15, 3) := dk_i kdX12_early_162 5 rfl
theorem dX12_early_174 : decode cX12_early 174 = .ok (.aload_n 0, 1) := dk_i kdX12_early_162 6 rfl
theorem dX12_early_175 : decode cX12_early 175 = .ok (.iconst 1, 1) := dk_i kdX12_early_162 7 rfl
theorem dX12_early_176 : decode cX12_early 176 = .ok (.iload_n 1, 1) := dk_i kdX12_early_162 8 rfl
theorem dX12_early_177 : decode cX12_early 177 = .ok (.invokevirtual 449, 3) := dk_i kdX12_early_162 9 rfl
theorem dX12_early_180 : decode cX12_early 180 = .ok (.iload_n 2, 1) := dk_i kdX12_early_162 10 rfl
theorem dX12_early_181 : decode cX12_early 181 = .ok (.if_icmp .ge 5, 3) := dk_i kdX12_early_162 11 rfl
theorem dX12_early_184 : decode cX12_early 184 = .ok (.iload_n 3, 1) := dk_i kdX12_early_162 12 rfl
theorem dX12_early_185 : decode cX12_early 185 = .ok (.ireturn, 1) := dk_i kdX12_early_162 13 rfl
theorem dX12_early_186 : decode cX12_early 186 = .ok (.iinc 3 1, 3) := dk_i kdX12_early_162 14 rfl
theorem dX12_early_189 : decode cX12_early 189 = .ok (.goto (-44), 3) := dk_i kdX12_early_162 15 rfl
def ldX12_early_192 : List (Nat × ClassFile.Instr × Nat) := [(192, .iconst (-1), 1), (193, .ireturn, 1)]
theorem kdX12_early_192 : dkO cX12_early 192 ldX12_early_192 = true := by decide +kernel
theorem dX12_early_192 : decode cX12_early 192 = .ok (.iconst (-1), 1) := dk_i kdX12_early_192 0 rfl
theorem dX12_early_193 : decode cX12_early 193 = .ok (.ireturn, 1) := dk_i kdX12_early_192 1 rfl
def ldX12_see_0 : List (Nat × ClassFile.Instr × Nat) := [(0, .aload_n 0, 1), (1, .getfield 13, 3), (4, .istore_n 1, 1), (5, .aload_n 0, 1), (6, .iconst 0, 1), (7, .putfield 13, 3), (10, .iload_n 1, 1), (11, .ifCond .le 19, 3), (14, .iload_n 1, 1), (15, .iconst 3, 1), (16, .irem, 1), (17, .ifCond .ne 13, 3), (20, .iload_n 1, 1), (21, .bipush 48, 2), (23, .if_icmp .gt 7, 3), (26, .iconst 1, 1)]
theorem kdX12_see_0 : dkO cX12_see 0 ldX12_see_0 = true := by decide +kernel
theorem dX12_see_0 : decode cX12_see 0 = .ok (.aload_n 0, 1) := dk_i kdX12_see_0 0 rfl
theorem dX12_see_1 : decode cX12_see 1 = .ok (.getfield 13, 3) := dk_i kdX12_see_0 1 rfl
theorem dX12_see_4 : decode cX12_see 4 = .ok (.istore_n 1, 1) := dk_i kdX12_see_0 2 rfl
theorem dX12_see_5 : decode cX12_see 5 = .ok (.aload_n 0, 1) := dk_i kdX12_see_0 3 rfl
theorem dX12_see_6 : decode cX12_see 6 = .ok (.iconst 0, 1) := dk_i kdX12_see_0 4 rfl
theorem dX12_see_7 : decode cX12_see 7 = .ok (.putfield 13, 3) := dk_i kdX12_see_0 5 rfl
theorem dX12_see_10 : decode cX12_see 10 = .ok (.iload_n 1, 1) := dk_i kdX12_see_0 6 rfl
theorem dX12_see_11 : decode cX12_see 11 = .ok (.ifCond .le 19, 3) := dk_i kdX12_see_0 7 rfl
theorem dX12_see_14 : decode cX12_see 14 = .ok (.iload_n 1, 1) := dk_i kdX12_see_0 8 rfl
theorem dX12_see_15 : decode cX12_see 15 = .ok (.iconst 3, 1) := dk_i kdX12_see_0 9 rfl
theorem dX12_see_16 : decode cX12_see 16 = .ok (.irem, 1) := dk_i kdX12_see_0 10 rfl
theorem dX12_see_17 : decode cX12_see 17 = .ok (.ifCond .ne 13, 3) := dk_i kdX12_see_0 11 rfl
theorem dX12_see_20 : decode cX12_see 20 = .ok (.iload_n 1, 1) := dk_i kdX12_see_0 12 rfl
theorem dX12_see_21 : decode cX12_see 21 = .ok (.bipush 48, 2) := dk_i kdX12_see_0 13 rfl
theorem dX12_see_23 : decode cX12_see 23 = .ok (.if_icmp .gt 7, 3) := dk_i kdX12_see_0 14 rfl
theorem dX12_see_26 : decode cX12_see 26 = .ok (.iconst 1, 1) := dk_i kdX12_see_0 15 rfl
def ldX12_see_27 : List (Nat × ClassFile.Instr × Nat) := [(27, .goto 4, 3), (30, .iconst 0, 1), (31, .istore_n 2, 1), (32, .iconst 0, 1), (33, .istore_n 3, 1), (34, .iload_n 3, 1), (35, .iload_n 1, 1), (36, .if_icmp .ge 58, 3), (39, .iload_n 2, 1), (40, .ifCond .eq 54, 3), (43, .aload_n 0, 1), (44, .getfield 7, 3), (47, .iload_n 3, 1), (48, .iaload, 1), (49, .bipush 40, 2), (51, .if_icmp .gt 35, 3)]
theorem kdX12_see_27 : dkO cX12_see 27 ldX12_see_27 = true := by decide +kernel
theorem dX12_see_27 : decode cX12_see 27 = .ok (.goto 4, 3) := dk_i kdX12_see_27 0 rfl
theorem dX12_see_30 : decode cX12_see 30 = .ok (.iconst 0, 1) := dk_i kdX12_see_27 1 rfl
theorem dX12_see_31 : decode cX12_see 31 = .ok (.istore_n 2, 1) := dk_i kdX12_see_27 2 rfl
theorem dX12_see_32 : decode cX12_see 32 = .ok (.iconst 0, 1) := dk_i kdX12_see_27 3 rfl
theorem dX12_see_33 : decode cX12_see 33 = .ok (.istore_n 3, 1) := dk_i kdX12_see_27 4 rfl
theorem dX12_see_34 : decode cX12_see 34 = .ok (.iload_n 3, 1) := dk_i kdX12_see_27 5 rfl
theorem dX12_see_35 : decode cX12_see 35 = .ok (.iload_n 1, 1) := dk_i kdX12_see_27 6 rfl
theorem dX12_see_36 : decode cX12_see 36 = .ok (.if_icmp .ge 58, 3) := dk_i kdX12_see_27 7 rfl
theorem dX12_see_39 : decode cX12_see 39 = .ok (.iload_n 2, 1) := dk_i kdX12_see_27 8 rfl
theorem dX12_see_40 : decode cX12_see 40 = .ok (.ifCond .eq 54, 3) := dk_i kdX12_see_27 9 rfl
theorem dX12_see_43 : decode cX12_see 43 = .ok (.aload_n 0, 1) := dk_i kdX12_see_27 10 rfl
theorem dX12_see_44 : decode cX12_see 44 = .ok (.getfield 7, 3) := dk_i kdX12_see_27 11 rfl
theorem dX12_see_47 : decode cX12_see 47 = .ok (.iload_n 3, 1) := dk_i kdX12_see_27 12 rfl
theorem dX12_see_48 : decode cX12_see 48 = .ok (.iaload, 1) := dk_i kdX12_see_27 13 rfl
theorem dX12_see_49 : decode cX12_see 49 = .ok (.bipush 40, 2) := dk_i kdX12_see_27 14 rfl
theorem dX12_see_51 : decode cX12_see 51 = .ok (.if_icmp .gt 35, 3) := dk_i kdX12_see_27 15 rfl
def ldX12_see_54 : List (Nat × ClassFile.Instr × Nat) := [(54, .aload_n 0, 1), (55, .aload_n 0, 1), (56, .getfield 7, 3), (59, .iload_n 3, 1), (60, .iconst 1, 1), (61, .iadd, 1), (62, .iaload, 1), (63, .invokevirtual 472, 3), (66, .ifCond .eq 20, 3), (69, .aload_n 0, 1), (70, .getfield 7, 3), (73, .iload_n 3, 1), (74, .iconst 2, 1), (75, .iadd, 1), (76, .iaload, 1), (77, .bipush 23, 2)]
theorem kdX12_see_54 : dkO cX12_see 54 ldX12_see_54 = true := by decide +kernel
theorem dX12_see_54 : decode cX12_see 54 = .ok (.aload_n 0, 1) := dk_i kdX12_see_54 0 rfl
theorem dX12_see_55 : decode cX12_see 55 = .ok (.aload_n 0, 1) := dk_i kdX12_see_54 1 rfl
theorem dX12_see_56 : decode cX12_see 56 = .ok (.getfield 7, 3) := dk_i kdX12_see_54 2 rfl
theorem dX12_see_59 : decode cX12_see 59 = .ok (.iload_n 3, 1) := dk_i kdX12_see_54 3 rfl
theorem dX12_see_60 : decode cX12_see 60 = .ok (.iconst 1, 1) := dk_i kdX12_see_54 4 rfl
theorem dX12_see_61 : decode cX12_see 61 = .ok (.iadd, 1) := dk_i kdX12_see_54 5 rfl
theorem dX12_see_62 : decode cX12_see 62 = .ok (.iaload, 1) := dk_i kdX12_see_54 6 rfl
theorem dX12_see_63 : decode cX12_see 63 = .ok (.invokevirtual 472, 3) := dk_i kdX12_see_54 7 rfl
theorem dX12_see_66 : decode cX12_see 66 = .ok (.ifCond .eq 20, 3) := dk_i kdX12_see_54 8 rfl
theorem dX12_see_69 : decode cX12_see 69 = .ok (.aload_n 0, 1) := dk_i kdX12_see_54 9 rfl
theorem dX12_see_70 : decode cX12_see 70 = .ok (.getfield 7, 3) := dk_i kdX12_see_54 10 rfl
theorem dX12_see_73 : decode cX12_see 73 = .ok (.iload_n 3, 1) := dk_i kdX12_see_54 11 rfl
theorem dX12_see_74 : decode cX12_see 74 = .ok (.iconst 2, 1) := dk_i kdX12_see_54 12 rfl
theorem dX12_see_75 : decode cX12_see 75 = .ok (.iadd, 1) := dk_i kdX12_see_54 13 rfl
theorem dX12_see_76 : decode cX12_see 76 = .ok (.iaload, 1) := dk_i kdX12_see_54 14 rfl
theorem dX12_see_77 : decode cX12_see 77 = .ok (.bipush 23, 2) := dk_i kdX12_see_54 15 rfl
def ldX12_see_79 : List (Nat × ClassFile.Instr × Nat) := [(79, .if_icmp .gt 7, 3), (82, .iconst 1, 1), (83, .goto 4, 3), (86, .iconst 0, 1), (87, .istore_n 2, 1), (88, .iinc 3 3, 3), (91, .goto (-57), 3), (94, .iload_n 2, 1), (95, .ifCond .ne 9, 3), (98, .aload_n 0, 1), (99, .iconst 5, 1), (100, .invokevirtual 219, 3), (103, .ireturn, 1), (104, .aload_n 0, 1), (105, .iload_n 1, 1), (106, .iconst 3, 1)]
theorem kdX12_see_79 : dkO cX12_see 79 ldX12_see_79 = true := by decide +kernel
theorem dX12_see_79 : decode cX12_see 79 = .ok (.if_icmp .gt 7, 3) := dk_i kdX12_see_79 0 rfl
theorem dX12_see_82 : decode cX12_see 82 = .ok (.iconst 1, 1) := dk_i kdX12_see_79 1 rfl
theorem dX12_see_83 : decode cX12_see 83 = .ok (.goto 4, 3) := dk_i kdX12_see_79 2 rfl
theorem dX12_see_86 : decode cX12_see 86 = .ok (.iconst 0, 1) := dk_i kdX12_see_79 3 rfl
theorem dX12_see_87 : decode cX12_see 87 = .ok (.istore_n 2, 1) := dk_i kdX12_see_79 4 rfl
theorem dX12_see_88 : decode cX12_see 88 = .ok (.iinc 3 3, 3) := dk_i kdX12_see_79 5 rfl
theorem dX12_see_91 : decode cX12_see 91 = .ok (.goto (-57), 3) := dk_i kdX12_see_79 6 rfl
theorem dX12_see_94 : decode cX12_see 94 = .ok (.iload_n 2, 1) := dk_i kdX12_see_79 7 rfl
theorem dX12_see_95 : decode cX12_see 95 = .ok (.ifCond .ne 9, 3) := dk_i kdX12_see_79 8 rfl
theorem dX12_see_98 : decode cX12_see 98 = .ok (.aload_n 0, 1) := dk_i kdX12_see_79 9 rfl
theorem dX12_see_99 : decode cX12_see 99 = .ok (.iconst 5, 1) := dk_i kdX12_see_79 10 rfl
theorem dX12_see_100 : decode cX12_see 100 = .ok (.invokevirtual 219, 3) := dk_i kdX12_see_79 11 rfl
theorem dX12_see_103 : decode cX12_see 103 = .ok (.ireturn, 1) := dk_i kdX12_see_79 12 rfl
theorem dX12_see_104 : decode cX12_see 104 = .ok (.aload_n 0, 1) := dk_i kdX12_see_79 13 rfl
theorem dX12_see_105 : decode cX12_see 105 = .ok (.iload_n 1, 1) := dk_i kdX12_see_79 14 rfl
theorem dX12_see_106 : decode cX12_see 106 = .ok (.iconst 3, 1) := dk_i kdX12_see_79 15 rfl
def ldX12_see_107 : List (Nat × ClassFile.Instr × Nat) := [(107, .idiv, 1), (108, .putfield 198, 3), (111, .iconst 0, 1), (112, .istore_n 3, 1), (113, .iload_n 3, 1), (114, .aload_n 0, 1), (115, .getfield 198, 3), (118, .if_icmp .ge 55, 3), (121, .aload_n 0, 1), (122, .getfield 201, 3), (125, .iload_n 3, 1), (126, .aload_n 0, 1), (127, .getfield 7, 3), (130, .iconst 3, 1), (131, .iload_n 3, 1), (132, .imul, 1)]
theorem kdX12_see_107 : dkO cX12_see 107 ldX12_see_107 = true := by decide +kernel
theorem dX12_see_107 : decode cX12_see 107 = .ok (.idiv, 1) := dk_i kdX12_see_107 0 rfl
theorem dX12_see_108 : decode cX12_see 108 = .ok (.putfield 198, 3) := dk_i kdX12_see_107 1 rfl
theorem dX12_see_111 : decode cX12_see 111 = .ok (.iconst 0, 1) := dk_i kdX12_see_107 2 rfl
theorem dX12_see_112 : decode cX12_see 112 = .ok (.istore_n 3, 1) := dk_i kdX12_see_107 3 rfl
theorem dX12_see_113 : decode cX12_see 113 = .ok (.iload_n 3, 1) := dk_i kdX12_see_107 4 rfl
theorem dX12_see_114 : decode cX12_see 114 = .ok (.aload_n 0, 1) := dk_i kdX12_see_107 5 rfl
theorem dX12_see_115 : decode cX12_see 115 = .ok (.getfield 198, 3) := dk_i kdX12_see_107 6 rfl
theorem dX12_see_118 : decode cX12_see 118 = .ok (.if_icmp .ge 55, 3) := dk_i kdX12_see_107 7 rfl
theorem dX12_see_121 : decode cX12_see 121 = .ok (.aload_n 0, 1) := dk_i kdX12_see_107 8 rfl
theorem dX12_see_122 : decode cX12_see 122 = .ok (.getfield 201, 3) := dk_i kdX12_see_107 9 rfl
theorem dX12_see_125 : decode cX12_see 125 = .ok (.iload_n 3, 1) := dk_i kdX12_see_107 10 rfl
theorem dX12_see_126 : decode cX12_see 126 = .ok (.aload_n 0, 1) := dk_i kdX12_see_107 11 rfl
theorem dX12_see_127 : decode cX12_see 127 = .ok (.getfield 7, 3) := dk_i kdX12_see_107 12 rfl
theorem dX12_see_130 : decode cX12_see 130 = .ok (.iconst 3, 1) := dk_i kdX12_see_107 13 rfl
theorem dX12_see_131 : decode cX12_see 131 = .ok (.iload_n 3, 1) := dk_i kdX12_see_107 14 rfl
theorem dX12_see_132 : decode cX12_see 132 = .ok (.imul, 1) := dk_i kdX12_see_107 15 rfl
def ldX12_see_133 : List (Nat × ClassFile.Instr × Nat) := [(133, .iaload, 1), (134, .iastore, 1), (135, .aload_n 0, 1), (136, .getfield 204, 3), (139, .iload_n 3, 1), (140, .aload_n 0, 1), (141, .getfield 7, 3), (144, .iconst 3, 1), (145, .iload_n 3, 1), (146, .imul, 1), (147, .iconst 1, 1), (148, .iadd, 1), (149, .iaload, 1), (150, .iastore, 1), (151, .aload_n 0, 1), (152, .getfield 207, 3)]
theorem kdX12_see_133 : dkO cX12_see 133 ldX12_see_133 = true := by decide +kernel
theorem dX12_see_133 : decode cX12_see 133 = .ok (.iaload, 1) := dk_i kdX12_see_133 0 rfl
theorem dX12_see_134 : decode cX12_see 134 = .ok (.iastore, 1) := dk_i kdX12_see_133 1 rfl
theorem dX12_see_135 : decode cX12_see 135 = .ok (.aload_n 0, 1) := dk_i kdX12_see_133 2 rfl
theorem dX12_see_136 : decode cX12_see 136 = .ok (.getfield 204, 3) := dk_i kdX12_see_133 3 rfl
theorem dX12_see_139 : decode cX12_see 139 = .ok (.iload_n 3, 1) := dk_i kdX12_see_133 4 rfl
theorem dX12_see_140 : decode cX12_see 140 = .ok (.aload_n 0, 1) := dk_i kdX12_see_133 5 rfl
theorem dX12_see_141 : decode cX12_see 141 = .ok (.getfield 7, 3) := dk_i kdX12_see_133 6 rfl
theorem dX12_see_144 : decode cX12_see 144 = .ok (.iconst 3, 1) := dk_i kdX12_see_133 7 rfl
theorem dX12_see_145 : decode cX12_see 145 = .ok (.iload_n 3, 1) := dk_i kdX12_see_133 8 rfl
theorem dX12_see_146 : decode cX12_see 146 = .ok (.imul, 1) := dk_i kdX12_see_133 9 rfl
theorem dX12_see_147 : decode cX12_see 147 = .ok (.iconst 1, 1) := dk_i kdX12_see_133 10 rfl
theorem dX12_see_148 : decode cX12_see 148 = .ok (.iadd, 1) := dk_i kdX12_see_133 11 rfl
theorem dX12_see_149 : decode cX12_see 149 = .ok (.iaload, 1) := dk_i kdX12_see_133 12 rfl
theorem dX12_see_150 : decode cX12_see 150 = .ok (.iastore, 1) := dk_i kdX12_see_133 13 rfl
theorem dX12_see_151 : decode cX12_see 151 = .ok (.aload_n 0, 1) := dk_i kdX12_see_133 14 rfl
theorem dX12_see_152 : decode cX12_see 152 = .ok (.getfield 207, 3) := dk_i kdX12_see_133 15 rfl
def ldX12_see_155 : List (Nat × ClassFile.Instr × Nat) := [(155, .iload_n 3, 1), (156, .aload_n 0, 1), (157, .getfield 7, 3), (160, .iconst 3, 1), (161, .iload_n 3, 1), (162, .imul, 1), (163, .iconst 2, 1), (164, .iadd, 1), (165, .iaload, 1), (166, .iastore, 1), (167, .iinc 3 1, 3), (170, .goto (-57), 3), (173, .aload_n 0, 1), (174, .getfield 198, 3), (177, .ireturn, 1)]
theorem kdX12_see_155 : dkO cX12_see 155 ldX12_see_155 = true := by decide +kernel
theorem dX12_see_155 : decode cX12_see 155 = .ok (.iload_n 3, 1) := dk_i kdX12_see_155 0 rfl
theorem dX12_see_156 : decode cX12_see 156 = .ok (.aload_n 0, 1) := dk_i kdX12_see_155 1 rfl
theorem dX12_see_157 : decode cX12_see 157 = .ok (.getfield 7, 3) := dk_i kdX12_see_155 2 rfl
theorem dX12_see_160 : decode cX12_see 160 = .ok (.iconst 3, 1) := dk_i kdX12_see_155 3 rfl
theorem dX12_see_161 : decode cX12_see 161 = .ok (.iload_n 3, 1) := dk_i kdX12_see_155 4 rfl
theorem dX12_see_162 : decode cX12_see 162 = .ok (.imul, 1) := dk_i kdX12_see_155 5 rfl
theorem dX12_see_163 : decode cX12_see 163 = .ok (.iconst 2, 1) := dk_i kdX12_see_155 6 rfl
theorem dX12_see_164 : decode cX12_see 164 = .ok (.iadd, 1) := dk_i kdX12_see_155 7 rfl
theorem dX12_see_165 : decode cX12_see 165 = .ok (.iaload, 1) := dk_i kdX12_see_155 8 rfl
theorem dX12_see_166 : decode cX12_see 166 = .ok (.iastore, 1) := dk_i kdX12_see_155 9 rfl
theorem dX12_see_167 : decode cX12_see 167 = .ok (.iinc 3 1, 3) := dk_i kdX12_see_155 10 rfl
theorem dX12_see_170 : decode cX12_see 170 = .ok (.goto (-57), 3) := dk_i kdX12_see_155 11 rfl
theorem dX12_see_173 : decode cX12_see 173 = .ok (.aload_n 0, 1) := dk_i kdX12_see_155 12 rfl
theorem dX12_see_174 : decode cX12_see 174 = .ok (.getfield 198, 3) := dk_i kdX12_see_155 13 rfl
theorem dX12_see_177 : decode cX12_see 177 = .ok (.ireturn, 1) := dk_i kdX12_see_155 14 rfl
def ldX12_heldBits_0 : List (Nat × ClassFile.Instr × Nat) := [(0, .iconst 0, 1), (1, .istore_n 2, 1), (2, .iconst (-1), 1), (3, .istore_n 3, 1), (4, .iload_n 3, 1), (5, .aload_n 0, 1), (6, .getfield 54, 3), (9, .aload_n 0, 1), (10, .getfield 51, 3), (13, .iaload, 1), (14, .if_icmp .ge 154, 3), (17, .aload_n 0, 1), (18, .iconst 1, 1), (19, .iconst 0, 1), (20, .invokevirtual 418, 3), (23, .aload_n 0, 1)]
theorem kdX12_heldBits_0 : dkO cX12_heldBits 0 ldX12_heldBits_0 = true := by decide +kernel
theorem dX12_heldBits_0 : decode cX12_heldBits 0 = .ok (.iconst 0, 1) := dk_i kdX12_heldBits_0 0 rfl
theorem dX12_heldBits_1 : decode cX12_heldBits 1 = .ok (.istore_n 2, 1) := dk_i kdX12_heldBits_0 1 rfl
theorem dX12_heldBits_2 : decode cX12_heldBits 2 = .ok (.iconst (-1), 1) := dk_i kdX12_heldBits_0 2 rfl
theorem dX12_heldBits_3 : decode cX12_heldBits 3 = .ok (.istore_n 3, 1) := dk_i kdX12_heldBits_0 3 rfl
theorem dX12_heldBits_4 : decode cX12_heldBits 4 = .ok (.iload_n 3, 1) := dk_i kdX12_heldBits_0 4 rfl
theorem dX12_heldBits_5 : decode cX12_heldBits 5 = .ok (.aload_n 0, 1) := dk_i kdX12_heldBits_0 5 rfl
theorem dX12_heldBits_6 : decode cX12_heldBits 6 = .ok (.getfield 54, 3) := dk_i kdX12_heldBits_0 6 rfl
theorem dX12_heldBits_9 : decode cX12_heldBits 9 = .ok (.aload_n 0, 1) := dk_i kdX12_heldBits_0 7 rfl
theorem dX12_heldBits_10 : decode cX12_heldBits 10 = .ok (.getfield 51, 3) := dk_i kdX12_heldBits_0 8 rfl
theorem dX12_heldBits_13 : decode cX12_heldBits 13 = .ok (.iaload, 1) := dk_i kdX12_heldBits_0 9 rfl
theorem dX12_heldBits_14 : decode cX12_heldBits 14 = .ok (.if_icmp .ge 154, 3) := dk_i kdX12_heldBits_0 10 rfl
theorem dX12_heldBits_17 : decode cX12_heldBits 17 = .ok (.aload_n 0, 1) := dk_i kdX12_heldBits_0 11 rfl
theorem dX12_heldBits_18 : decode cX12_heldBits 18 = .ok (.iconst 1, 1) := dk_i kdX12_heldBits_0 12 rfl
theorem dX12_heldBits_19 : decode cX12_heldBits 19 = .ok (.iconst 0, 1) := dk_i kdX12_heldBits_0 13 rfl
theorem dX12_heldBits_20 : decode cX12_heldBits 20 = .ok (.invokevirtual 418, 3) := dk_i kdX12_heldBits_0 14 rfl
theorem dX12_heldBits_23 : decode cX12_heldBits 23 = .ok (.aload_n 0, 1) := dk_i kdX12_heldBits_0 15 rfl
def ldX12_heldBits_24 : List (Nat × ClassFile.Instr × Nat) := [(24, .iconst 1, 1), (25, .iload_n 1, 1), (26, .iload_n 3, 1), (27, .invokevirtual 457, 3), (30, .iconst 0, 1), (31, .istore 4, 2), (33, .iconst 0, 1), (34, .istore 5, 2), (36, .aload_n 0, 1), (37, .iload 5, 2), (39, .iconst 0, 1), (40, .bipush 40, 2), (42, .invokevirtual 478, 3), (45, .ifCond .eq 96, 3), (48, .aload_n 0, 1), (49, .getfield 210, 3)]
theorem kdX12_heldBits_24 : dkO cX12_heldBits 24 ldX12_heldBits_24 = true := by decide +kernel
theorem dX12_heldBits_24 : decode cX12_heldBits 24 = .ok (.iconst 1, 1) := dk_i kdX12_heldBits_24 0 rfl
theorem dX12_heldBits_25 : decode cX12_heldBits 25 = .ok (.iload_n 1, 1) := dk_i kdX12_heldBits_24 1 rfl
theorem dX12_heldBits_26 : decode cX12_heldBits 26 = .ok (.iload_n 3, 1) := dk_i kdX12_heldBits_24 2 rfl
theorem dX12_heldBits_27 : decode cX12_heldBits 27 = .ok (.invokevirtual 457, 3) := dk_i kdX12_heldBits_24 3 rfl
theorem dX12_heldBits_30 : decode cX12_heldBits 30 = .ok (.iconst 0, 1) := dk_i kdX12_heldBits_24 4 rfl
theorem dX12_heldBits_31 : decode cX12_heldBits 31 = .ok (.istore 4, 2) := dk_i kdX12_heldBits_24 5 rfl
theorem dX12_heldBits_33 : decode cX12_heldBits 33 = .ok (.iconst 0, 1) := dk_i kdX12_heldBits_24 6 rfl
theorem dX12_heldBits_34 : decode cX12_heldBits 34 = .ok (.istore 5, 2) := dk_i kdX12_heldBits_24 7 rfl
theorem dX12_heldBits_36 : decode cX12_heldBits 36 = .ok (.aload_n 0, 1) := dk_i kdX12_heldBits_24 8 rfl
theorem dX12_heldBits_37 : decode cX12_heldBits 37 = .ok (.iload 5, 2) := dk_i kdX12_heldBits_24 9 rfl
theorem dX12_heldBits_39 : decode cX12_heldBits 39 = .ok (.iconst 0, 1) := dk_i kdX12_heldBits_24 10 rfl
theorem dX12_heldBits_40 : decode cX12_heldBits 40 = .ok (.bipush 40, 2) := dk_i kdX12_heldBits_24 11 rfl
theorem dX12_heldBits_42 : decode cX12_heldBits 42 = .ok (.invokevirtual 478, 3) := dk_i kdX12_heldBits_24 12 rfl
theorem dX12_heldBits_45 : decode cX12_heldBits 45 = .ok (.ifCond .eq 96, 3) := dk_i kdX12_heldBits_24 13 rfl
theorem dX12_heldBits_48 : decode cX12_heldBits 48 = .ok (.aload_n 0, 1) := dk_i kdX12_heldBits_24 14 rfl
theorem dX12_heldBits_49 : decode cX12_heldBits 49 = .ok (.getfield 210, 3) := dk_i kdX12_heldBits_24 15 rfl
def ldX12_heldBits_52 : List (Nat × ClassFile.Instr × Nat) := [(52, .bipush 41, 2), (54, .iload_n 3, 1), (55, .iconst 1, 1), (56, .iadd, 1), (57, .imul, 1), (58, .iload 5, 2), (60, .iadd, 1), (61, .aload_n 0, 1), (62, .iconst 1, 1), (63, .iload_n 1, 1), (64, .invokevirtual 449, 3), (67, .iastore, 1), (68, .iconst 0, 1), (69, .istore 6, 2), (71, .iload 6, 2), (73, .aload_n 0, 1)]
theorem kdX12_heldBits_52 : dkO cX12_heldBits 52 ldX12_heldBits_52 = true := by decide +kernel
theorem dX12_heldBits_52 : decode cX12_heldBits 52 = .ok (.bipush 41, 2) := dk_i kdX12_heldBits_52 0 rfl
theorem dX12_heldBits_54 : decode cX12_heldBits 54 = .ok (.iload_n 3, 1) := dk_i kdX12_heldBits_52 1 rfl
theorem dX12_heldBits_55 : decode cX12_heldBits 55 = .ok (.iconst 1, 1) := dk_i kdX12_heldBits_52 2 rfl
theorem dX12_heldBits_56 : decode cX12_heldBits 56 = .ok (.iadd, 1) := dk_i kdX12_heldBits_52 3 rfl
theorem dX12_heldBits_57 : decode cX12_heldBits 57 = .ok (.imul, 1) := dk_i kdX12_heldBits_52 4 rfl
theorem dX12_heldBits_58 : decode cX12_heldBits 58 = .ok (.iload 5, 2) := dk_i kdX12_heldBits_52 5 rfl
theorem dX12_heldBits_60 : decode cX12_heldBits 60 = .ok (.iadd, 1) := dk_i kdX12_heldBits_52 6 rfl
theorem dX12_heldBits_61 : decode cX12_heldBits 61 = .ok (.aload_n 0, 1) := dk_i kdX12_heldBits_52 7 rfl
theorem dX12_heldBits_62 : decode cX12_heldBits 62 = .ok (.iconst 1, 1) := dk_i kdX12_heldBits_52 8 rfl
theorem dX12_heldBits_63 : decode cX12_heldBits 63 = .ok (.iload_n 1, 1) := dk_i kdX12_heldBits_52 9 rfl
theorem dX12_heldBits_64 : decode cX12_heldBits 64 = .ok (.invokevirtual 449, 3) := dk_i kdX12_heldBits_52 10 rfl
theorem dX12_heldBits_67 : decode cX12_heldBits 67 = .ok (.iastore, 1) := dk_i kdX12_heldBits_52 11 rfl
theorem dX12_heldBits_68 : decode cX12_heldBits 68 = .ok (.iconst 0, 1) := dk_i kdX12_heldBits_52 12 rfl
theorem dX12_heldBits_69 : decode cX12_heldBits 69 = .ok (.istore 6, 2) := dk_i kdX12_heldBits_52 13 rfl
theorem dX12_heldBits_71 : decode cX12_heldBits 71 = .ok (.iload 6, 2) := dk_i kdX12_heldBits_52 14 rfl
theorem dX12_heldBits_73 : decode cX12_heldBits 73 = .ok (.aload_n 0, 1) := dk_i kdX12_heldBits_52 15 rfl
def ldX12_heldBits_74 : List (Nat × ClassFile.Instr × Nat) := [(74, .getfield 198, 3), (77, .if_icmp .ge 53, 3), (80, .iload 4, 2), (82, .aload_n 0, 1), (83, .getfield 201, 3), (86, .iload 6, 2), (88, .iaload, 1), (89, .iload 5, 2), (91, .if_icmp .ne 29, 3), (94, .aload_n 0, 1), (95, .iconst 1, 1), (96, .aload_n 0, 1), (97, .getfield 204, 3), (100, .iload 6, 2), (102, .iaload, 1), (103, .invokevirtual 449, 3)]
theorem kdX12_heldBits_74 : dkO cX12_heldBits 74 ldX12_heldBits_74 = true := by decide +kernel
theorem dX12_heldBits_74 : decode cX12_heldBits 74 = .ok (.getfield 198, 3) := dk_i kdX12_heldBits_74 0 rfl
theorem dX12_heldBits_77 : decode cX12_heldBits 77 = .ok (.if_icmp .ge 53, 3) := dk_i kdX12_heldBits_74 1 rfl
theorem dX12_heldBits_80 : decode cX12_heldBits 80 = .ok (.iload 4, 2) := dk_i kdX12_heldBits_74 2 rfl
theorem dX12_heldBits_82 : decode cX12_heldBits 82 = .ok (.aload_n 0, 1) := dk_i kdX12_heldBits_74 3 rfl
theorem dX12_heldBits_83 : decode cX12_heldBits 83 = .ok (.getfield 201, 3) := dk_i kdX12_heldBits_74 4 rfl
theorem dX12_heldBits_86 : decode cX12_heldBits 86 = .ok (.iload 6, 2) := dk_i kdX12_heldBits_74 5 rfl
theorem dX12_heldBits_88 : decode cX12_heldBits 88 = .ok (.iaload, 1) := dk_i kdX12_heldBits_74 6 rfl
theorem dX12_heldBits_89 : decode cX12_heldBits 89 = .ok (.iload 5, 2) := dk_i kdX12_heldBits_74 7 rfl
theorem dX12_heldBits_91 : decode cX12_heldBits 91 = .ok (.if_icmp .ne 29, 3) := dk_i kdX12_heldBits_74 8 rfl
theorem dX12_heldBits_94 : decode cX12_heldBits 94 = .ok (.aload_n 0, 1) := dk_i kdX12_heldBits_74 9 rfl
theorem dX12_heldBits_95 : decode cX12_heldBits 95 = .ok (.iconst 1, 1) := dk_i kdX12_heldBits_74 10 rfl
theorem dX12_heldBits_96 : decode cX12_heldBits 96 = .ok (.aload_n 0, 1) := dk_i kdX12_heldBits_74 11 rfl
theorem dX12_heldBits_97 : decode cX12_heldBits 97 = .ok (.getfield 204, 3) := dk_i kdX12_heldBits_74 12 rfl
theorem dX12_heldBits_100 : decode cX12_heldBits 100 = .ok (.iload 6, 2) := dk_i kdX12_heldBits_74 13 rfl
theorem dX12_heldBits_102 : decode cX12_heldBits 102 = .ok (.iaload, 1) := dk_i kdX12_heldBits_74 14 rfl
theorem dX12_heldBits_103 : decode cX12_heldBits 103 = .ok (.invokevirtual 449, 3) := dk_i kdX12_heldBits_74 15 rfl
def ldX12_heldBits_106 : List (Nat × ClassFile.Instr × Nat) := [(106, .aload_n 0, 1), (107, .getfield 207, 3), (110, .iload 6, 2), (112, .iaload, 1), (113, .if_icmp .ne 7, 3), (116, .iconst 1, 1), (117, .goto 4, 3), (120, .iconst 0, 1), (121, .iadd, 1), (122, .istore 4, 2), (124, .iinc 6 1, 3), (127, .goto (-56), 3), (130, .aload_n 0, 1), (131, .iconst 1, 1), (132, .invokevirtual 461, 3), (135, .iinc 5 1, 3)]
theorem kdX12_heldBits_106 : dkO cX12_heldBits 106 ldX12_heldBits_106 = true := by decide +kernel
theorem dX12_heldBits_106 : decode cX12_heldBits 106 = .ok (.aload_n 0, 1) := dk_i kdX12_heldBits_106 0 rfl
theorem dX12_heldBits_107 : decode cX12_heldBits 107 = .ok (.getfield 207, 3) := dk_i kdX12_heldBits_106 1 rfl
theorem dX12_heldBits_110 : decode cX12_heldBits 110 = .ok (.iload 6, 2) := dk_i kdX12_heldBits_106 2 rfl
theorem dX12_heldBits_112 : decode cX12_heldBits 112 = .ok (.iaload, 1) := dk_i kdX12_heldBits_106 3 rfl
theorem dX12_heldBits_113 : decode cX12_heldBits 113 = .ok (.if_icmp .ne 7, 3) := dk_i kdX12_heldBits_106 4 rfl
theorem dX12_heldBits_116 : decode cX12_heldBits 116 = .ok (.iconst 1, 1) := dk_i kdX12_heldBits_106 5 rfl
theorem dX12_heldBits_117 : decode cX12_heldBits 117 = .ok (.goto 4, 3) := dk_i kdX12_heldBits_106 6 rfl
theorem dX12_heldBits_120 : decode cX12_heldBits 120 = .ok (.iconst 0, 1) := dk_i kdX12_heldBits_106 7 rfl
theorem dX12_heldBits_121 : decode cX12_heldBits 121 = .ok (.iadd, 1) := dk_i kdX12_heldBits_106 8 rfl
theorem dX12_heldBits_122 : decode cX12_heldBits 122 = .ok (.istore 4, 2) := dk_i kdX12_heldBits_106 9 rfl
theorem dX12_heldBits_124 : decode cX12_heldBits 124 = .ok (.iinc 6 1, 3) := dk_i kdX12_heldBits_106 10 rfl
theorem dX12_heldBits_127 : decode cX12_heldBits 127 = .ok (.goto (-56), 3) := dk_i kdX12_heldBits_106 11 rfl
theorem dX12_heldBits_130 : decode cX12_heldBits 130 = .ok (.aload_n 0, 1) := dk_i kdX12_heldBits_106 12 rfl
theorem dX12_heldBits_131 : decode cX12_heldBits 131 = .ok (.iconst 1, 1) := dk_i kdX12_heldBits_106 13 rfl
theorem dX12_heldBits_132 : decode cX12_heldBits 132 = .ok (.invokevirtual 461, 3) := dk_i kdX12_heldBits_106 14 rfl
theorem dX12_heldBits_135 : decode cX12_heldBits 135 = .ok (.iinc 5 1, 3) := dk_i kdX12_heldBits_106 15 rfl
def ldX12_heldBits_138 : List (Nat × ClassFile.Instr × Nat) := [(138, .goto (-102), 3), (141, .iload_n 2, 1), (142, .iload 4, 2), (144, .aload_n 0, 1), (145, .getfield 198, 3), (148, .if_icmp .ne 11, 3), (151, .iconst 1, 1), (152, .iload_n 3, 1), (153, .iconst 1, 1), (154, .iadd, 1), (155, .ishl, 1), (156, .goto 4, 3), (159, .iconst 0, 1), (160, .ior, 1), (161, .istore_n 2, 1), (162, .iinc 3 1, 3)]
theorem kdX12_heldBits_138 : dkO cX12_heldBits 138 ldX12_heldBits_138 = true := by decide +kernel
theorem dX12_heldBits_138 : decode cX12_heldBits 138 = .ok (.goto (-102), 3) := dk_i kdX12_heldBits_138 0 rfl
theorem dX12_heldBits_141 : decode cX12_heldBits 141 = .ok (.iload_n 2, 1) := dk_i kdX12_heldBits_138 1 rfl
theorem dX12_heldBits_142 : decode cX12_heldBits 142 = .ok (.iload 4, 2) := dk_i kdX12_heldBits_138 2 rfl
theorem dX12_heldBits_144 : decode cX12_heldBits 144 = .ok (.aload_n 0, 1) := dk_i kdX12_heldBits_138 3 rfl
theorem dX12_heldBits_145 : decode cX12_heldBits 145 = .ok (.getfield 198, 3) := dk_i kdX12_heldBits_138 4 rfl
theorem dX12_heldBits_148 : decode cX12_heldBits 148 = .ok (.if_icmp .ne 11, 3) := dk_i kdX12_heldBits_138 5 rfl
theorem dX12_heldBits_151 : decode cX12_heldBits 151 = .ok (.iconst 1, 1) := dk_i kdX12_heldBits_138 6 rfl
theorem dX12_heldBits_152 : decode cX12_heldBits 152 = .ok (.iload_n 3, 1) := dk_i kdX12_heldBits_138 7 rfl
theorem dX12_heldBits_153 : decode cX12_heldBits 153 = .ok (.iconst 1, 1) := dk_i kdX12_heldBits_138 8 rfl
theorem dX12_heldBits_154 : decode cX12_heldBits 154 = .ok (.iadd, 1) := dk_i kdX12_heldBits_138 9 rfl
theorem dX12_heldBits_155 : decode cX12_heldBits 155 = .ok (.ishl, 1) := dk_i kdX12_heldBits_138 10 rfl
theorem dX12_heldBits_156 : decode cX12_heldBits 156 = .ok (.goto 4, 3) := dk_i kdX12_heldBits_138 11 rfl
theorem dX12_heldBits_159 : decode cX12_heldBits 159 = .ok (.iconst 0, 1) := dk_i kdX12_heldBits_138 12 rfl
theorem dX12_heldBits_160 : decode cX12_heldBits 160 = .ok (.ior, 1) := dk_i kdX12_heldBits_138 13 rfl
theorem dX12_heldBits_161 : decode cX12_heldBits 161 = .ok (.istore_n 2, 1) := dk_i kdX12_heldBits_138 14 rfl
theorem dX12_heldBits_162 : decode cX12_heldBits 162 = .ok (.iinc 3 1, 3) := dk_i kdX12_heldBits_138 15 rfl
def ldX12_heldBits_165 : List (Nat × ClassFile.Instr × Nat) := [(165, .goto (-161), 3), (168, .iload_n 2, 1), (169, .ireturn, 1)]
theorem kdX12_heldBits_165 : dkO cX12_heldBits 165 ldX12_heldBits_165 = true := by decide +kernel
theorem dX12_heldBits_165 : decode cX12_heldBits 165 = .ok (.goto (-161), 3) := dk_i kdX12_heldBits_165 0 rfl
theorem dX12_heldBits_168 : decode cX12_heldBits 168 = .ok (.iload_n 2, 1) := dk_i kdX12_heldBits_165 1 rfl
theorem dX12_heldBits_169 : decode cX12_heldBits 169 = .ok (.ireturn, 1) := dk_i kdX12_heldBits_165 2 rfl
def ldX12_held_0 : List (Nat × ClassFile.Instr × Nat) := [(0, .aload_n 0, 1), (1, .iload_n 1, 1), (2, .invokevirtual 472, 3), (5, .ifCond .eq 11, 3), (8, .aload_n 0, 1), (9, .iload_n 1, 1), (10, .invokevirtual 495, 3), (13, .goto 4, 3), (16, .iconst (-1), 1), (17, .ireturn, 1)]
theorem kdX12_held_0 : dkO cX12_held 0 ldX12_held_0 = true := by decide +kernel
theorem dX12_held_0 : decode cX12_held 0 = .ok (.aload_n 0, 1) := dk_i kdX12_held_0 0 rfl
theorem dX12_held_1 : decode cX12_held 1 = .ok (.iload_n 1, 1) := dk_i kdX12_held_0 1 rfl
theorem dX12_held_2 : decode cX12_held 2 = .ok (.invokevirtual 472, 3) := dk_i kdX12_held_0 2 rfl
theorem dX12_held_5 : decode cX12_held 5 = .ok (.ifCond .eq 11, 3) := dk_i kdX12_held_0 3 rfl
theorem dX12_held_8 : decode cX12_held 8 = .ok (.aload_n 0, 1) := dk_i kdX12_held_0 4 rfl
theorem dX12_held_9 : decode cX12_held 9 = .ok (.iload_n 1, 1) := dk_i kdX12_held_0 5 rfl
theorem dX12_held_10 : decode cX12_held 10 = .ok (.invokevirtual 495, 3) := dk_i kdX12_held_0 6 rfl
theorem dX12_held_13 : decode cX12_held 13 = .ok (.goto 4, 3) := dk_i kdX12_held_0 7 rfl
theorem dX12_held_16 : decode cX12_held 16 = .ok (.iconst (-1), 1) := dk_i kdX12_held_0 8 rfl
theorem dX12_held_17 : decode cX12_held 17 = .ok (.ireturn, 1) := dk_i kdX12_held_0 9 rfl
def ldX12_tells_0 : List (Nat × ClassFile.Instr × Nat) := [(0, .aload_n 0, 1), (1, .iload_n 1, 1), (2, .invokevirtual 472, 3), (5, .ifCond .eq 12, 3), (8, .iload_n 2, 1), (9, .iconst 0, 1), (10, .iconst 1, 1), (11, .invokestatic 305, 3), (14, .ifCond .ne 5, 3), (17, .iconst (-1), 1), (18, .ireturn, 1), (19, .aload_n 0, 1), (20, .iload_n 1, 1), (21, .invokevirtual 495, 3), (24, .istore_n 3, 1), (25, .iconst (-1), 1)]
theorem kdX12_tells_0 : dkO cX12_tells 0 ldX12_tells_0 = true := by decide +kernel
theorem dX12_tells_0 : decode cX12_tells 0 = .ok (.aload_n 0, 1) := dk_i kdX12_tells_0 0 rfl
theorem dX12_tells_1 : decode cX12_tells 1 = .ok (.iload_n 1, 1) := dk_i kdX12_tells_0 1 rfl
theorem dX12_tells_2 : decode cX12_tells 2 = .ok (.invokevirtual 472, 3) := dk_i kdX12_tells_0 2 rfl
theorem dX12_tells_5 : decode cX12_tells 5 = .ok (.ifCond .eq 12, 3) := dk_i kdX12_tells_0 3 rfl
theorem dX12_tells_8 : decode cX12_tells 8 = .ok (.iload_n 2, 1) := dk_i kdX12_tells_0 4 rfl
theorem dX12_tells_9 : decode cX12_tells 9 = .ok (.iconst 0, 1) := dk_i kdX12_tells_0 5 rfl
theorem dX12_tells_10 : decode cX12_tells 10 = .ok (.iconst 1, 1) := dk_i kdX12_tells_0 6 rfl
theorem dX12_tells_11 : decode cX12_tells 11 = .ok (.invokestatic 305, 3) := dk_i kdX12_tells_0 7 rfl
theorem dX12_tells_14 : decode cX12_tells 14 = .ok (.ifCond .ne 5, 3) := dk_i kdX12_tells_0 8 rfl
theorem dX12_tells_17 : decode cX12_tells 17 = .ok (.iconst (-1), 1) := dk_i kdX12_tells_0 9 rfl
theorem dX12_tells_18 : decode cX12_tells 18 = .ok (.ireturn, 1) := dk_i kdX12_tells_0 10 rfl
theorem dX12_tells_19 : decode cX12_tells 19 = .ok (.aload_n 0, 1) := dk_i kdX12_tells_0 11 rfl
theorem dX12_tells_20 : decode cX12_tells 20 = .ok (.iload_n 1, 1) := dk_i kdX12_tells_0 12 rfl
theorem dX12_tells_21 : decode cX12_tells 21 = .ok (.invokevirtual 495, 3) := dk_i kdX12_tells_0 13 rfl
theorem dX12_tells_24 : decode cX12_tells 24 = .ok (.istore_n 3, 1) := dk_i kdX12_tells_0 14 rfl
theorem dX12_tells_25 : decode cX12_tells 25 = .ok (.iconst (-1), 1) := dk_i kdX12_tells_0 15 rfl
def ldX12_tells_26 : List (Nat × ClassFile.Instr × Nat) := [(26, .istore 4, 2), (28, .ldc_w 399, 3), (31, .istore 5, 2), (33, .iconst 0, 1), (34, .istore 6, 2), (36, .aload_n 0, 1), (37, .iload 6, 2), (39, .iconst 0, 1), (40, .bipush 40, 2), (42, .invokevirtual 478, 3), (45, .ifCond .eq 156, 3), (48, .iload_n 3, 1), (49, .ifCond .eq 152, 3), (52, .iconst 0, 1), (53, .istore 7, 2), (55, .iconst 0, 1)]
theorem kdX12_tells_26 : dkO cX12_tells 26 ldX12_tells_26 = true := by decide +kernel
theorem dX12_tells_26 : decode cX12_tells 26 = .ok (.istore 4, 2) := dk_i kdX12_tells_26 0 rfl
theorem dX12_tells_28 : decode cX12_tells 28 = .ok (.ldc_w 399, 3) := dk_i kdX12_tells_26 1 rfl
theorem dX12_tells_31 : decode cX12_tells 31 = .ok (.istore 5, 2) := dk_i kdX12_tells_26 2 rfl
theorem dX12_tells_33 : decode cX12_tells 33 = .ok (.iconst 0, 1) := dk_i kdX12_tells_26 3 rfl
theorem dX12_tells_34 : decode cX12_tells 34 = .ok (.istore 6, 2) := dk_i kdX12_tells_26 4 rfl
theorem dX12_tells_36 : decode cX12_tells 36 = .ok (.aload_n 0, 1) := dk_i kdX12_tells_26 5 rfl
theorem dX12_tells_37 : decode cX12_tells 37 = .ok (.iload 6, 2) := dk_i kdX12_tells_26 6 rfl
theorem dX12_tells_39 : decode cX12_tells 39 = .ok (.iconst 0, 1) := dk_i kdX12_tells_26 7 rfl
theorem dX12_tells_40 : decode cX12_tells 40 = .ok (.bipush 40, 2) := dk_i kdX12_tells_26 8 rfl
theorem dX12_tells_42 : decode cX12_tells 42 = .ok (.invokevirtual 478, 3) := dk_i kdX12_tells_26 9 rfl
theorem dX12_tells_45 : decode cX12_tells 45 = .ok (.ifCond .eq 156, 3) := dk_i kdX12_tells_26 10 rfl
theorem dX12_tells_48 : decode cX12_tells 48 = .ok (.iload_n 3, 1) := dk_i kdX12_tells_26 11 rfl
theorem dX12_tells_49 : decode cX12_tells 49 = .ok (.ifCond .eq 152, 3) := dk_i kdX12_tells_26 12 rfl
theorem dX12_tells_52 : decode cX12_tells 52 = .ok (.iconst 0, 1) := dk_i kdX12_tells_26 13 rfl
theorem dX12_tells_53 : decode cX12_tells 53 = .ok (.istore 7, 2) := dk_i kdX12_tells_26 14 rfl
theorem dX12_tells_55 : decode cX12_tells 55 = .ok (.iconst 0, 1) := dk_i kdX12_tells_26 15 rfl
def ldX12_tells_56 : List (Nat × ClassFile.Instr × Nat) := [(56, .istore 8, 2), (58, .iload 8, 2), (60, .aload_n 0, 1), (61, .getfield 54, 3), (64, .aload_n 0, 1), (65, .getfield 51, 3), (68, .iaload, 1), (69, .if_icmp .gt 108, 3), (72, .iconst 0, 1), (73, .istore 9, 2), (75, .iconst 0, 1), (76, .istore 10, 2), (78, .iload 10, 2), (80, .aload_n 0, 1), (81, .getfield 54, 3), (84, .aload_n 0, 1)]
theorem kdX12_tells_56 : dkO cX12_tells 56 ldX12_tells_56 = true := by decide +kernel
theorem dX12_tells_56 : decode cX12_tells 56 = .ok (.istore 8, 2) := dk_i kdX12_tells_56 0 rfl
theorem dX12_tells_58 : decode cX12_tells 58 = .ok (.iload 8, 2) := dk_i kdX12_tells_56 1 rfl
theorem dX12_tells_60 : decode cX12_tells 60 = .ok (.aload_n 0, 1) := dk_i kdX12_tells_56 2 rfl
theorem dX12_tells_61 : decode cX12_tells 61 = .ok (.getfield 54, 3) := dk_i kdX12_tells_56 3 rfl
theorem dX12_tells_64 : decode cX12_tells 64 = .ok (.aload_n 0, 1) := dk_i kdX12_tells_56 4 rfl
theorem dX12_tells_65 : decode cX12_tells 65 = .ok (.getfield 51, 3) := dk_i kdX12_tells_56 5 rfl
theorem dX12_tells_68 : decode cX12_tells 68 = .ok (.iaload, 1) := dk_i kdX12_tells_56 6 rfl
theorem dX12_tells_69 : decode cX12_tells 69 = .ok (.if_icmp .gt 108, 3) := dk_i kdX12_tells_56 7 rfl
theorem dX12_tells_72 : decode cX12_tells 72 = .ok (.iconst 0, 1) := dk_i kdX12_tells_56 8 rfl
theorem dX12_tells_73 : decode cX12_tells 73 = .ok (.istore 9, 2) := dk_i kdX12_tells_56 9 rfl
theorem dX12_tells_75 : decode cX12_tells 75 = .ok (.iconst 0, 1) := dk_i kdX12_tells_56 10 rfl
theorem dX12_tells_76 : decode cX12_tells 76 = .ok (.istore 10, 2) := dk_i kdX12_tells_56 11 rfl
theorem dX12_tells_78 : decode cX12_tells 78 = .ok (.iload 10, 2) := dk_i kdX12_tells_56 12 rfl
theorem dX12_tells_80 : decode cX12_tells 80 = .ok (.aload_n 0, 1) := dk_i kdX12_tells_56 13 rfl
theorem dX12_tells_81 : decode cX12_tells 81 = .ok (.getfield 54, 3) := dk_i kdX12_tells_56 14 rfl
theorem dX12_tells_84 : decode cX12_tells 84 = .ok (.aload_n 0, 1) := dk_i kdX12_tells_56 15 rfl
def ldX12_tells_85 : List (Nat × ClassFile.Instr × Nat) := [(85, .getfield 51, 3), (88, .iaload, 1), (89, .if_icmp .gt 66, 3), (92, .iload 9, 2), (94, .iload_n 3, 1), (95, .iload 8, 2), (97, .invokestatic 347, 3), (100, .ifCond .eq 45, 3), (103, .iload_n 3, 1), (104, .iload 10, 2), (106, .invokestatic 347, 3), (109, .ifCond .eq 36, 3), (112, .aload_n 0, 1), (113, .getfield 210, 3), (116, .bipush 41, 2), (118, .iload 8, 2)]
theorem kdX12_tells_85 : dkO cX12_tells 85 ldX12_tells_85 = true := by decide +kernel
theorem dX12_tells_85 : decode cX12_tells 85 = .ok (.getfield 51, 3) := dk_i kdX12_tells_85 0 rfl
theorem dX12_tells_88 : decode cX12_tells 88 = .ok (.iaload, 1) := dk_i kdX12_tells_85 1 rfl
theorem dX12_tells_89 : decode cX12_tells 89 = .ok (.if_icmp .gt 66, 3) := dk_i kdX12_tells_85 2 rfl
theorem dX12_tells_92 : decode cX12_tells 92 = .ok (.iload 9, 2) := dk_i kdX12_tells_85 3 rfl
theorem dX12_tells_94 : decode cX12_tells 94 = .ok (.iload_n 3, 1) := dk_i kdX12_tells_85 4 rfl
theorem dX12_tells_95 : decode cX12_tells 95 = .ok (.iload 8, 2) := dk_i kdX12_tells_85 5 rfl
theorem dX12_tells_97 : decode cX12_tells 97 = .ok (.invokestatic 347, 3) := dk_i kdX12_tells_85 6 rfl
theorem dX12_tells_100 : decode cX12_tells 100 = .ok (.ifCond .eq 45, 3) := dk_i kdX12_tells_85 7 rfl
theorem dX12_tells_103 : decode cX12_tells 103 = .ok (.iload_n 3, 1) := dk_i kdX12_tells_85 8 rfl
theorem dX12_tells_104 : decode cX12_tells 104 = .ok (.iload 10, 2) := dk_i kdX12_tells_85 9 rfl
theorem dX12_tells_106 : decode cX12_tells 106 = .ok (.invokestatic 347, 3) := dk_i kdX12_tells_85 10 rfl
theorem dX12_tells_109 : decode cX12_tells 109 = .ok (.ifCond .eq 36, 3) := dk_i kdX12_tells_85 11 rfl
theorem dX12_tells_112 : decode cX12_tells 112 = .ok (.aload_n 0, 1) := dk_i kdX12_tells_85 12 rfl
theorem dX12_tells_113 : decode cX12_tells 113 = .ok (.getfield 210, 3) := dk_i kdX12_tells_85 13 rfl
theorem dX12_tells_116 : decode cX12_tells 116 = .ok (.bipush 41, 2) := dk_i kdX12_tells_85 14 rfl
theorem dX12_tells_118 : decode cX12_tells 118 = .ok (.iload 8, 2) := dk_i kdX12_tells_85 15 rfl
def ldX12_tells_120 : List (Nat × ClassFile.Instr × Nat) := [(120, .imul, 1), (121, .iload 6, 2), (123, .iadd, 1), (124, .iaload, 1), (125, .aload_n 0, 1), (126, .getfield 210, 3), (129, .bipush 41, 2), (131, .iload 10, 2), (133, .imul, 1), (134, .iload 6, 2), (136, .iadd, 1), (137, .iaload, 1), (138, .if_icmp .ne 7, 3), (141, .iconst 1, 1), (142, .goto 4, 3), (145, .iconst 0, 1)]
theorem kdX12_tells_120 : dkO cX12_tells 120 ldX12_tells_120 = true := by decide +kernel
theorem dX12_tells_120 : decode cX12_tells 120 = .ok (.imul, 1) := dk_i kdX12_tells_120 0 rfl
theorem dX12_tells_121 : decode cX12_tells 121 = .ok (.iload 6, 2) := dk_i kdX12_tells_120 1 rfl
theorem dX12_tells_123 : decode cX12_tells 123 = .ok (.iadd, 1) := dk_i kdX12_tells_120 2 rfl
theorem dX12_tells_124 : decode cX12_tells 124 = .ok (.iaload, 1) := dk_i kdX12_tells_120 3 rfl
theorem dX12_tells_125 : decode cX12_tells 125 = .ok (.aload_n 0, 1) := dk_i kdX12_tells_120 4 rfl
theorem dX12_tells_126 : decode cX12_tells 126 = .ok (.getfield 210, 3) := dk_i kdX12_tells_120 5 rfl
theorem dX12_tells_129 : decode cX12_tells 129 = .ok (.bipush 41, 2) := dk_i kdX12_tells_120 6 rfl
theorem dX12_tells_131 : decode cX12_tells 131 = .ok (.iload 10, 2) := dk_i kdX12_tells_120 7 rfl
theorem dX12_tells_133 : decode cX12_tells 133 = .ok (.imul, 1) := dk_i kdX12_tells_120 8 rfl
theorem dX12_tells_134 : decode cX12_tells 134 = .ok (.iload 6, 2) := dk_i kdX12_tells_120 9 rfl
theorem dX12_tells_136 : decode cX12_tells 136 = .ok (.iadd, 1) := dk_i kdX12_tells_120 10 rfl
theorem dX12_tells_137 : decode cX12_tells 137 = .ok (.iaload, 1) := dk_i kdX12_tells_120 11 rfl
theorem dX12_tells_138 : decode cX12_tells 138 = .ok (.if_icmp .ne 7, 3) := dk_i kdX12_tells_120 12 rfl
theorem dX12_tells_141 : decode cX12_tells 141 = .ok (.iconst 1, 1) := dk_i kdX12_tells_120 13 rfl
theorem dX12_tells_142 : decode cX12_tells 142 = .ok (.goto 4, 3) := dk_i kdX12_tells_120 14 rfl
theorem dX12_tells_145 : decode cX12_tells 145 = .ok (.iconst 0, 1) := dk_i kdX12_tells_120 15 rfl
def ldX12_tells_146 : List (Nat × ClassFile.Instr × Nat) := [(146, .iadd, 1), (147, .istore 9, 2), (149, .iinc 10 1, 3), (152, .goto (-74), 3), (155, .iload 9, 2), (157, .iload 7, 2), (159, .if_icmp .le 8, 3), (162, .iload 9, 2), (164, .goto 5, 3), (167, .iload 7, 2), (169, .istore 7, 2), (171, .iinc 8 1, 3), (174, .goto (-116), 3), (177, .iload 7, 2), (179, .iload 5, 2), (181, .if_icmp .lt 6, 3)]
theorem kdX12_tells_146 : dkO cX12_tells 146 ldX12_tells_146 = true := by decide +kernel
theorem dX12_tells_146 : decode cX12_tells 146 = .ok (.iadd, 1) := dk_i kdX12_tells_146 0 rfl
theorem dX12_tells_147 : decode cX12_tells 147 = .ok (.istore 9, 2) := dk_i kdX12_tells_146 1 rfl
theorem dX12_tells_149 : decode cX12_tells 149 = .ok (.iinc 10 1, 3) := dk_i kdX12_tells_146 2 rfl
theorem dX12_tells_152 : decode cX12_tells 152 = .ok (.goto (-74), 3) := dk_i kdX12_tells_146 3 rfl
theorem dX12_tells_155 : decode cX12_tells 155 = .ok (.iload 9, 2) := dk_i kdX12_tells_146 4 rfl
theorem dX12_tells_157 : decode cX12_tells 157 = .ok (.iload 7, 2) := dk_i kdX12_tells_146 5 rfl
theorem dX12_tells_159 : decode cX12_tells 159 = .ok (.if_icmp .le 8, 3) := dk_i kdX12_tells_146 6 rfl
theorem dX12_tells_162 : decode cX12_tells 162 = .ok (.iload 9, 2) := dk_i kdX12_tells_146 7 rfl
theorem dX12_tells_164 : decode cX12_tells 164 = .ok (.goto 5, 3) := dk_i kdX12_tells_146 8 rfl
theorem dX12_tells_167 : decode cX12_tells 167 = .ok (.iload 7, 2) := dk_i kdX12_tells_146 9 rfl
theorem dX12_tells_169 : decode cX12_tells 169 = .ok (.istore 7, 2) := dk_i kdX12_tells_146 10 rfl
theorem dX12_tells_171 : decode cX12_tells 171 = .ok (.iinc 8 1, 3) := dk_i kdX12_tells_146 11 rfl
theorem dX12_tells_174 : decode cX12_tells 174 = .ok (.goto (-116), 3) := dk_i kdX12_tells_146 12 rfl
theorem dX12_tells_177 : decode cX12_tells 177 = .ok (.iload 7, 2) := dk_i kdX12_tells_146 13 rfl
theorem dX12_tells_179 : decode cX12_tells 179 = .ok (.iload 5, 2) := dk_i kdX12_tells_146 14 rfl
theorem dX12_tells_181 : decode cX12_tells 181 = .ok (.if_icmp .lt 6, 3) := dk_i kdX12_tells_146 15 rfl
def ldX12_tells_184 : List (Nat × ClassFile.Instr × Nat) := [(184, .goto 11, 3), (187, .iload 7, 2), (189, .istore 5, 2), (191, .iload 6, 2), (193, .istore 4, 2), (195, .iinc 6 1, 3), (198, .goto (-162), 3), (201, .iload 4, 2), (203, .iconst (-1), 1), (204, .if_icmp .eq 7, 3), (207, .iload_n 2, 1), (208, .ifCond .ne 8, 3), (211, .iload 4, 2), (213, .goto 5, 3), (216, .iload 5, 2), (218, .ireturn, 1)]
theorem kdX12_tells_184 : dkO cX12_tells 184 ldX12_tells_184 = true := by decide +kernel
theorem dX12_tells_184 : decode cX12_tells 184 = .ok (.goto 11, 3) := dk_i kdX12_tells_184 0 rfl
theorem dX12_tells_187 : decode cX12_tells 187 = .ok (.iload 7, 2) := dk_i kdX12_tells_184 1 rfl
theorem dX12_tells_189 : decode cX12_tells 189 = .ok (.istore 5, 2) := dk_i kdX12_tells_184 2 rfl
theorem dX12_tells_191 : decode cX12_tells 191 = .ok (.iload 6, 2) := dk_i kdX12_tells_184 3 rfl
theorem dX12_tells_193 : decode cX12_tells 193 = .ok (.istore 4, 2) := dk_i kdX12_tells_184 4 rfl
theorem dX12_tells_195 : decode cX12_tells 195 = .ok (.iinc 6 1, 3) := dk_i kdX12_tells_184 5 rfl
theorem dX12_tells_198 : decode cX12_tells 198 = .ok (.goto (-162), 3) := dk_i kdX12_tells_184 6 rfl
theorem dX12_tells_201 : decode cX12_tells 201 = .ok (.iload 4, 2) := dk_i kdX12_tells_184 7 rfl
theorem dX12_tells_203 : decode cX12_tells 203 = .ok (.iconst (-1), 1) := dk_i kdX12_tells_184 8 rfl
theorem dX12_tells_204 : decode cX12_tells 204 = .ok (.if_icmp .eq 7, 3) := dk_i kdX12_tells_184 9 rfl
theorem dX12_tells_207 : decode cX12_tells 207 = .ok (.iload_n 2, 1) := dk_i kdX12_tells_184 10 rfl
theorem dX12_tells_208 : decode cX12_tells 208 = .ok (.ifCond .ne 8, 3) := dk_i kdX12_tells_184 11 rfl
theorem dX12_tells_211 : decode cX12_tells 211 = .ok (.iload 4, 2) := dk_i kdX12_tells_184 12 rfl
theorem dX12_tells_213 : decode cX12_tells 213 = .ok (.goto 5, 3) := dk_i kdX12_tells_184 13 rfl
theorem dX12_tells_216 : decode cX12_tells 216 = .ok (.iload 5, 2) := dk_i kdX12_tells_184 14 rfl
theorem dX12_tells_218 : decode cX12_tells 218 = .ok (.ireturn, 1) := dk_i kdX12_tells_184 15 rfl
def ldX12_minutes_0 : List (Nat × ClassFile.Instr × Nat) := [(0, .aload_n 0, 1), (1, .iload_n 1, 1), (2, .iconst 1, 1), (3, .bipush 100, 2), (5, .invokevirtual 478, 3), (8, .ifCond .ne 9, 3), (11, .aload_n 0, 1), (12, .iconst 2, 1), (13, .invokevirtual 219, 3), (16, .ireturn, 1), (17, .aload_n 0, 1), (18, .invokevirtual 498, 3), (21, .iconst 0, 1), (22, .istore_n 2, 1), (23, .iconst 0, 1), (24, .istore_n 3, 1)]
theorem kdX12_minutes_0 : dkO cX12_minutes 0 ldX12_minutes_0 = true := by decide +kernel
theorem dX12_minutes_0 : decode cX12_minutes 0 = .ok (.aload_n 0, 1) := dk_i kdX12_minutes_0 0 rfl
theorem dX12_minutes_1 : decode cX12_minutes 1 = .ok (.iload_n 1, 1) := dk_i kdX12_minutes_0 1 rfl
theorem dX12_minutes_2 : decode cX12_minutes 2 = .ok (.iconst 1, 1) := dk_i kdX12_minutes_0 2 rfl
theorem dX12_minutes_3 : decode cX12_minutes 3 = .ok (.bipush 100, 2) := dk_i kdX12_minutes_0 3 rfl
theorem dX12_minutes_5 : decode cX12_minutes 5 = .ok (.invokevirtual 478, 3) := dk_i kdX12_minutes_0 4 rfl
theorem dX12_minutes_8 : decode cX12_minutes 8 = .ok (.ifCond .ne 9, 3) := dk_i kdX12_minutes_0 5 rfl
theorem dX12_minutes_11 : decode cX12_minutes 11 = .ok (.aload_n 0, 1) := dk_i kdX12_minutes_0 6 rfl
theorem dX12_minutes_12 : decode cX12_minutes 12 = .ok (.iconst 2, 1) := dk_i kdX12_minutes_0 7 rfl
theorem dX12_minutes_13 : decode cX12_minutes 13 = .ok (.invokevirtual 219, 3) := dk_i kdX12_minutes_0 8 rfl
theorem dX12_minutes_16 : decode cX12_minutes 16 = .ok (.ireturn, 1) := dk_i kdX12_minutes_0 9 rfl
theorem dX12_minutes_17 : decode cX12_minutes 17 = .ok (.aload_n 0, 1) := dk_i kdX12_minutes_0 10 rfl
theorem dX12_minutes_18 : decode cX12_minutes 18 = .ok (.invokevirtual 498, 3) := dk_i kdX12_minutes_0 11 rfl
theorem dX12_minutes_21 : decode cX12_minutes 21 = .ok (.iconst 0, 1) := dk_i kdX12_minutes_0 12 rfl
theorem dX12_minutes_22 : decode cX12_minutes 22 = .ok (.istore_n 2, 1) := dk_i kdX12_minutes_0 13 rfl
theorem dX12_minutes_23 : decode cX12_minutes 23 = .ok (.iconst 0, 1) := dk_i kdX12_minutes_0 14 rfl
theorem dX12_minutes_24 : decode cX12_minutes 24 = .ok (.istore_n 3, 1) := dk_i kdX12_minutes_0 15 rfl
def ldX12_minutes_25 : List (Nat × ClassFile.Instr × Nat) := [(25, .iload_n 3, 1), (26, .iload_n 1, 1), (27, .if_icmp .ge 17, 3), (30, .iload_n 2, 1), (31, .aload_n 0, 1), (32, .iconst 0, 1), (33, .invokevirtual 481, 3), (36, .iadd, 1), (37, .istore_n 2, 1), (38, .iinc 3 1, 3), (41, .goto (-16), 3), (44, .iload_n 2, 1), (45, .ireturn, 1)]
theorem kdX12_minutes_25 : dkO cX12_minutes 25 ldX12_minutes_25 = true := by decide +kernel
theorem dX12_minutes_25 : decode cX12_minutes 25 = .ok (.iload_n 3, 1) := dk_i kdX12_minutes_25 0 rfl
theorem dX12_minutes_26 : decode cX12_minutes 26 = .ok (.iload_n 1, 1) := dk_i kdX12_minutes_25 1 rfl
theorem dX12_minutes_27 : decode cX12_minutes 27 = .ok (.if_icmp .ge 17, 3) := dk_i kdX12_minutes_25 2 rfl
theorem dX12_minutes_30 : decode cX12_minutes 30 = .ok (.iload_n 2, 1) := dk_i kdX12_minutes_25 3 rfl
theorem dX12_minutes_31 : decode cX12_minutes 31 = .ok (.aload_n 0, 1) := dk_i kdX12_minutes_25 4 rfl
theorem dX12_minutes_32 : decode cX12_minutes 32 = .ok (.iconst 0, 1) := dk_i kdX12_minutes_25 5 rfl
theorem dX12_minutes_33 : decode cX12_minutes 33 = .ok (.invokevirtual 481, 3) := dk_i kdX12_minutes_25 6 rfl
theorem dX12_minutes_36 : decode cX12_minutes 36 = .ok (.iadd, 1) := dk_i kdX12_minutes_25 7 rfl
theorem dX12_minutes_37 : decode cX12_minutes 37 = .ok (.istore_n 2, 1) := dk_i kdX12_minutes_25 8 rfl
theorem dX12_minutes_38 : decode cX12_minutes 38 = .ok (.iinc 3 1, 3) := dk_i kdX12_minutes_25 9 rfl
theorem dX12_minutes_41 : decode cX12_minutes 41 = .ok (.goto (-16), 3) := dk_i kdX12_minutes_25 10 rfl
theorem dX12_minutes_44 : decode cX12_minutes 44 = .ok (.iload_n 2, 1) := dk_i kdX12_minutes_25 11 rfl
theorem dX12_minutes_45 : decode cX12_minutes 45 = .ok (.ireturn, 1) := dk_i kdX12_minutes_25 12 rfl
def ldX12_draw_0 : List (Nat × ClassFile.Instr × Nat) := [(0, .aload_n 0, 1), (1, .ldc2_w 501, 3), (4, .aload_n 0, 1), (5, .getfield 180, 3), (8, .lmul, 1), (9, .ldc2_w 503, 3), (12, .ladd, 1), (13, .ldc2_w 505, 3), (16, .lrem, 1), (17, .putfield 180, 3), (20, .aload_n 0, 1), (21, .getfield 180, 3), (24, .ldc2_w 507, 3), (27, .ldiv, 1), (28, .iload_n 1, 1), (29, .i2l, 1)]
theorem kdX12_draw_0 : dkO cX12_draw 0 ldX12_draw_0 = true := by decide +kernel
theorem dX12_draw_0 : decode cX12_draw 0 = .ok (.aload_n 0, 1) := dk_i kdX12_draw_0 0 rfl
theorem dX12_draw_1 : decode cX12_draw 1 = .ok (.ldc2_w 501, 3) := dk_i kdX12_draw_0 1 rfl
theorem dX12_draw_4 : decode cX12_draw 4 = .ok (.aload_n 0, 1) := dk_i kdX12_draw_0 2 rfl
theorem dX12_draw_5 : decode cX12_draw 5 = .ok (.getfield 180, 3) := dk_i kdX12_draw_0 3 rfl
theorem dX12_draw_8 : decode cX12_draw 8 = .ok (.lmul, 1) := dk_i kdX12_draw_0 4 rfl
theorem dX12_draw_9 : decode cX12_draw 9 = .ok (.ldc2_w 503, 3) := dk_i kdX12_draw_0 5 rfl
theorem dX12_draw_12 : decode cX12_draw 12 = .ok (.ladd, 1) := dk_i kdX12_draw_0 6 rfl
theorem dX12_draw_13 : decode cX12_draw 13 = .ok (.ldc2_w 505, 3) := dk_i kdX12_draw_0 7 rfl
theorem dX12_draw_16 : decode cX12_draw 16 = .ok (.lrem, 1) := dk_i kdX12_draw_0 8 rfl
theorem dX12_draw_17 : decode cX12_draw 17 = .ok (.putfield 180, 3) := dk_i kdX12_draw_0 9 rfl
theorem dX12_draw_20 : decode cX12_draw 20 = .ok (.aload_n 0, 1) := dk_i kdX12_draw_0 10 rfl
theorem dX12_draw_21 : decode cX12_draw 21 = .ok (.getfield 180, 3) := dk_i kdX12_draw_0 11 rfl
theorem dX12_draw_24 : decode cX12_draw 24 = .ok (.ldc2_w 507, 3) := dk_i kdX12_draw_0 12 rfl
theorem dX12_draw_27 : decode cX12_draw 27 = .ok (.ldiv, 1) := dk_i kdX12_draw_0 13 rfl
theorem dX12_draw_28 : decode cX12_draw 28 = .ok (.iload_n 1, 1) := dk_i kdX12_draw_0 14 rfl
theorem dX12_draw_29 : decode cX12_draw 29 = .ok (.i2l, 1) := dk_i kdX12_draw_0 15 rfl
def ldX12_draw_30 : List (Nat × ClassFile.Instr × Nat) := [(30, .lrem, 1), (31, .l2i, 1), (32, .ireturn, 1)]
theorem kdX12_draw_30 : dkO cX12_draw 30 ldX12_draw_30 = true := by decide +kernel
theorem dX12_draw_30 : decode cX12_draw 30 = .ok (.lrem, 1) := dk_i kdX12_draw_30 0 rfl
theorem dX12_draw_31 : decode cX12_draw 31 = .ok (.l2i, 1) := dk_i kdX12_draw_30 1 rfl
theorem dX12_draw_32 : decode cX12_draw 32 = .ok (.ireturn, 1) := dk_i kdX12_draw_30 2 rfl
def ldX12_chance_0 : List (Nat × ClassFile.Instr × Nat) := [(0, .aload_n 0, 1), (1, .iload_n 1, 1), (2, .iconst 1, 1), (3, .bipush 100, 2), (5, .invokevirtual 478, 3), (8, .ifCond .ne 9, 3), (11, .aload_n 0, 1), (12, .iconst 2, 1), (13, .invokevirtual 219, 3), (16, .ireturn, 1), (17, .aload_n 0, 1), (18, .invokevirtual 498, 3), (21, .iconst 0, 1), (22, .istore_n 2, 1), (23, .iconst 0, 1), (24, .istore_n 3, 1)]
theorem kdX12_chance_0 : dkO cX12_chance 0 ldX12_chance_0 = true := by decide +kernel
theorem dX12_chance_0 : decode cX12_chance 0 = .ok (.aload_n 0, 1) := dk_i kdX12_chance_0 0 rfl
theorem dX12_chance_1 : decode cX12_chance 1 = .ok (.iload_n 1, 1) := dk_i kdX12_chance_0 1 rfl
theorem dX12_chance_2 : decode cX12_chance 2 = .ok (.iconst 1, 1) := dk_i kdX12_chance_0 2 rfl
theorem dX12_chance_3 : decode cX12_chance 3 = .ok (.bipush 100, 2) := dk_i kdX12_chance_0 3 rfl
theorem dX12_chance_5 : decode cX12_chance 5 = .ok (.invokevirtual 478, 3) := dk_i kdX12_chance_0 4 rfl
theorem dX12_chance_8 : decode cX12_chance 8 = .ok (.ifCond .ne 9, 3) := dk_i kdX12_chance_0 5 rfl
theorem dX12_chance_11 : decode cX12_chance 11 = .ok (.aload_n 0, 1) := dk_i kdX12_chance_0 6 rfl
theorem dX12_chance_12 : decode cX12_chance 12 = .ok (.iconst 2, 1) := dk_i kdX12_chance_0 7 rfl
theorem dX12_chance_13 : decode cX12_chance 13 = .ok (.invokevirtual 219, 3) := dk_i kdX12_chance_0 8 rfl
theorem dX12_chance_16 : decode cX12_chance 16 = .ok (.ireturn, 1) := dk_i kdX12_chance_0 9 rfl
theorem dX12_chance_17 : decode cX12_chance 17 = .ok (.aload_n 0, 1) := dk_i kdX12_chance_0 10 rfl
theorem dX12_chance_18 : decode cX12_chance 18 = .ok (.invokevirtual 498, 3) := dk_i kdX12_chance_0 11 rfl
theorem dX12_chance_21 : decode cX12_chance 21 = .ok (.iconst 0, 1) := dk_i kdX12_chance_0 12 rfl
theorem dX12_chance_22 : decode cX12_chance 22 = .ok (.istore_n 2, 1) := dk_i kdX12_chance_0 13 rfl
theorem dX12_chance_23 : decode cX12_chance 23 = .ok (.iconst 0, 1) := dk_i kdX12_chance_0 14 rfl
theorem dX12_chance_24 : decode cX12_chance 24 = .ok (.istore_n 3, 1) := dk_i kdX12_chance_0 15 rfl
def ldX12_chance_25 : List (Nat × ClassFile.Instr × Nat) := [(25, .iload_n 3, 1), (26, .iload_n 1, 1), (27, .if_icmp .ge 100, 3), (30, .aload_n 0, 1), (31, .iconst 0, 1), (32, .invokevirtual 461, 3), (35, .aload_n 0, 1), (36, .bipush 100, 2), (38, .invokevirtual 509, 3), (41, .aload_n 0, 1), (42, .getfield 87, 3), (45, .aload_n 0, 1), (46, .getfield 51, 3), (49, .iaload, 1), (50, .if_icmp .ge 65, 3), (53, .aload_n 0, 1)]
theorem kdX12_chance_25 : dkO cX12_chance 25 ldX12_chance_25 = true := by decide +kernel
theorem dX12_chance_25 : decode cX12_chance 25 = .ok (.iload_n 3, 1) := dk_i kdX12_chance_25 0 rfl
theorem dX12_chance_26 : decode cX12_chance 26 = .ok (.iload_n 1, 1) := dk_i kdX12_chance_25 1 rfl
theorem dX12_chance_27 : decode cX12_chance 27 = .ok (.if_icmp .ge 100, 3) := dk_i kdX12_chance_25 2 rfl
theorem dX12_chance_30 : decode cX12_chance 30 = .ok (.aload_n 0, 1) := dk_i kdX12_chance_25 3 rfl
theorem dX12_chance_31 : decode cX12_chance 31 = .ok (.iconst 0, 1) := dk_i kdX12_chance_25 4 rfl
theorem dX12_chance_32 : decode cX12_chance 32 = .ok (.invokevirtual 461, 3) := dk_i kdX12_chance_25 5 rfl
theorem dX12_chance_35 : decode cX12_chance 35 = .ok (.aload_n 0, 1) := dk_i kdX12_chance_25 6 rfl
theorem dX12_chance_36 : decode cX12_chance 36 = .ok (.bipush 100, 2) := dk_i kdX12_chance_25 7 rfl
theorem dX12_chance_38 : decode cX12_chance 38 = .ok (.invokevirtual 509, 3) := dk_i kdX12_chance_25 8 rfl
theorem dX12_chance_41 : decode cX12_chance 41 = .ok (.aload_n 0, 1) := dk_i kdX12_chance_25 9 rfl
theorem dX12_chance_42 : decode cX12_chance 42 = .ok (.getfield 87, 3) := dk_i kdX12_chance_25 10 rfl
theorem dX12_chance_45 : decode cX12_chance 45 = .ok (.aload_n 0, 1) := dk_i kdX12_chance_25 11 rfl
theorem dX12_chance_46 : decode cX12_chance 46 = .ok (.getfield 51, 3) := dk_i kdX12_chance_25 12 rfl
theorem dX12_chance_49 : decode cX12_chance 49 = .ok (.iaload, 1) := dk_i kdX12_chance_25 13 rfl
theorem dX12_chance_50 : decode cX12_chance 50 = .ok (.if_icmp .ge 65, 3) := dk_i kdX12_chance_25 14 rfl
theorem dX12_chance_53 : decode cX12_chance 53 = .ok (.aload_n 0, 1) := dk_i kdX12_chance_25 15 rfl
def ldX12_chance_54 : List (Nat × ClassFile.Instr × Nat) := [(54, .getfield 63, 3), (57, .aload_n 0, 1), (58, .getfield 51, 3), (61, .iaload, 1), (62, .ifCond .le 53, 3), (65, .aload_n 0, 1), (66, .getfield 54, 3), (69, .aload_n 0, 1), (70, .getfield 51, 3), (73, .iaload, 1), (74, .ifCond .le 41, 3), (77, .aload_n 0, 1), (78, .aload_n 0, 1), (79, .getfield 63, 3), (82, .aload_n 0, 1), (83, .getfield 51, 3)]
theorem kdX12_chance_54 : dkO cX12_chance 54 ldX12_chance_54 = true := by decide +kernel
theorem dX12_chance_54 : decode cX12_chance 54 = .ok (.getfield 63, 3) := dk_i kdX12_chance_54 0 rfl
theorem dX12_chance_57 : decode cX12_chance 57 = .ok (.aload_n 0, 1) := dk_i kdX12_chance_54 1 rfl
theorem dX12_chance_58 : decode cX12_chance 58 = .ok (.getfield 51, 3) := dk_i kdX12_chance_54 2 rfl
theorem dX12_chance_61 : decode cX12_chance 61 = .ok (.iaload, 1) := dk_i kdX12_chance_54 3 rfl
theorem dX12_chance_62 : decode cX12_chance 62 = .ok (.ifCond .le 53, 3) := dk_i kdX12_chance_54 4 rfl
theorem dX12_chance_65 : decode cX12_chance 65 = .ok (.aload_n 0, 1) := dk_i kdX12_chance_54 5 rfl
theorem dX12_chance_66 : decode cX12_chance 66 = .ok (.getfield 54, 3) := dk_i kdX12_chance_54 6 rfl
theorem dX12_chance_69 : decode cX12_chance 69 = .ok (.aload_n 0, 1) := dk_i kdX12_chance_54 7 rfl
theorem dX12_chance_70 : decode cX12_chance 70 = .ok (.getfield 51, 3) := dk_i kdX12_chance_54 8 rfl
theorem dX12_chance_73 : decode cX12_chance 73 = .ok (.iaload, 1) := dk_i kdX12_chance_54 9 rfl
theorem dX12_chance_74 : decode cX12_chance 74 = .ok (.ifCond .le 41, 3) := dk_i kdX12_chance_54 10 rfl
theorem dX12_chance_77 : decode cX12_chance 77 = .ok (.aload_n 0, 1) := dk_i kdX12_chance_54 11 rfl
theorem dX12_chance_78 : decode cX12_chance 78 = .ok (.aload_n 0, 1) := dk_i kdX12_chance_54 12 rfl
theorem dX12_chance_79 : decode cX12_chance 79 = .ok (.getfield 63, 3) := dk_i kdX12_chance_54 13 rfl
theorem dX12_chance_82 : decode cX12_chance 82 = .ok (.aload_n 0, 1) := dk_i kdX12_chance_54 14 rfl
theorem dX12_chance_83 : decode cX12_chance 83 = .ok (.getfield 51, 3) := dk_i kdX12_chance_54 15 rfl
def ldX12_chance_86 : List (Nat × ClassFile.Instr × Nat) := [(86, .iaload, 1), (87, .invokevirtual 509, 3), (90, .istore 4, 2), (92, .aload_n 0, 1), (93, .iconst 0, 1), (94, .iload 4, 2), (96, .aload_n 0, 1), (97, .aload_n 0, 1), (98, .getfield 54, 3), (101, .aload_n 0, 1), (102, .getfield 51, 3), (105, .iaload, 1), (106, .invokevirtual 509, 3), (109, .invokevirtual 457, 3), (112, .iinc 2 1, 3), (115, .aload_n 0, 1)]
theorem kdX12_chance_86 : dkO cX12_chance 86 ldX12_chance_86 = true := by decide +kernel
theorem dX12_chance_86 : decode cX12_chance 86 = .ok (.iaload, 1) := dk_i kdX12_chance_86 0 rfl
theorem dX12_chance_87 : decode cX12_chance 87 = .ok (.invokevirtual 509, 3) := dk_i kdX12_chance_86 1 rfl
theorem dX12_chance_90 : decode cX12_chance 90 = .ok (.istore 4, 2) := dk_i kdX12_chance_86 2 rfl
theorem dX12_chance_92 : decode cX12_chance 92 = .ok (.aload_n 0, 1) := dk_i kdX12_chance_86 3 rfl
theorem dX12_chance_93 : decode cX12_chance 93 = .ok (.iconst 0, 1) := dk_i kdX12_chance_86 4 rfl
theorem dX12_chance_94 : decode cX12_chance 94 = .ok (.iload 4, 2) := dk_i kdX12_chance_86 5 rfl
theorem dX12_chance_96 : decode cX12_chance 96 = .ok (.aload_n 0, 1) := dk_i kdX12_chance_86 6 rfl
theorem dX12_chance_97 : decode cX12_chance 97 = .ok (.aload_n 0, 1) := dk_i kdX12_chance_86 7 rfl
theorem dX12_chance_98 : decode cX12_chance 98 = .ok (.getfield 54, 3) := dk_i kdX12_chance_86 8 rfl
theorem dX12_chance_101 : decode cX12_chance 101 = .ok (.aload_n 0, 1) := dk_i kdX12_chance_86 9 rfl
theorem dX12_chance_102 : decode cX12_chance 102 = .ok (.getfield 51, 3) := dk_i kdX12_chance_86 10 rfl
theorem dX12_chance_105 : decode cX12_chance 105 = .ok (.iaload, 1) := dk_i kdX12_chance_86 11 rfl
theorem dX12_chance_106 : decode cX12_chance 106 = .ok (.invokevirtual 509, 3) := dk_i kdX12_chance_86 12 rfl
theorem dX12_chance_109 : decode cX12_chance 109 = .ok (.invokevirtual 457, 3) := dk_i kdX12_chance_86 13 rfl
theorem dX12_chance_112 : decode cX12_chance 112 = .ok (.iinc 2 1, 3) := dk_i kdX12_chance_86 14 rfl
theorem dX12_chance_115 : decode cX12_chance 115 = .ok (.aload_n 0, 1) := dk_i kdX12_chance_86 15 rfl
def ldX12_chance_116 : List (Nat × ClassFile.Instr × Nat) := [(116, .iconst 0, 1), (117, .invokevirtual 412, 3), (120, .pop, 1), (121, .iinc 3 1, 3), (124, .goto (-99), 3), (127, .iload_n 2, 1), (128, .ireturn, 1)]
theorem kdX12_chance_116 : dkO cX12_chance 116 ldX12_chance_116 = true := by decide +kernel
theorem dX12_chance_116 : decode cX12_chance 116 = .ok (.iconst 0, 1) := dk_i kdX12_chance_116 0 rfl
theorem dX12_chance_117 : decode cX12_chance 117 = .ok (.invokevirtual 412, 3) := dk_i kdX12_chance_116 1 rfl
theorem dX12_chance_120 : decode cX12_chance 120 = .ok (.pop, 1) := dk_i kdX12_chance_116 2 rfl
theorem dX12_chance_121 : decode cX12_chance 121 = .ok (.iinc 3 1, 3) := dk_i kdX12_chance_116 3 rfl
theorem dX12_chance_124 : decode cX12_chance 124 = .ok (.goto (-99), 3) := dk_i kdX12_chance_116 4 rfl
theorem dX12_chance_127 : decode cX12_chance 127 = .ok (.iload_n 2, 1) := dk_i kdX12_chance_116 5 rfl
theorem dX12_chance_128 : decode cX12_chance 128 = .ok (.ireturn, 1) := dk_i kdX12_chance_116 6 rfl
def ldX12_give_0 : List (Nat × ClassFile.Instr × Nat) := [(0, .aload_n 0, 1), (1, .iload_n 1, 1), (2, .invokevirtual 472, 3), (5, .ifCond .eq 11, 3), (8, .aload_n 0, 1), (9, .iload_n 2, 1), (10, .invokevirtual 469, 3), (13, .ifCond .ne 9, 3), (16, .aload_n 0, 1), (17, .iconst 3, 1), (18, .invokevirtual 219, 3), (21, .ireturn, 1), (22, .aload_n 0, 1), (23, .invokevirtual 498, 3), (26, .aload_n 0, 1), (27, .iconst 0, 1)]
theorem kdX12_give_0 : dkO cX12_give 0 ldX12_give_0 = true := by decide +kernel
theorem dX12_give_0 : decode cX12_give 0 = .ok (.aload_n 0, 1) := dk_i kdX12_give_0 0 rfl
theorem dX12_give_1 : decode cX12_give 1 = .ok (.iload_n 1, 1) := dk_i kdX12_give_0 1 rfl
theorem dX12_give_2 : decode cX12_give 2 = .ok (.invokevirtual 472, 3) := dk_i kdX12_give_0 2 rfl
theorem dX12_give_5 : decode cX12_give 5 = .ok (.ifCond .eq 11, 3) := dk_i kdX12_give_0 3 rfl
theorem dX12_give_8 : decode cX12_give 8 = .ok (.aload_n 0, 1) := dk_i kdX12_give_0 4 rfl
theorem dX12_give_9 : decode cX12_give 9 = .ok (.iload_n 2, 1) := dk_i kdX12_give_0 5 rfl
theorem dX12_give_10 : decode cX12_give 10 = .ok (.invokevirtual 469, 3) := dk_i kdX12_give_0 6 rfl
theorem dX12_give_13 : decode cX12_give 13 = .ok (.ifCond .ne 9, 3) := dk_i kdX12_give_0 7 rfl
theorem dX12_give_16 : decode cX12_give 16 = .ok (.aload_n 0, 1) := dk_i kdX12_give_0 8 rfl
theorem dX12_give_17 : decode cX12_give 17 = .ok (.iconst 3, 1) := dk_i kdX12_give_0 9 rfl
theorem dX12_give_18 : decode cX12_give 18 = .ok (.invokevirtual 219, 3) := dk_i kdX12_give_0 10 rfl
theorem dX12_give_21 : decode cX12_give 21 = .ok (.ireturn, 1) := dk_i kdX12_give_0 11 rfl
theorem dX12_give_22 : decode cX12_give 22 = .ok (.aload_n 0, 1) := dk_i kdX12_give_0 12 rfl
theorem dX12_give_23 : decode cX12_give 23 = .ok (.invokevirtual 498, 3) := dk_i kdX12_give_0 13 rfl
theorem dX12_give_26 : decode cX12_give 26 = .ok (.aload_n 0, 1) := dk_i kdX12_give_0 14 rfl
theorem dX12_give_27 : decode cX12_give 27 = .ok (.iconst 0, 1) := dk_i kdX12_give_0 15 rfl
def ldX12_give_28 : List (Nat × ClassFile.Instr × Nat) := [(28, .iload_n 1, 1), (29, .iload_n 2, 1), (30, .invokevirtual 457, 3), (33, .aload_n 0, 1), (34, .iconst 0, 1), (35, .invokevirtual 412, 3), (38, .pop, 1), (39, .aload_n 0, 1), (40, .iconst 0, 1), (41, .iload_n 1, 1), (42, .invokevirtual 449, 3), (45, .ireturn, 1)]
theorem kdX12_give_28 : dkO cX12_give 28 ldX12_give_28 = true := by decide +kernel
theorem dX12_give_28 : decode cX12_give 28 = .ok (.iload_n 1, 1) := dk_i kdX12_give_28 0 rfl
theorem dX12_give_29 : decode cX12_give 29 = .ok (.iload_n 2, 1) := dk_i kdX12_give_28 1 rfl
theorem dX12_give_30 : decode cX12_give 30 = .ok (.invokevirtual 457, 3) := dk_i kdX12_give_28 2 rfl
theorem dX12_give_33 : decode cX12_give 33 = .ok (.aload_n 0, 1) := dk_i kdX12_give_28 3 rfl
theorem dX12_give_34 : decode cX12_give 34 = .ok (.iconst 0, 1) := dk_i kdX12_give_28 4 rfl
theorem dX12_give_35 : decode cX12_give 35 = .ok (.invokevirtual 412, 3) := dk_i kdX12_give_28 5 rfl
theorem dX12_give_38 : decode cX12_give 38 = .ok (.pop, 1) := dk_i kdX12_give_28 6 rfl
theorem dX12_give_39 : decode cX12_give 39 = .ok (.aload_n 0, 1) := dk_i kdX12_give_28 7 rfl
theorem dX12_give_40 : decode cX12_give 40 = .ok (.iconst 0, 1) := dk_i kdX12_give_28 8 rfl
theorem dX12_give_41 : decode cX12_give 41 = .ok (.iload_n 1, 1) := dk_i kdX12_give_28 9 rfl
theorem dX12_give_42 : decode cX12_give 42 = .ok (.invokevirtual 449, 3) := dk_i kdX12_give_28 10 rfl
theorem dX12_give_45 : decode cX12_give 45 = .ok (.ireturn, 1) := dk_i kdX12_give_28 11 rfl
def ldX12_take_0 : List (Nat × ClassFile.Instr × Nat) := [(0, .aload_n 0, 1), (1, .iload_n 1, 1), (2, .invokevirtual 472, 3), (5, .ifCond .eq 13, 3), (8, .aload_n 0, 1), (9, .getfield 159, 3), (12, .iload_n 1, 1), (13, .iaload, 1), (14, .iconst (-1), 1), (15, .if_icmp .ne 9, 3), (18, .aload_n 0, 1), (19, .iconst 3, 1), (20, .invokevirtual 219, 3), (23, .ireturn, 1), (24, .aload_n 0, 1), (25, .invokevirtual 498, 3)]
theorem kdX12_take_0 : dkO cX12_take 0 ldX12_take_0 = true := by decide +kernel
theorem dX12_take_0 : decode cX12_take 0 = .ok (.aload_n 0, 1) := dk_i kdX12_take_0 0 rfl
theorem dX12_take_1 : decode cX12_take 1 = .ok (.iload_n 1, 1) := dk_i kdX12_take_0 1 rfl
theorem dX12_take_2 : decode cX12_take 2 = .ok (.invokevirtual 472, 3) := dk_i kdX12_take_0 2 rfl
theorem dX12_take_5 : decode cX12_take 5 = .ok (.ifCond .eq 13, 3) := dk_i kdX12_take_0 3 rfl
theorem dX12_take_8 : decode cX12_take 8 = .ok (.aload_n 0, 1) := dk_i kdX12_take_0 4 rfl
theorem dX12_take_9 : decode cX12_take 9 = .ok (.getfield 159, 3) := dk_i kdX12_take_0 5 rfl
theorem dX12_take_12 : decode cX12_take 12 = .ok (.iload_n 1, 1) := dk_i kdX12_take_0 6 rfl
theorem dX12_take_13 : decode cX12_take 13 = .ok (.iaload, 1) := dk_i kdX12_take_0 7 rfl
theorem dX12_take_14 : decode cX12_take 14 = .ok (.iconst (-1), 1) := dk_i kdX12_take_0 8 rfl
theorem dX12_take_15 : decode cX12_take 15 = .ok (.if_icmp .ne 9, 3) := dk_i kdX12_take_0 9 rfl
theorem dX12_take_18 : decode cX12_take 18 = .ok (.aload_n 0, 1) := dk_i kdX12_take_0 10 rfl
theorem dX12_take_19 : decode cX12_take 19 = .ok (.iconst 3, 1) := dk_i kdX12_take_0 11 rfl
theorem dX12_take_20 : decode cX12_take 20 = .ok (.invokevirtual 219, 3) := dk_i kdX12_take_0 12 rfl
theorem dX12_take_23 : decode cX12_take 23 = .ok (.ireturn, 1) := dk_i kdX12_take_0 13 rfl
theorem dX12_take_24 : decode cX12_take 24 = .ok (.aload_n 0, 1) := dk_i kdX12_take_0 14 rfl
theorem dX12_take_25 : decode cX12_take 25 = .ok (.invokevirtual 498, 3) := dk_i kdX12_take_0 15 rfl
def ldX12_take_28 : List (Nat × ClassFile.Instr × Nat) := [(28, .aload_n 0, 1), (29, .iconst 0, 1), (30, .iload_n 1, 1), (31, .iconst (-1), 1), (32, .invokevirtual 457, 3), (35, .aload_n 0, 1), (36, .iconst 0, 1), (37, .invokevirtual 412, 3), (40, .pop, 1), (41, .aload_n 0, 1), (42, .iconst 0, 1), (43, .iload_n 1, 1), (44, .invokevirtual 449, 3), (47, .ireturn, 1)]
theorem kdX12_take_28 : dkO cX12_take 28 ldX12_take_28 = true := by decide +kernel
theorem dX12_take_28 : decode cX12_take 28 = .ok (.aload_n 0, 1) := dk_i kdX12_take_28 0 rfl
theorem dX12_take_29 : decode cX12_take 29 = .ok (.iconst 0, 1) := dk_i kdX12_take_28 1 rfl
theorem dX12_take_30 : decode cX12_take 30 = .ok (.iload_n 1, 1) := dk_i kdX12_take_28 2 rfl
theorem dX12_take_31 : decode cX12_take 31 = .ok (.iconst (-1), 1) := dk_i kdX12_take_28 3 rfl
theorem dX12_take_32 : decode cX12_take 32 = .ok (.invokevirtual 457, 3) := dk_i kdX12_take_28 4 rfl
theorem dX12_take_35 : decode cX12_take 35 = .ok (.aload_n 0, 1) := dk_i kdX12_take_28 5 rfl
theorem dX12_take_36 : decode cX12_take 36 = .ok (.iconst 0, 1) := dk_i kdX12_take_28 6 rfl
theorem dX12_take_37 : decode cX12_take 37 = .ok (.invokevirtual 412, 3) := dk_i kdX12_take_28 7 rfl
theorem dX12_take_40 : decode cX12_take 40 = .ok (.pop, 1) := dk_i kdX12_take_28 8 rfl
theorem dX12_take_41 : decode cX12_take 41 = .ok (.aload_n 0, 1) := dk_i kdX12_take_28 9 rfl
theorem dX12_take_42 : decode cX12_take 42 = .ok (.iconst 0, 1) := dk_i kdX12_take_28 10 rfl
theorem dX12_take_43 : decode cX12_take 43 = .ok (.iload_n 1, 1) := dk_i kdX12_take_28 11 rfl
theorem dX12_take_44 : decode cX12_take 44 = .ok (.invokevirtual 449, 3) := dk_i kdX12_take_28 12 rfl
theorem dX12_take_47 : decode cX12_take 47 = .ok (.ireturn, 1) := dk_i kdX12_take_28 13 rfl
def ldX12_seed_0 : List (Nat × ClassFile.Instr × Nat) := [(0, .iload_n 1, 1), (1, .ifCond .ge 17, 3), (4, .aload_n 0, 1), (5, .iconst 5, 1), (6, .invokevirtual 219, 3), (9, .ifCond .lt 7, 3), (12, .iconst 1, 1), (13, .goto 4, 3), (16, .iconst 0, 1), (17, .ireturn, 1), (18, .aload_n 0, 1), (19, .iload_n 1, 1), (20, .i2l, 1), (21, .putfield 180, 3), (24, .iconst 1, 1), (25, .ireturn, 1)]
theorem kdX12_seed_0 : dkO cX12_seed 0 ldX12_seed_0 = true := by decide +kernel
theorem dX12_seed_0 : decode cX12_seed 0 = .ok (.iload_n 1, 1) := dk_i kdX12_seed_0 0 rfl
theorem dX12_seed_1 : decode cX12_seed 1 = .ok (.ifCond .ge 17, 3) := dk_i kdX12_seed_0 1 rfl
theorem dX12_seed_4 : decode cX12_seed 4 = .ok (.aload_n 0, 1) := dk_i kdX12_seed_0 2 rfl
theorem dX12_seed_5 : decode cX12_seed 5 = .ok (.iconst 5, 1) := dk_i kdX12_seed_0 3 rfl
theorem dX12_seed_6 : decode cX12_seed 6 = .ok (.invokevirtual 219, 3) := dk_i kdX12_seed_0 4 rfl
theorem dX12_seed_9 : decode cX12_seed 9 = .ok (.ifCond .lt 7, 3) := dk_i kdX12_seed_0 5 rfl
theorem dX12_seed_12 : decode cX12_seed 12 = .ok (.iconst 1, 1) := dk_i kdX12_seed_0 6 rfl
theorem dX12_seed_13 : decode cX12_seed 13 = .ok (.goto 4, 3) := dk_i kdX12_seed_0 7 rfl
theorem dX12_seed_16 : decode cX12_seed 16 = .ok (.iconst 0, 1) := dk_i kdX12_seed_0 8 rfl
theorem dX12_seed_17 : decode cX12_seed 17 = .ok (.ireturn, 1) := dk_i kdX12_seed_0 9 rfl
theorem dX12_seed_18 : decode cX12_seed 18 = .ok (.aload_n 0, 1) := dk_i kdX12_seed_0 10 rfl
theorem dX12_seed_19 : decode cX12_seed 19 = .ok (.iload_n 1, 1) := dk_i kdX12_seed_0 11 rfl
theorem dX12_seed_20 : decode cX12_seed 20 = .ok (.i2l, 1) := dk_i kdX12_seed_0 12 rfl
theorem dX12_seed_21 : decode cX12_seed 21 = .ok (.putfield 180, 3) := dk_i kdX12_seed_0 13 rfl
theorem dX12_seed_24 : decode cX12_seed 24 = .ok (.iconst 1, 1) := dk_i kdX12_seed_0 14 rfl
theorem dX12_seed_25 : decode cX12_seed 25 = .ok (.ireturn, 1) := dk_i kdX12_seed_0 15 rfl
def ldX12_kept_0 : List (Nat × ClassFile.Instr × Nat) := [(0, .iload_n 1, 1), (1, .iconst 0, 1), (2, .aload_n 0, 1), (3, .getfield 168, 3), (6, .iconst 0, 1), (7, .iaload, 1), (8, .iconst 1, 1), (9, .isub, 1), (10, .invokestatic 305, 3), (13, .ifCond .eq 25, 3), (16, .iload_n 2, 1), (17, .iconst 0, 1), (18, .iconst 1, 1), (19, .invokestatic 305, 3), (22, .ifCond .eq 16, 3), (25, .aload_n 0, 1)]
theorem kdX12_kept_0 : dkO cX12_kept 0 ldX12_kept_0 = true := by decide +kernel
theorem dX12_kept_0 : decode cX12_kept 0 = .ok (.iload_n 1, 1) := dk_i kdX12_kept_0 0 rfl
theorem dX12_kept_1 : decode cX12_kept 1 = .ok (.iconst 0, 1) := dk_i kdX12_kept_0 1 rfl
theorem dX12_kept_2 : decode cX12_kept 2 = .ok (.aload_n 0, 1) := dk_i kdX12_kept_0 2 rfl
theorem dX12_kept_3 : decode cX12_kept 3 = .ok (.getfield 168, 3) := dk_i kdX12_kept_0 3 rfl
theorem dX12_kept_6 : decode cX12_kept 6 = .ok (.iconst 0, 1) := dk_i kdX12_kept_0 4 rfl
theorem dX12_kept_7 : decode cX12_kept 7 = .ok (.iaload, 1) := dk_i kdX12_kept_0 5 rfl
theorem dX12_kept_8 : decode cX12_kept 8 = .ok (.iconst 1, 1) := dk_i kdX12_kept_0 6 rfl
theorem dX12_kept_9 : decode cX12_kept 9 = .ok (.isub, 1) := dk_i kdX12_kept_0 7 rfl
theorem dX12_kept_10 : decode cX12_kept 10 = .ok (.invokestatic 305, 3) := dk_i kdX12_kept_0 8 rfl
theorem dX12_kept_13 : decode cX12_kept 13 = .ok (.ifCond .eq 25, 3) := dk_i kdX12_kept_0 9 rfl
theorem dX12_kept_16 : decode cX12_kept 16 = .ok (.iload_n 2, 1) := dk_i kdX12_kept_0 10 rfl
theorem dX12_kept_17 : decode cX12_kept 17 = .ok (.iconst 0, 1) := dk_i kdX12_kept_0 11 rfl
theorem dX12_kept_18 : decode cX12_kept 18 = .ok (.iconst 1, 1) := dk_i kdX12_kept_0 12 rfl
theorem dX12_kept_19 : decode cX12_kept 19 = .ok (.invokestatic 305, 3) := dk_i kdX12_kept_0 13 rfl
theorem dX12_kept_22 : decode cX12_kept 22 = .ok (.ifCond .eq 16, 3) := dk_i kdX12_kept_0 14 rfl
theorem dX12_kept_25 : decode cX12_kept 25 = .ok (.aload_n 0, 1) := dk_i kdX12_kept_0 15 rfl
def ldX12_kept_26 : List (Nat × ClassFile.Instr × Nat) := [(26, .getfield 171, 3), (29, .iconst 2, 1), (30, .iload_n 1, 1), (31, .imul, 1), (32, .iload_n 2, 1), (33, .iadd, 1), (34, .iaload, 1), (35, .goto 4, 3), (38, .iconst (-1), 1), (39, .ireturn, 1)]
theorem kdX12_kept_26 : dkO cX12_kept 26 ldX12_kept_26 = true := by decide +kernel
theorem dX12_kept_26 : decode cX12_kept 26 = .ok (.getfield 171, 3) := dk_i kdX12_kept_26 0 rfl
theorem dX12_kept_29 : decode cX12_kept 29 = .ok (.iconst 2, 1) := dk_i kdX12_kept_26 1 rfl
theorem dX12_kept_30 : decode cX12_kept 30 = .ok (.iload_n 1, 1) := dk_i kdX12_kept_26 2 rfl
theorem dX12_kept_31 : decode cX12_kept 31 = .ok (.imul, 1) := dk_i kdX12_kept_26 3 rfl
theorem dX12_kept_32 : decode cX12_kept 32 = .ok (.iload_n 2, 1) := dk_i kdX12_kept_26 4 rfl
theorem dX12_kept_33 : decode cX12_kept 33 = .ok (.iadd, 1) := dk_i kdX12_kept_26 5 rfl
theorem dX12_kept_34 : decode cX12_kept 34 = .ok (.iaload, 1) := dk_i kdX12_kept_26 6 rfl
theorem dX12_kept_35 : decode cX12_kept 35 = .ok (.goto 4, 3) := dk_i kdX12_kept_26 7 rfl
theorem dX12_kept_38 : decode cX12_kept 38 = .ok (.iconst (-1), 1) := dk_i kdX12_kept_26 8 rfl
theorem dX12_kept_39 : decode cX12_kept 39 = .ok (.ireturn, 1) := dk_i kdX12_kept_26 9 rfl
def ldX12_writes_0 : List (Nat × ClassFile.Instr × Nat) := [(0, .aload_n 0, 1), (1, .getfield 213, 3), (4, .aload_n 0, 1), (5, .getfield 216, 3), (8, .iload_n 1, 1), (9, .sipush 255, 3), (12, .iand, 1), (13, .iastore, 1), (14, .aload_n 0, 1), (15, .dup, 1), (16, .getfield 216, 3), (19, .iconst 1, 1), (20, .iadd, 1), (21, .putfield 216, 3), (24, .return_, 1)]
theorem kdX12_writes_0 : dkO cX12_writes 0 ldX12_writes_0 = true := by decide +kernel
theorem dX12_writes_0 : decode cX12_writes 0 = .ok (.aload_n 0, 1) := dk_i kdX12_writes_0 0 rfl
theorem dX12_writes_1 : decode cX12_writes 1 = .ok (.getfield 213, 3) := dk_i kdX12_writes_0 1 rfl
theorem dX12_writes_4 : decode cX12_writes 4 = .ok (.aload_n 0, 1) := dk_i kdX12_writes_0 2 rfl
theorem dX12_writes_5 : decode cX12_writes 5 = .ok (.getfield 216, 3) := dk_i kdX12_writes_0 3 rfl
theorem dX12_writes_8 : decode cX12_writes 8 = .ok (.iload_n 1, 1) := dk_i kdX12_writes_0 4 rfl
theorem dX12_writes_9 : decode cX12_writes 9 = .ok (.sipush 255, 3) := dk_i kdX12_writes_0 5 rfl
theorem dX12_writes_12 : decode cX12_writes 12 = .ok (.iand, 1) := dk_i kdX12_writes_0 6 rfl
theorem dX12_writes_13 : decode cX12_writes 13 = .ok (.iastore, 1) := dk_i kdX12_writes_0 7 rfl
theorem dX12_writes_14 : decode cX12_writes 14 = .ok (.aload_n 0, 1) := dk_i kdX12_writes_0 8 rfl
theorem dX12_writes_15 : decode cX12_writes 15 = .ok (.dup, 1) := dk_i kdX12_writes_0 9 rfl
theorem dX12_writes_16 : decode cX12_writes 16 = .ok (.getfield 216, 3) := dk_i kdX12_writes_0 10 rfl
theorem dX12_writes_19 : decode cX12_writes 19 = .ok (.iconst 1, 1) := dk_i kdX12_writes_0 11 rfl
theorem dX12_writes_20 : decode cX12_writes 20 = .ok (.iadd, 1) := dk_i kdX12_writes_0 12 rfl
theorem dX12_writes_21 : decode cX12_writes 21 = .ok (.putfield 216, 3) := dk_i kdX12_writes_0 13 rfl
theorem dX12_writes_24 : decode cX12_writes 24 = .ok (.return_, 1) := dk_i kdX12_writes_0 14 rfl
def ldX12_image_0 : List (Nat × ClassFile.Instr × Nat) := [(0, .aload_n 0, 1), (1, .iconst 0, 1), (2, .putfield 216, 3), (5, .aload_n 0, 1), (6, .aload_n 0, 1), (7, .getfield 156, 3), (10, .iconst 0, 1), (11, .iaload, 1), (12, .bipush 8, 2), (14, .ishr, 1), (15, .invokevirtual 512, 3), (18, .aload_n 0, 1), (19, .aload_n 0, 1), (20, .getfield 156, 3), (23, .iconst 0, 1), (24, .iaload, 1)]
theorem kdX12_image_0 : dkO cX12_image 0 ldX12_image_0 = true := by decide +kernel
theorem dX12_image_0 : decode cX12_image 0 = .ok (.aload_n 0, 1) := dk_i kdX12_image_0 0 rfl
theorem dX12_image_1 : decode cX12_image 1 = .ok (.iconst 0, 1) := dk_i kdX12_image_0 1 rfl
theorem dX12_image_2 : decode cX12_image 2 = .ok (.putfield 216, 3) := dk_i kdX12_image_0 2 rfl
theorem dX12_image_5 : decode cX12_image 5 = .ok (.aload_n 0, 1) := dk_i kdX12_image_0 3 rfl
theorem dX12_image_6 : decode cX12_image 6 = .ok (.aload_n 0, 1) := dk_i kdX12_image_0 4 rfl
theorem dX12_image_7 : decode cX12_image 7 = .ok (.getfield 156, 3) := dk_i kdX12_image_0 5 rfl
theorem dX12_image_10 : decode cX12_image 10 = .ok (.iconst 0, 1) := dk_i kdX12_image_0 6 rfl
theorem dX12_image_11 : decode cX12_image 11 = .ok (.iaload, 1) := dk_i kdX12_image_0 7 rfl
theorem dX12_image_12 : decode cX12_image 12 = .ok (.bipush 8, 2) := dk_i kdX12_image_0 8 rfl
theorem dX12_image_14 : decode cX12_image 14 = .ok (.ishr, 1) := dk_i kdX12_image_0 9 rfl
theorem dX12_image_15 : decode cX12_image 15 = .ok (.invokevirtual 512, 3) := dk_i kdX12_image_0 10 rfl
theorem dX12_image_18 : decode cX12_image 18 = .ok (.aload_n 0, 1) := dk_i kdX12_image_0 11 rfl
theorem dX12_image_19 : decode cX12_image 19 = .ok (.aload_n 0, 1) := dk_i kdX12_image_0 12 rfl
theorem dX12_image_20 : decode cX12_image 20 = .ok (.getfield 156, 3) := dk_i kdX12_image_0 13 rfl
theorem dX12_image_23 : decode cX12_image 23 = .ok (.iconst 0, 1) := dk_i kdX12_image_0 14 rfl
theorem dX12_image_24 : decode cX12_image 24 = .ok (.iaload, 1) := dk_i kdX12_image_0 15 rfl
def ldX12_image_25 : List (Nat × ClassFile.Instr × Nat) := [(25, .invokevirtual 512, 3), (28, .iconst 0, 1), (29, .istore_n 1, 1), (30, .iload_n 1, 1), (31, .aload_n 0, 1), (32, .getfield 63, 3), (35, .aload_n 0, 1), (36, .getfield 51, 3), (39, .iaload, 1), (40, .if_icmp .ge 42, 3), (43, .aload_n 0, 1), (44, .aload_n 0, 1), (45, .getfield 159, 3), (48, .iload_n 1, 1), (49, .iaload, 1), (50, .invokevirtual 512, 3)]
theorem kdX12_image_25 : dkO cX12_image 25 ldX12_image_25 = true := by decide +kernel
theorem dX12_image_25 : decode cX12_image 25 = .ok (.invokevirtual 512, 3) := dk_i kdX12_image_25 0 rfl
theorem dX12_image_28 : decode cX12_image 28 = .ok (.iconst 0, 1) := dk_i kdX12_image_25 1 rfl
theorem dX12_image_29 : decode cX12_image 29 = .ok (.istore_n 1, 1) := dk_i kdX12_image_25 2 rfl
theorem dX12_image_30 : decode cX12_image 30 = .ok (.iload_n 1, 1) := dk_i kdX12_image_25 3 rfl
theorem dX12_image_31 : decode cX12_image 31 = .ok (.aload_n 0, 1) := dk_i kdX12_image_25 4 rfl
theorem dX12_image_32 : decode cX12_image 32 = .ok (.getfield 63, 3) := dk_i kdX12_image_25 5 rfl
theorem dX12_image_35 : decode cX12_image 35 = .ok (.aload_n 0, 1) := dk_i kdX12_image_25 6 rfl
theorem dX12_image_36 : decode cX12_image 36 = .ok (.getfield 51, 3) := dk_i kdX12_image_25 7 rfl
theorem dX12_image_39 : decode cX12_image 39 = .ok (.iaload, 1) := dk_i kdX12_image_25 8 rfl
theorem dX12_image_40 : decode cX12_image 40 = .ok (.if_icmp .ge 42, 3) := dk_i kdX12_image_25 9 rfl
theorem dX12_image_43 : decode cX12_image 43 = .ok (.aload_n 0, 1) := dk_i kdX12_image_25 10 rfl
theorem dX12_image_44 : decode cX12_image 44 = .ok (.aload_n 0, 1) := dk_i kdX12_image_25 11 rfl
theorem dX12_image_45 : decode cX12_image 45 = .ok (.getfield 159, 3) := dk_i kdX12_image_25 12 rfl
theorem dX12_image_48 : decode cX12_image 48 = .ok (.iload_n 1, 1) := dk_i kdX12_image_25 13 rfl
theorem dX12_image_49 : decode cX12_image 49 = .ok (.iaload, 1) := dk_i kdX12_image_25 14 rfl
theorem dX12_image_50 : decode cX12_image 50 = .ok (.invokevirtual 512, 3) := dk_i kdX12_image_25 15 rfl
def ldX12_image_53 : List (Nat × ClassFile.Instr × Nat) := [(53, .aload_n 0, 1), (54, .aload_n 0, 1), (55, .getfield 162, 3), (58, .iload_n 1, 1), (59, .iaload, 1), (60, .bipush 8, 2), (62, .ishr, 1), (63, .invokevirtual 512, 3), (66, .aload_n 0, 1), (67, .aload_n 0, 1), (68, .getfield 162, 3), (71, .iload_n 1, 1), (72, .iaload, 1), (73, .invokevirtual 512, 3), (76, .iinc 1 1, 3), (79, .goto (-49), 3)]
theorem kdX12_image_53 : dkO cX12_image 53 ldX12_image_53 = true := by decide +kernel
theorem dX12_image_53 : decode cX12_image 53 = .ok (.aload_n 0, 1) := dk_i kdX12_image_53 0 rfl
theorem dX12_image_54 : decode cX12_image 54 = .ok (.aload_n 0, 1) := dk_i kdX12_image_53 1 rfl
theorem dX12_image_55 : decode cX12_image 55 = .ok (.getfield 162, 3) := dk_i kdX12_image_53 2 rfl
theorem dX12_image_58 : decode cX12_image 58 = .ok (.iload_n 1, 1) := dk_i kdX12_image_53 3 rfl
theorem dX12_image_59 : decode cX12_image 59 = .ok (.iaload, 1) := dk_i kdX12_image_53 4 rfl
theorem dX12_image_60 : decode cX12_image 60 = .ok (.bipush 8, 2) := dk_i kdX12_image_53 5 rfl
theorem dX12_image_62 : decode cX12_image 62 = .ok (.ishr, 1) := dk_i kdX12_image_53 6 rfl
theorem dX12_image_63 : decode cX12_image 63 = .ok (.invokevirtual 512, 3) := dk_i kdX12_image_53 7 rfl
theorem dX12_image_66 : decode cX12_image 66 = .ok (.aload_n 0, 1) := dk_i kdX12_image_53 8 rfl
theorem dX12_image_67 : decode cX12_image 67 = .ok (.aload_n 0, 1) := dk_i kdX12_image_53 9 rfl
theorem dX12_image_68 : decode cX12_image 68 = .ok (.getfield 162, 3) := dk_i kdX12_image_53 10 rfl
theorem dX12_image_71 : decode cX12_image 71 = .ok (.iload_n 1, 1) := dk_i kdX12_image_53 11 rfl
theorem dX12_image_72 : decode cX12_image 72 = .ok (.iaload, 1) := dk_i kdX12_image_53 12 rfl
theorem dX12_image_73 : decode cX12_image 73 = .ok (.invokevirtual 512, 3) := dk_i kdX12_image_53 13 rfl
theorem dX12_image_76 : decode cX12_image 76 = .ok (.iinc 1 1, 3) := dk_i kdX12_image_53 14 rfl
theorem dX12_image_79 : decode cX12_image 79 = .ok (.goto (-49), 3) := dk_i kdX12_image_53 15 rfl
def ldX12_image_82 : List (Nat × ClassFile.Instr × Nat) := [(82, .iconst 0, 1), (83, .istore_n 1, 1), (84, .iload_n 1, 1), (85, .aload_n 0, 1), (86, .getfield 78, 3), (89, .aload_n 0, 1), (90, .getfield 51, 3), (93, .iaload, 1), (94, .if_icmp .ge 31, 3), (97, .aload_n 0, 1), (98, .aload_n 0, 1), (99, .getfield 165, 3), (102, .iconst 0, 1), (103, .iaload, 1), (104, .iload_n 1, 1), (105, .invokestatic 347, 3)]
theorem kdX12_image_82 : dkO cX12_image 82 ldX12_image_82 = true := by decide +kernel
theorem dX12_image_82 : decode cX12_image 82 = .ok (.iconst 0, 1) := dk_i kdX12_image_82 0 rfl
theorem dX12_image_83 : decode cX12_image 83 = .ok (.istore_n 1, 1) := dk_i kdX12_image_82 1 rfl
theorem dX12_image_84 : decode cX12_image 84 = .ok (.iload_n 1, 1) := dk_i kdX12_image_82 2 rfl
theorem dX12_image_85 : decode cX12_image 85 = .ok (.aload_n 0, 1) := dk_i kdX12_image_82 3 rfl
theorem dX12_image_86 : decode cX12_image 86 = .ok (.getfield 78, 3) := dk_i kdX12_image_82 4 rfl
theorem dX12_image_89 : decode cX12_image 89 = .ok (.aload_n 0, 1) := dk_i kdX12_image_82 5 rfl
theorem dX12_image_90 : decode cX12_image 90 = .ok (.getfield 51, 3) := dk_i kdX12_image_82 6 rfl
theorem dX12_image_93 : decode cX12_image 93 = .ok (.iaload, 1) := dk_i kdX12_image_82 7 rfl
theorem dX12_image_94 : decode cX12_image 94 = .ok (.if_icmp .ge 31, 3) := dk_i kdX12_image_82 8 rfl
theorem dX12_image_97 : decode cX12_image 97 = .ok (.aload_n 0, 1) := dk_i kdX12_image_82 9 rfl
theorem dX12_image_98 : decode cX12_image 98 = .ok (.aload_n 0, 1) := dk_i kdX12_image_82 10 rfl
theorem dX12_image_99 : decode cX12_image 99 = .ok (.getfield 165, 3) := dk_i kdX12_image_82 11 rfl
theorem dX12_image_102 : decode cX12_image 102 = .ok (.iconst 0, 1) := dk_i kdX12_image_82 12 rfl
theorem dX12_image_103 : decode cX12_image 103 = .ok (.iaload, 1) := dk_i kdX12_image_82 13 rfl
theorem dX12_image_104 : decode cX12_image 104 = .ok (.iload_n 1, 1) := dk_i kdX12_image_82 14 rfl
theorem dX12_image_105 : decode cX12_image 105 = .ok (.invokestatic 347, 3) := dk_i kdX12_image_82 15 rfl
def ldX12_image_108 : List (Nat × ClassFile.Instr × Nat) := [(108, .ifCond .eq 7, 3), (111, .iconst 1, 1), (112, .goto 4, 3), (115, .iconst 0, 1), (116, .invokevirtual 512, 3), (119, .iinc 1 1, 3), (122, .goto (-38), 3), (125, .sipush 227, 3), (128, .istore_n 1, 1), (129, .iconst 0, 1), (130, .istore_n 2, 1), (131, .iload_n 2, 1), (132, .aload_n 0, 1), (133, .getfield 216, 3), (136, .if_icmp .ge 24, 3), (139, .iconst 5, 1)]
theorem kdX12_image_108 : dkO cX12_image 108 ldX12_image_108 = true := by decide +kernel
theorem dX12_image_108 : decode cX12_image 108 = .ok (.ifCond .eq 7, 3) := dk_i kdX12_image_108 0 rfl
theorem dX12_image_111 : decode cX12_image 111 = .ok (.iconst 1, 1) := dk_i kdX12_image_108 1 rfl
theorem dX12_image_112 : decode cX12_image 112 = .ok (.goto 4, 3) := dk_i kdX12_image_108 2 rfl
theorem dX12_image_115 : decode cX12_image 115 = .ok (.iconst 0, 1) := dk_i kdX12_image_108 3 rfl
theorem dX12_image_116 : decode cX12_image 116 = .ok (.invokevirtual 512, 3) := dk_i kdX12_image_108 4 rfl
theorem dX12_image_119 : decode cX12_image 119 = .ok (.iinc 1 1, 3) := dk_i kdX12_image_108 5 rfl
theorem dX12_image_122 : decode cX12_image 122 = .ok (.goto (-38), 3) := dk_i kdX12_image_108 6 rfl
theorem dX12_image_125 : decode cX12_image 125 = .ok (.sipush 227, 3) := dk_i kdX12_image_108 7 rfl
theorem dX12_image_128 : decode cX12_image 128 = .ok (.istore_n 1, 1) := dk_i kdX12_image_108 8 rfl
theorem dX12_image_129 : decode cX12_image 129 = .ok (.iconst 0, 1) := dk_i kdX12_image_108 9 rfl
theorem dX12_image_130 : decode cX12_image 130 = .ok (.istore_n 2, 1) := dk_i kdX12_image_108 10 rfl
theorem dX12_image_131 : decode cX12_image 131 = .ok (.iload_n 2, 1) := dk_i kdX12_image_108 11 rfl
theorem dX12_image_132 : decode cX12_image 132 = .ok (.aload_n 0, 1) := dk_i kdX12_image_108 12 rfl
theorem dX12_image_133 : decode cX12_image 133 = .ok (.getfield 216, 3) := dk_i kdX12_image_108 13 rfl
theorem dX12_image_136 : decode cX12_image 136 = .ok (.if_icmp .ge 24, 3) := dk_i kdX12_image_108 14 rfl
theorem dX12_image_139 : decode cX12_image 139 = .ok (.iconst 5, 1) := dk_i kdX12_image_108 15 rfl
def ldX12_image_140 : List (Nat × ClassFile.Instr × Nat) := [(140, .iload_n 1, 1), (141, .imul, 1), (142, .aload_n 0, 1), (143, .getfield 213, 3), (146, .iload_n 2, 1), (147, .iaload, 1), (148, .iadd, 1), (149, .sipush 251, 3), (152, .irem, 1), (153, .istore_n 1, 1), (154, .iinc 2 1, 3), (157, .goto (-26), 3), (160, .aload_n 0, 1), (161, .iload_n 1, 1), (162, .invokevirtual 512, 3), (165, .aload_n 0, 1)]
theorem kdX12_image_140 : dkO cX12_image 140 ldX12_image_140 = true := by decide +kernel
theorem dX12_image_140 : decode cX12_image 140 = .ok (.iload_n 1, 1) := dk_i kdX12_image_140 0 rfl
theorem dX12_image_141 : decode cX12_image 141 = .ok (.imul, 1) := dk_i kdX12_image_140 1 rfl
theorem dX12_image_142 : decode cX12_image 142 = .ok (.aload_n 0, 1) := dk_i kdX12_image_140 2 rfl
theorem dX12_image_143 : decode cX12_image 143 = .ok (.getfield 213, 3) := dk_i kdX12_image_140 3 rfl
theorem dX12_image_146 : decode cX12_image 146 = .ok (.iload_n 2, 1) := dk_i kdX12_image_140 4 rfl
theorem dX12_image_147 : decode cX12_image 147 = .ok (.iaload, 1) := dk_i kdX12_image_140 5 rfl
theorem dX12_image_148 : decode cX12_image 148 = .ok (.iadd, 1) := dk_i kdX12_image_140 6 rfl
theorem dX12_image_149 : decode cX12_image 149 = .ok (.sipush 251, 3) := dk_i kdX12_image_140 7 rfl
theorem dX12_image_152 : decode cX12_image 152 = .ok (.irem, 1) := dk_i kdX12_image_140 8 rfl
theorem dX12_image_153 : decode cX12_image 153 = .ok (.istore_n 1, 1) := dk_i kdX12_image_140 9 rfl
theorem dX12_image_154 : decode cX12_image 154 = .ok (.iinc 2 1, 3) := dk_i kdX12_image_140 10 rfl
theorem dX12_image_157 : decode cX12_image 157 = .ok (.goto (-26), 3) := dk_i kdX12_image_140 11 rfl
theorem dX12_image_160 : decode cX12_image 160 = .ok (.aload_n 0, 1) := dk_i kdX12_image_140 12 rfl
theorem dX12_image_161 : decode cX12_image 161 = .ok (.iload_n 1, 1) := dk_i kdX12_image_140 13 rfl
theorem dX12_image_162 : decode cX12_image 162 = .ok (.invokevirtual 512, 3) := dk_i kdX12_image_140 14 rfl
theorem dX12_image_165 : decode cX12_image 165 = .ok (.aload_n 0, 1) := dk_i kdX12_image_140 15 rfl
def ldX12_image_166 : List (Nat × ClassFile.Instr × Nat) := [(166, .getfield 216, 3), (169, .ireturn, 1)]
theorem kdX12_image_166 : dkO cX12_image 166 ldX12_image_166 = true := by decide +kernel
theorem dX12_image_166 : decode cX12_image 166 = .ok (.getfield 216, 3) := dk_i kdX12_image_166 0 rfl
theorem dX12_image_169 : decode cX12_image 169 = .ok (.ireturn, 1) := dk_i kdX12_image_166 1 rfl
def ldX12_octet_0 : List (Nat × ClassFile.Instr × Nat) := [(0, .iload_n 1, 1), (1, .iconst 0, 1), (2, .aload_n 0, 1), (3, .getfield 216, 3), (6, .iconst 1, 1), (7, .isub, 1), (8, .invokestatic 305, 3), (11, .ifCond .eq 12, 3), (14, .aload_n 0, 1), (15, .getfield 213, 3), (18, .iload_n 1, 1), (19, .iaload, 1), (20, .goto 4, 3), (23, .iconst (-1), 1), (24, .ireturn, 1)]
theorem kdX12_octet_0 : dkO cX12_octet 0 ldX12_octet_0 = true := by decide +kernel
theorem dX12_octet_0 : decode cX12_octet 0 = .ok (.iload_n 1, 1) := dk_i kdX12_octet_0 0 rfl
theorem dX12_octet_1 : decode cX12_octet 1 = .ok (.iconst 0, 1) := dk_i kdX12_octet_0 1 rfl
theorem dX12_octet_2 : decode cX12_octet 2 = .ok (.aload_n 0, 1) := dk_i kdX12_octet_0 2 rfl
theorem dX12_octet_3 : decode cX12_octet 3 = .ok (.getfield 216, 3) := dk_i kdX12_octet_0 3 rfl
theorem dX12_octet_6 : decode cX12_octet 6 = .ok (.iconst 1, 1) := dk_i kdX12_octet_0 4 rfl
theorem dX12_octet_7 : decode cX12_octet 7 = .ok (.isub, 1) := dk_i kdX12_octet_0 5 rfl
theorem dX12_octet_8 : decode cX12_octet 8 = .ok (.invokestatic 305, 3) := dk_i kdX12_octet_0 6 rfl
theorem dX12_octet_11 : decode cX12_octet 11 = .ok (.ifCond .eq 12, 3) := dk_i kdX12_octet_0 7 rfl
theorem dX12_octet_14 : decode cX12_octet 14 = .ok (.aload_n 0, 1) := dk_i kdX12_octet_0 8 rfl
theorem dX12_octet_15 : decode cX12_octet 15 = .ok (.getfield 213, 3) := dk_i kdX12_octet_0 9 rfl
theorem dX12_octet_18 : decode cX12_octet 18 = .ok (.iload_n 1, 1) := dk_i kdX12_octet_0 10 rfl
theorem dX12_octet_19 : decode cX12_octet 19 = .ok (.iaload, 1) := dk_i kdX12_octet_0 11 rfl
theorem dX12_octet_20 : decode cX12_octet 20 = .ok (.goto 4, 3) := dk_i kdX12_octet_0 12 rfl
theorem dX12_octet_23 : decode cX12_octet 23 = .ok (.iconst (-1), 1) := dk_i kdX12_octet_0 13 rfl
theorem dX12_octet_24 : decode cX12_octet 24 = .ok (.ireturn, 1) := dk_i kdX12_octet_0 14 rfl
def ldX12_cornerOn_0 : List (Nat × ClassFile.Instr × Nat) := [(0, .aload_n 0, 1), (1, .getfield 7, 3), (4, .iload_n 2, 1), (5, .iaload, 1), (6, .sipush 255, 3), (9, .if_icmp .ne 7, 3), (12, .iconst (-1), 1), (13, .goto 9, 3), (16, .aload_n 0, 1), (17, .getfield 7, 3), (20, .iload_n 2, 1), (21, .iaload, 1), (22, .istore_n 3, 1), (23, .aload_n 0, 1), (24, .getfield 159, 3), (27, .iconst 5, 1)]
theorem kdX12_cornerOn_0 : dkO cX12_cornerOn 0 ldX12_cornerOn_0 = true := by decide +kernel
theorem dX12_cornerOn_0 : decode cX12_cornerOn 0 = .ok (.aload_n 0, 1) := dk_i kdX12_cornerOn_0 0 rfl
theorem dX12_cornerOn_1 : decode cX12_cornerOn 1 = .ok (.getfield 7, 3) := dk_i kdX12_cornerOn_0 1 rfl
theorem dX12_cornerOn_4 : decode cX12_cornerOn 4 = .ok (.iload_n 2, 1) := dk_i kdX12_cornerOn_0 2 rfl
theorem dX12_cornerOn_5 : decode cX12_cornerOn 5 = .ok (.iaload, 1) := dk_i kdX12_cornerOn_0 3 rfl
theorem dX12_cornerOn_6 : decode cX12_cornerOn 6 = .ok (.sipush 255, 3) := dk_i kdX12_cornerOn_0 4 rfl
theorem dX12_cornerOn_9 : decode cX12_cornerOn 9 = .ok (.if_icmp .ne 7, 3) := dk_i kdX12_cornerOn_0 5 rfl
theorem dX12_cornerOn_12 : decode cX12_cornerOn 12 = .ok (.iconst (-1), 1) := dk_i kdX12_cornerOn_0 6 rfl
theorem dX12_cornerOn_13 : decode cX12_cornerOn 13 = .ok (.goto 9, 3) := dk_i kdX12_cornerOn_0 7 rfl
theorem dX12_cornerOn_16 : decode cX12_cornerOn 16 = .ok (.aload_n 0, 1) := dk_i kdX12_cornerOn_0 8 rfl
theorem dX12_cornerOn_17 : decode cX12_cornerOn 17 = .ok (.getfield 7, 3) := dk_i kdX12_cornerOn_0 9 rfl
theorem dX12_cornerOn_20 : decode cX12_cornerOn 20 = .ok (.iload_n 2, 1) := dk_i kdX12_cornerOn_0 10 rfl
theorem dX12_cornerOn_21 : decode cX12_cornerOn 21 = .ok (.iaload, 1) := dk_i kdX12_cornerOn_0 11 rfl
theorem dX12_cornerOn_22 : decode cX12_cornerOn 22 = .ok (.istore_n 3, 1) := dk_i kdX12_cornerOn_0 12 rfl
theorem dX12_cornerOn_23 : decode cX12_cornerOn 23 = .ok (.aload_n 0, 1) := dk_i kdX12_cornerOn_0 13 rfl
theorem dX12_cornerOn_24 : decode cX12_cornerOn 24 = .ok (.getfield 159, 3) := dk_i kdX12_cornerOn_0 14 rfl
theorem dX12_cornerOn_27 : decode cX12_cornerOn 27 = .ok (.iconst 5, 1) := dk_i kdX12_cornerOn_0 15 rfl
def ldX12_cornerOn_28 : List (Nat × ClassFile.Instr × Nat) := [(28, .iload_n 1, 1), (29, .iadd, 1), (30, .iload_n 3, 1), (31, .iastore, 1), (32, .aload_n 0, 1), (33, .getfield 162, 3), (36, .iconst 5, 1), (37, .iload_n 1, 1), (38, .iadd, 1), (39, .aload_n 0, 1), (40, .getfield 7, 3), (43, .iload_n 2, 1), (44, .iconst 1, 1), (45, .iadd, 1), (46, .iaload, 1), (47, .bipush 8, 2)]
theorem kdX12_cornerOn_28 : dkO cX12_cornerOn 28 ldX12_cornerOn_28 = true := by decide +kernel
theorem dX12_cornerOn_28 : decode cX12_cornerOn 28 = .ok (.iload_n 1, 1) := dk_i kdX12_cornerOn_28 0 rfl
theorem dX12_cornerOn_29 : decode cX12_cornerOn 29 = .ok (.iadd, 1) := dk_i kdX12_cornerOn_28 1 rfl
theorem dX12_cornerOn_30 : decode cX12_cornerOn 30 = .ok (.iload_n 3, 1) := dk_i kdX12_cornerOn_28 2 rfl
theorem dX12_cornerOn_31 : decode cX12_cornerOn 31 = .ok (.iastore, 1) := dk_i kdX12_cornerOn_28 3 rfl
theorem dX12_cornerOn_32 : decode cX12_cornerOn 32 = .ok (.aload_n 0, 1) := dk_i kdX12_cornerOn_28 4 rfl
theorem dX12_cornerOn_33 : decode cX12_cornerOn 33 = .ok (.getfield 162, 3) := dk_i kdX12_cornerOn_28 5 rfl
theorem dX12_cornerOn_36 : decode cX12_cornerOn 36 = .ok (.iconst 5, 1) := dk_i kdX12_cornerOn_28 6 rfl
theorem dX12_cornerOn_37 : decode cX12_cornerOn 37 = .ok (.iload_n 1, 1) := dk_i kdX12_cornerOn_28 7 rfl
theorem dX12_cornerOn_38 : decode cX12_cornerOn 38 = .ok (.iadd, 1) := dk_i kdX12_cornerOn_28 8 rfl
theorem dX12_cornerOn_39 : decode cX12_cornerOn 39 = .ok (.aload_n 0, 1) := dk_i kdX12_cornerOn_28 9 rfl
theorem dX12_cornerOn_40 : decode cX12_cornerOn 40 = .ok (.getfield 7, 3) := dk_i kdX12_cornerOn_28 10 rfl
theorem dX12_cornerOn_43 : decode cX12_cornerOn 43 = .ok (.iload_n 2, 1) := dk_i kdX12_cornerOn_28 11 rfl
theorem dX12_cornerOn_44 : decode cX12_cornerOn 44 = .ok (.iconst 1, 1) := dk_i kdX12_cornerOn_28 12 rfl
theorem dX12_cornerOn_45 : decode cX12_cornerOn 45 = .ok (.iadd, 1) := dk_i kdX12_cornerOn_28 13 rfl
theorem dX12_cornerOn_46 : decode cX12_cornerOn 46 = .ok (.iaload, 1) := dk_i kdX12_cornerOn_28 14 rfl
theorem dX12_cornerOn_47 : decode cX12_cornerOn 47 = .ok (.bipush 8, 2) := dk_i kdX12_cornerOn_28 15 rfl
def ldX12_cornerOn_49 : List (Nat × ClassFile.Instr × Nat) := [(49, .ishl, 1), (50, .aload_n 0, 1), (51, .getfield 7, 3), (54, .iload_n 2, 1), (55, .iconst 2, 1), (56, .iadd, 1), (57, .iaload, 1), (58, .ior, 1), (59, .iastore, 1), (60, .iload_n 3, 1), (61, .iconst (-1), 1), (62, .if_icmp .eq 11, 3), (65, .aload_n 0, 1), (66, .iload_n 3, 1), (67, .invokevirtual 469, 3), (70, .ifCond .eq 21, 3)]
theorem kdX12_cornerOn_49 : dkO cX12_cornerOn 49 ldX12_cornerOn_49 = true := by decide +kernel
theorem dX12_cornerOn_49 : decode cX12_cornerOn 49 = .ok (.ishl, 1) := dk_i kdX12_cornerOn_49 0 rfl
theorem dX12_cornerOn_50 : decode cX12_cornerOn 50 = .ok (.aload_n 0, 1) := dk_i kdX12_cornerOn_49 1 rfl
theorem dX12_cornerOn_51 : decode cX12_cornerOn 51 = .ok (.getfield 7, 3) := dk_i kdX12_cornerOn_49 2 rfl
theorem dX12_cornerOn_54 : decode cX12_cornerOn 54 = .ok (.iload_n 2, 1) := dk_i kdX12_cornerOn_49 3 rfl
theorem dX12_cornerOn_55 : decode cX12_cornerOn 55 = .ok (.iconst 2, 1) := dk_i kdX12_cornerOn_49 4 rfl
theorem dX12_cornerOn_56 : decode cX12_cornerOn 56 = .ok (.iadd, 1) := dk_i kdX12_cornerOn_49 5 rfl
theorem dX12_cornerOn_57 : decode cX12_cornerOn 57 = .ok (.iaload, 1) := dk_i kdX12_cornerOn_49 6 rfl
theorem dX12_cornerOn_58 : decode cX12_cornerOn 58 = .ok (.ior, 1) := dk_i kdX12_cornerOn_49 7 rfl
theorem dX12_cornerOn_59 : decode cX12_cornerOn 59 = .ok (.iastore, 1) := dk_i kdX12_cornerOn_49 8 rfl
theorem dX12_cornerOn_60 : decode cX12_cornerOn 60 = .ok (.iload_n 3, 1) := dk_i kdX12_cornerOn_49 9 rfl
theorem dX12_cornerOn_61 : decode cX12_cornerOn 61 = .ok (.iconst (-1), 1) := dk_i kdX12_cornerOn_49 10 rfl
theorem dX12_cornerOn_62 : decode cX12_cornerOn 62 = .ok (.if_icmp .eq 11, 3) := dk_i kdX12_cornerOn_49 11 rfl
theorem dX12_cornerOn_65 : decode cX12_cornerOn 65 = .ok (.aload_n 0, 1) := dk_i kdX12_cornerOn_49 12 rfl
theorem dX12_cornerOn_66 : decode cX12_cornerOn 66 = .ok (.iload_n 3, 1) := dk_i kdX12_cornerOn_49 13 rfl
theorem dX12_cornerOn_67 : decode cX12_cornerOn 67 = .ok (.invokevirtual 469, 3) := dk_i kdX12_cornerOn_49 14 rfl
theorem dX12_cornerOn_70 : decode cX12_cornerOn 70 = .ok (.ifCond .eq 21, 3) := dk_i kdX12_cornerOn_49 15 rfl
def ldX12_cornerOn_73 : List (Nat × ClassFile.Instr × Nat) := [(73, .aload_n 0, 1), (74, .getfield 162, 3), (77, .iconst 5, 1), (78, .iload_n 1, 1), (79, .iadd, 1), (80, .iaload, 1), (81, .sipush 999, 3), (84, .if_icmp .gt 7, 3), (87, .iconst 1, 1), (88, .goto 4, 3), (91, .iconst 0, 1), (92, .ireturn, 1)]
theorem kdX12_cornerOn_73 : dkO cX12_cornerOn 73 ldX12_cornerOn_73 = true := by decide +kernel
theorem dX12_cornerOn_73 : decode cX12_cornerOn 73 = .ok (.aload_n 0, 1) := dk_i kdX12_cornerOn_73 0 rfl
theorem dX12_cornerOn_74 : decode cX12_cornerOn 74 = .ok (.getfield 162, 3) := dk_i kdX12_cornerOn_73 1 rfl
theorem dX12_cornerOn_77 : decode cX12_cornerOn 77 = .ok (.iconst 5, 1) := dk_i kdX12_cornerOn_73 2 rfl
theorem dX12_cornerOn_78 : decode cX12_cornerOn 78 = .ok (.iload_n 1, 1) := dk_i kdX12_cornerOn_73 3 rfl
theorem dX12_cornerOn_79 : decode cX12_cornerOn 79 = .ok (.iadd, 1) := dk_i kdX12_cornerOn_73 4 rfl
theorem dX12_cornerOn_80 : decode cX12_cornerOn 80 = .ok (.iaload, 1) := dk_i kdX12_cornerOn_73 5 rfl
theorem dX12_cornerOn_81 : decode cX12_cornerOn 81 = .ok (.sipush 999, 3) := dk_i kdX12_cornerOn_73 6 rfl
theorem dX12_cornerOn_84 : decode cX12_cornerOn 84 = .ok (.if_icmp .gt 7, 3) := dk_i kdX12_cornerOn_73 7 rfl
theorem dX12_cornerOn_87 : decode cX12_cornerOn 87 = .ok (.iconst 1, 1) := dk_i kdX12_cornerOn_73 8 rfl
theorem dX12_cornerOn_88 : decode cX12_cornerOn 88 = .ok (.goto 4, 3) := dk_i kdX12_cornerOn_73 9 rfl
theorem dX12_cornerOn_91 : decode cX12_cornerOn 91 = .ok (.iconst 0, 1) := dk_i kdX12_cornerOn_73 10 rfl
theorem dX12_cornerOn_92 : decode cX12_cornerOn 92 = .ok (.ireturn, 1) := dk_i kdX12_cornerOn_73 11 rfl
def ldX12_comesOn_0 : List (Nat × ClassFile.Instr × Nat) := [(0, .iconst 2, 1), (1, .iconst 3, 1), (2, .aload_n 0, 1), (3, .getfield 63, 3), (6, .aload_n 0, 1), (7, .getfield 51, 3), (10, .iaload, 1), (11, .imul, 1), (12, .iadd, 1), (13, .istore_n 2, 1), (14, .iload_n 1, 1), (15, .iload_n 2, 1), (16, .aload_n 0, 1), (17, .getfield 78, 3), (20, .aload_n 0, 1), (21, .getfield 51, 3)]
theorem kdX12_comesOn_0 : dkO cX12_comesOn 0 ldX12_comesOn_0 = true := by decide +kernel
theorem dX12_comesOn_0 : decode cX12_comesOn 0 = .ok (.iconst 2, 1) := dk_i kdX12_comesOn_0 0 rfl
theorem dX12_comesOn_1 : decode cX12_comesOn 1 = .ok (.iconst 3, 1) := dk_i kdX12_comesOn_0 1 rfl
theorem dX12_comesOn_2 : decode cX12_comesOn 2 = .ok (.aload_n 0, 1) := dk_i kdX12_comesOn_0 2 rfl
theorem dX12_comesOn_3 : decode cX12_comesOn 3 = .ok (.getfield 63, 3) := dk_i kdX12_comesOn_0 3 rfl
theorem dX12_comesOn_6 : decode cX12_comesOn 6 = .ok (.aload_n 0, 1) := dk_i kdX12_comesOn_0 4 rfl
theorem dX12_comesOn_7 : decode cX12_comesOn 7 = .ok (.getfield 51, 3) := dk_i kdX12_comesOn_0 5 rfl
theorem dX12_comesOn_10 : decode cX12_comesOn 10 = .ok (.iaload, 1) := dk_i kdX12_comesOn_0 6 rfl
theorem dX12_comesOn_11 : decode cX12_comesOn 11 = .ok (.imul, 1) := dk_i kdX12_comesOn_0 7 rfl
theorem dX12_comesOn_12 : decode cX12_comesOn 12 = .ok (.iadd, 1) := dk_i kdX12_comesOn_0 8 rfl
theorem dX12_comesOn_13 : decode cX12_comesOn 13 = .ok (.istore_n 2, 1) := dk_i kdX12_comesOn_0 9 rfl
theorem dX12_comesOn_14 : decode cX12_comesOn 14 = .ok (.iload_n 1, 1) := dk_i kdX12_comesOn_0 10 rfl
theorem dX12_comesOn_15 : decode cX12_comesOn 15 = .ok (.iload_n 2, 1) := dk_i kdX12_comesOn_0 11 rfl
theorem dX12_comesOn_16 : decode cX12_comesOn 16 = .ok (.aload_n 0, 1) := dk_i kdX12_comesOn_0 12 rfl
theorem dX12_comesOn_17 : decode cX12_comesOn 17 = .ok (.getfield 78, 3) := dk_i kdX12_comesOn_0 13 rfl
theorem dX12_comesOn_20 : decode cX12_comesOn 20 = .ok (.aload_n 0, 1) := dk_i kdX12_comesOn_0 14 rfl
theorem dX12_comesOn_21 : decode cX12_comesOn 21 = .ok (.getfield 51, 3) := dk_i kdX12_comesOn_0 15 rfl
def ldX12_comesOn_24 : List (Nat × ClassFile.Instr × Nat) := [(24, .iaload, 1), (25, .iadd, 1), (26, .iconst 1, 1), (27, .iadd, 1), (28, .if_icmp .ne 25, 3), (31, .aload_n 0, 1), (32, .getfield 7, 3), (35, .iconst 0, 1), (36, .iaload, 1), (37, .bipush 8, 2), (39, .ishl, 1), (40, .aload_n 0, 1), (41, .getfield 7, 3), (44, .iconst 1, 1), (45, .iaload, 1), (46, .ior, 1)]
theorem kdX12_comesOn_24 : dkO cX12_comesOn 24 ldX12_comesOn_24 = true := by decide +kernel
theorem dX12_comesOn_24 : decode cX12_comesOn 24 = .ok (.iaload, 1) := dk_i kdX12_comesOn_24 0 rfl
theorem dX12_comesOn_25 : decode cX12_comesOn 25 = .ok (.iadd, 1) := dk_i kdX12_comesOn_24 1 rfl
theorem dX12_comesOn_26 : decode cX12_comesOn 26 = .ok (.iconst 1, 1) := dk_i kdX12_comesOn_24 2 rfl
theorem dX12_comesOn_27 : decode cX12_comesOn 27 = .ok (.iadd, 1) := dk_i kdX12_comesOn_24 3 rfl
theorem dX12_comesOn_28 : decode cX12_comesOn 28 = .ok (.if_icmp .ne 25, 3) := dk_i kdX12_comesOn_24 4 rfl
theorem dX12_comesOn_31 : decode cX12_comesOn 31 = .ok (.aload_n 0, 1) := dk_i kdX12_comesOn_24 5 rfl
theorem dX12_comesOn_32 : decode cX12_comesOn 32 = .ok (.getfield 7, 3) := dk_i kdX12_comesOn_24 6 rfl
theorem dX12_comesOn_35 : decode cX12_comesOn 35 = .ok (.iconst 0, 1) := dk_i kdX12_comesOn_24 7 rfl
theorem dX12_comesOn_36 : decode cX12_comesOn 36 = .ok (.iaload, 1) := dk_i kdX12_comesOn_24 8 rfl
theorem dX12_comesOn_37 : decode cX12_comesOn 37 = .ok (.bipush 8, 2) := dk_i kdX12_comesOn_24 9 rfl
theorem dX12_comesOn_39 : decode cX12_comesOn 39 = .ok (.ishl, 1) := dk_i kdX12_comesOn_24 10 rfl
theorem dX12_comesOn_40 : decode cX12_comesOn 40 = .ok (.aload_n 0, 1) := dk_i kdX12_comesOn_24 11 rfl
theorem dX12_comesOn_41 : decode cX12_comesOn 41 = .ok (.getfield 7, 3) := dk_i kdX12_comesOn_24 12 rfl
theorem dX12_comesOn_44 : decode cX12_comesOn 44 = .ok (.iconst 1, 1) := dk_i kdX12_comesOn_24 13 rfl
theorem dX12_comesOn_45 : decode cX12_comesOn 45 = .ok (.iaload, 1) := dk_i kdX12_comesOn_24 14 rfl
theorem dX12_comesOn_46 : decode cX12_comesOn 46 = .ok (.ior, 1) := dk_i kdX12_comesOn_24 15 rfl
def ldX12_comesOn_47 : List (Nat × ClassFile.Instr × Nat) := [(47, .sipush 9999, 3), (50, .if_icmp .le 5, 3), (53, .iconst 0, 1), (54, .ireturn, 1), (55, .sipush 227, 3), (58, .istore_n 3, 1), (59, .iconst 0, 1), (60, .istore 4, 2), (62, .iload 4, 2), (64, .iload_n 1, 1), (65, .iconst 1, 1), (66, .isub, 1), (67, .if_icmp .ge 25, 3), (70, .iconst 5, 1), (71, .iload_n 3, 1), (72, .imul, 1)]
theorem kdX12_comesOn_47 : dkO cX12_comesOn 47 ldX12_comesOn_47 = true := by decide +kernel
theorem dX12_comesOn_47 : decode cX12_comesOn 47 = .ok (.sipush 9999, 3) := dk_i kdX12_comesOn_47 0 rfl
theorem dX12_comesOn_50 : decode cX12_comesOn 50 = .ok (.if_icmp .le 5, 3) := dk_i kdX12_comesOn_47 1 rfl
theorem dX12_comesOn_53 : decode cX12_comesOn 53 = .ok (.iconst 0, 1) := dk_i kdX12_comesOn_47 2 rfl
theorem dX12_comesOn_54 : decode cX12_comesOn 54 = .ok (.ireturn, 1) := dk_i kdX12_comesOn_47 3 rfl
theorem dX12_comesOn_55 : decode cX12_comesOn 55 = .ok (.sipush 227, 3) := dk_i kdX12_comesOn_47 4 rfl
theorem dX12_comesOn_58 : decode cX12_comesOn 58 = .ok (.istore_n 3, 1) := dk_i kdX12_comesOn_47 5 rfl
theorem dX12_comesOn_59 : decode cX12_comesOn 59 = .ok (.iconst 0, 1) := dk_i kdX12_comesOn_47 6 rfl
theorem dX12_comesOn_60 : decode cX12_comesOn 60 = .ok (.istore 4, 2) := dk_i kdX12_comesOn_47 7 rfl
theorem dX12_comesOn_62 : decode cX12_comesOn 62 = .ok (.iload 4, 2) := dk_i kdX12_comesOn_47 8 rfl
theorem dX12_comesOn_64 : decode cX12_comesOn 64 = .ok (.iload_n 1, 1) := dk_i kdX12_comesOn_47 9 rfl
theorem dX12_comesOn_65 : decode cX12_comesOn 65 = .ok (.iconst 1, 1) := dk_i kdX12_comesOn_47 10 rfl
theorem dX12_comesOn_66 : decode cX12_comesOn 66 = .ok (.isub, 1) := dk_i kdX12_comesOn_47 11 rfl
theorem dX12_comesOn_67 : decode cX12_comesOn 67 = .ok (.if_icmp .ge 25, 3) := dk_i kdX12_comesOn_47 12 rfl
theorem dX12_comesOn_70 : decode cX12_comesOn 70 = .ok (.iconst 5, 1) := dk_i kdX12_comesOn_47 13 rfl
theorem dX12_comesOn_71 : decode cX12_comesOn 71 = .ok (.iload_n 3, 1) := dk_i kdX12_comesOn_47 14 rfl
theorem dX12_comesOn_72 : decode cX12_comesOn 72 = .ok (.imul, 1) := dk_i kdX12_comesOn_47 15 rfl
def ldX12_comesOn_73 : List (Nat × ClassFile.Instr × Nat) := [(73, .aload_n 0, 1), (74, .getfield 7, 3), (77, .iload 4, 2), (79, .iaload, 1), (80, .iadd, 1), (81, .sipush 251, 3), (84, .irem, 1), (85, .istore_n 3, 1), (86, .iinc 4 1, 3), (89, .goto (-27), 3), (92, .aload_n 0, 1), (93, .getfield 7, 3), (96, .iload_n 1, 1), (97, .iconst 1, 1), (98, .isub, 1), (99, .iaload, 1)]
theorem kdX12_comesOn_73 : dkO cX12_comesOn 73 ldX12_comesOn_73 = true := by decide +kernel
theorem dX12_comesOn_73 : decode cX12_comesOn 73 = .ok (.aload_n 0, 1) := dk_i kdX12_comesOn_73 0 rfl
theorem dX12_comesOn_74 : decode cX12_comesOn 74 = .ok (.getfield 7, 3) := dk_i kdX12_comesOn_73 1 rfl
theorem dX12_comesOn_77 : decode cX12_comesOn 77 = .ok (.iload 4, 2) := dk_i kdX12_comesOn_73 2 rfl
theorem dX12_comesOn_79 : decode cX12_comesOn 79 = .ok (.iaload, 1) := dk_i kdX12_comesOn_73 3 rfl
theorem dX12_comesOn_80 : decode cX12_comesOn 80 = .ok (.iadd, 1) := dk_i kdX12_comesOn_73 4 rfl
theorem dX12_comesOn_81 : decode cX12_comesOn 81 = .ok (.sipush 251, 3) := dk_i kdX12_comesOn_73 5 rfl
theorem dX12_comesOn_84 : decode cX12_comesOn 84 = .ok (.irem, 1) := dk_i kdX12_comesOn_73 6 rfl
theorem dX12_comesOn_85 : decode cX12_comesOn 85 = .ok (.istore_n 3, 1) := dk_i kdX12_comesOn_73 7 rfl
theorem dX12_comesOn_86 : decode cX12_comesOn 86 = .ok (.iinc 4 1, 3) := dk_i kdX12_comesOn_73 8 rfl
theorem dX12_comesOn_89 : decode cX12_comesOn 89 = .ok (.goto (-27), 3) := dk_i kdX12_comesOn_73 9 rfl
theorem dX12_comesOn_92 : decode cX12_comesOn 92 = .ok (.aload_n 0, 1) := dk_i kdX12_comesOn_73 10 rfl
theorem dX12_comesOn_93 : decode cX12_comesOn 93 = .ok (.getfield 7, 3) := dk_i kdX12_comesOn_73 11 rfl
theorem dX12_comesOn_96 : decode cX12_comesOn 96 = .ok (.iload_n 1, 1) := dk_i kdX12_comesOn_73 12 rfl
theorem dX12_comesOn_97 : decode cX12_comesOn 97 = .ok (.iconst 1, 1) := dk_i kdX12_comesOn_73 13 rfl
theorem dX12_comesOn_98 : decode cX12_comesOn 98 = .ok (.isub, 1) := dk_i kdX12_comesOn_73 14 rfl
theorem dX12_comesOn_99 : decode cX12_comesOn 99 = .ok (.iaload, 1) := dk_i kdX12_comesOn_73 15 rfl
def ldX12_comesOn_100 : List (Nat × ClassFile.Instr × Nat) := [(100, .iload_n 3, 1), (101, .if_icmp .eq 5, 3), (104, .iconst 0, 1), (105, .ireturn, 1), (106, .aload_n 0, 1), (107, .iconst 1, 1), (108, .iconst 0, 1), (109, .invokevirtual 418, 3), (112, .aload_n 0, 1), (113, .getfield 156, 3), (116, .iconst 1, 1), (117, .aload_n 0, 1), (118, .getfield 7, 3), (121, .iconst 0, 1), (122, .iaload, 1), (123, .bipush 8, 2)]
theorem kdX12_comesOn_100 : dkO cX12_comesOn 100 ldX12_comesOn_100 = true := by decide +kernel
theorem dX12_comesOn_100 : decode cX12_comesOn 100 = .ok (.iload_n 3, 1) := dk_i kdX12_comesOn_100 0 rfl
theorem dX12_comesOn_101 : decode cX12_comesOn 101 = .ok (.if_icmp .eq 5, 3) := dk_i kdX12_comesOn_100 1 rfl
theorem dX12_comesOn_104 : decode cX12_comesOn 104 = .ok (.iconst 0, 1) := dk_i kdX12_comesOn_100 2 rfl
theorem dX12_comesOn_105 : decode cX12_comesOn 105 = .ok (.ireturn, 1) := dk_i kdX12_comesOn_100 3 rfl
theorem dX12_comesOn_106 : decode cX12_comesOn 106 = .ok (.aload_n 0, 1) := dk_i kdX12_comesOn_100 4 rfl
theorem dX12_comesOn_107 : decode cX12_comesOn 107 = .ok (.iconst 1, 1) := dk_i kdX12_comesOn_100 5 rfl
theorem dX12_comesOn_108 : decode cX12_comesOn 108 = .ok (.iconst 0, 1) := dk_i kdX12_comesOn_100 6 rfl
theorem dX12_comesOn_109 : decode cX12_comesOn 109 = .ok (.invokevirtual 418, 3) := dk_i kdX12_comesOn_100 7 rfl
theorem dX12_comesOn_112 : decode cX12_comesOn 112 = .ok (.aload_n 0, 1) := dk_i kdX12_comesOn_100 8 rfl
theorem dX12_comesOn_113 : decode cX12_comesOn 113 = .ok (.getfield 156, 3) := dk_i kdX12_comesOn_100 9 rfl
theorem dX12_comesOn_116 : decode cX12_comesOn 116 = .ok (.iconst 1, 1) := dk_i kdX12_comesOn_100 10 rfl
theorem dX12_comesOn_117 : decode cX12_comesOn 117 = .ok (.aload_n 0, 1) := dk_i kdX12_comesOn_100 11 rfl
theorem dX12_comesOn_118 : decode cX12_comesOn 118 = .ok (.getfield 7, 3) := dk_i kdX12_comesOn_100 12 rfl
theorem dX12_comesOn_121 : decode cX12_comesOn 121 = .ok (.iconst 0, 1) := dk_i kdX12_comesOn_100 13 rfl
theorem dX12_comesOn_122 : decode cX12_comesOn 122 = .ok (.iaload, 1) := dk_i kdX12_comesOn_100 14 rfl
theorem dX12_comesOn_123 : decode cX12_comesOn 123 = .ok (.bipush 8, 2) := dk_i kdX12_comesOn_100 15 rfl
def ldX12_comesOn_125 : List (Nat × ClassFile.Instr × Nat) := [(125, .ishl, 1), (126, .aload_n 0, 1), (127, .getfield 7, 3), (130, .iconst 1, 1), (131, .iaload, 1), (132, .ior, 1), (133, .iastore, 1), (134, .aload_n 0, 1), (135, .getfield 165, 3), (138, .iconst 1, 1), (139, .iconst 0, 1), (140, .iastore, 1), (141, .aload_n 0, 1), (142, .getfield 168, 3), (145, .iconst 1, 1), (146, .iconst 0, 1)]
theorem kdX12_comesOn_125 : dkO cX12_comesOn 125 ldX12_comesOn_125 = true := by decide +kernel
theorem dX12_comesOn_125 : decode cX12_comesOn 125 = .ok (.ishl, 1) := dk_i kdX12_comesOn_125 0 rfl
theorem dX12_comesOn_126 : decode cX12_comesOn 126 = .ok (.aload_n 0, 1) := dk_i kdX12_comesOn_125 1 rfl
theorem dX12_comesOn_127 : decode cX12_comesOn 127 = .ok (.getfield 7, 3) := dk_i kdX12_comesOn_125 2 rfl
theorem dX12_comesOn_130 : decode cX12_comesOn 130 = .ok (.iconst 1, 1) := dk_i kdX12_comesOn_125 3 rfl
theorem dX12_comesOn_131 : decode cX12_comesOn 131 = .ok (.iaload, 1) := dk_i kdX12_comesOn_125 4 rfl
theorem dX12_comesOn_132 : decode cX12_comesOn 132 = .ok (.ior, 1) := dk_i kdX12_comesOn_125 5 rfl
theorem dX12_comesOn_133 : decode cX12_comesOn 133 = .ok (.iastore, 1) := dk_i kdX12_comesOn_125 6 rfl
theorem dX12_comesOn_134 : decode cX12_comesOn 134 = .ok (.aload_n 0, 1) := dk_i kdX12_comesOn_125 7 rfl
theorem dX12_comesOn_135 : decode cX12_comesOn 135 = .ok (.getfield 165, 3) := dk_i kdX12_comesOn_125 8 rfl
theorem dX12_comesOn_138 : decode cX12_comesOn 138 = .ok (.iconst 1, 1) := dk_i kdX12_comesOn_125 9 rfl
theorem dX12_comesOn_139 : decode cX12_comesOn 139 = .ok (.iconst 0, 1) := dk_i kdX12_comesOn_125 10 rfl
theorem dX12_comesOn_140 : decode cX12_comesOn 140 = .ok (.iastore, 1) := dk_i kdX12_comesOn_125 11 rfl
theorem dX12_comesOn_141 : decode cX12_comesOn 141 = .ok (.aload_n 0, 1) := dk_i kdX12_comesOn_125 12 rfl
theorem dX12_comesOn_142 : decode cX12_comesOn 142 = .ok (.getfield 168, 3) := dk_i kdX12_comesOn_125 13 rfl
theorem dX12_comesOn_145 : decode cX12_comesOn 145 = .ok (.iconst 1, 1) := dk_i kdX12_comesOn_125 14 rfl
theorem dX12_comesOn_146 : decode cX12_comesOn 146 = .ok (.iconst 0, 1) := dk_i kdX12_comesOn_125 15 rfl
def ldX12_comesOn_147 : List (Nat × ClassFile.Instr × Nat) := [(147, .iastore, 1), (148, .iconst 0, 1), (149, .istore 4, 2), (151, .iload 4, 2), (153, .aload_n 0, 1), (154, .getfield 63, 3), (157, .aload_n 0, 1), (158, .getfield 51, 3), (161, .iaload, 1), (162, .if_icmp .ge 26, 3), (165, .aload_n 0, 1), (166, .iload 4, 2), (168, .iconst 2, 1), (169, .iconst 3, 1), (170, .iload 4, 2), (172, .imul, 1)]
theorem kdX12_comesOn_147 : dkO cX12_comesOn 147 ldX12_comesOn_147 = true := by decide +kernel
theorem dX12_comesOn_147 : decode cX12_comesOn 147 = .ok (.iastore, 1) := dk_i kdX12_comesOn_147 0 rfl
theorem dX12_comesOn_148 : decode cX12_comesOn 148 = .ok (.iconst 0, 1) := dk_i kdX12_comesOn_147 1 rfl
theorem dX12_comesOn_149 : decode cX12_comesOn 149 = .ok (.istore 4, 2) := dk_i kdX12_comesOn_147 2 rfl
theorem dX12_comesOn_151 : decode cX12_comesOn 151 = .ok (.iload 4, 2) := dk_i kdX12_comesOn_147 3 rfl
theorem dX12_comesOn_153 : decode cX12_comesOn 153 = .ok (.aload_n 0, 1) := dk_i kdX12_comesOn_147 4 rfl
theorem dX12_comesOn_154 : decode cX12_comesOn 154 = .ok (.getfield 63, 3) := dk_i kdX12_comesOn_147 5 rfl
theorem dX12_comesOn_157 : decode cX12_comesOn 157 = .ok (.aload_n 0, 1) := dk_i kdX12_comesOn_147 6 rfl
theorem dX12_comesOn_158 : decode cX12_comesOn 158 = .ok (.getfield 51, 3) := dk_i kdX12_comesOn_147 7 rfl
theorem dX12_comesOn_161 : decode cX12_comesOn 161 = .ok (.iaload, 1) := dk_i kdX12_comesOn_147 8 rfl
theorem dX12_comesOn_162 : decode cX12_comesOn 162 = .ok (.if_icmp .ge 26, 3) := dk_i kdX12_comesOn_147 9 rfl
theorem dX12_comesOn_165 : decode cX12_comesOn 165 = .ok (.aload_n 0, 1) := dk_i kdX12_comesOn_147 10 rfl
theorem dX12_comesOn_166 : decode cX12_comesOn 166 = .ok (.iload 4, 2) := dk_i kdX12_comesOn_147 11 rfl
theorem dX12_comesOn_168 : decode cX12_comesOn 168 = .ok (.iconst 2, 1) := dk_i kdX12_comesOn_147 12 rfl
theorem dX12_comesOn_169 : decode cX12_comesOn 169 = .ok (.iconst 3, 1) := dk_i kdX12_comesOn_147 13 rfl
theorem dX12_comesOn_170 : decode cX12_comesOn 170 = .ok (.iload 4, 2) := dk_i kdX12_comesOn_147 14 rfl
theorem dX12_comesOn_172 : decode cX12_comesOn 172 = .ok (.imul, 1) := dk_i kdX12_comesOn_147 15 rfl
def ldX12_comesOn_173 : List (Nat × ClassFile.Instr × Nat) := [(173, .iadd, 1), (174, .invokevirtual 515, 3), (177, .ifCond .ne 5, 3), (180, .iconst 0, 1), (181, .ireturn, 1), (182, .iinc 4 1, 3), (185, .goto (-34), 3), (188, .iconst 0, 1), (189, .istore 4, 2), (191, .iload 4, 2), (193, .aload_n 0, 1), (194, .getfield 78, 3), (197, .aload_n 0, 1), (198, .getfield 51, 3), (201, .iaload, 1), (202, .if_icmp .ge 45, 3)]
theorem kdX12_comesOn_173 : dkO cX12_comesOn 173 ldX12_comesOn_173 = true := by decide +kernel
theorem dX12_comesOn_173 : decode cX12_comesOn 173 = .ok (.iadd, 1) := dk_i kdX12_comesOn_173 0 rfl
theorem dX12_comesOn_174 : decode cX12_comesOn 174 = .ok (.invokevirtual 515, 3) := dk_i kdX12_comesOn_173 1 rfl
theorem dX12_comesOn_177 : decode cX12_comesOn 177 = .ok (.ifCond .ne 5, 3) := dk_i kdX12_comesOn_173 2 rfl
theorem dX12_comesOn_180 : decode cX12_comesOn 180 = .ok (.iconst 0, 1) := dk_i kdX12_comesOn_173 3 rfl
theorem dX12_comesOn_181 : decode cX12_comesOn 181 = .ok (.ireturn, 1) := dk_i kdX12_comesOn_173 4 rfl
theorem dX12_comesOn_182 : decode cX12_comesOn 182 = .ok (.iinc 4 1, 3) := dk_i kdX12_comesOn_173 5 rfl
theorem dX12_comesOn_185 : decode cX12_comesOn 185 = .ok (.goto (-34), 3) := dk_i kdX12_comesOn_173 6 rfl
theorem dX12_comesOn_188 : decode cX12_comesOn 188 = .ok (.iconst 0, 1) := dk_i kdX12_comesOn_173 7 rfl
theorem dX12_comesOn_189 : decode cX12_comesOn 189 = .ok (.istore 4, 2) := dk_i kdX12_comesOn_173 8 rfl
theorem dX12_comesOn_191 : decode cX12_comesOn 191 = .ok (.iload 4, 2) := dk_i kdX12_comesOn_173 9 rfl
theorem dX12_comesOn_193 : decode cX12_comesOn 193 = .ok (.aload_n 0, 1) := dk_i kdX12_comesOn_173 10 rfl
theorem dX12_comesOn_194 : decode cX12_comesOn 194 = .ok (.getfield 78, 3) := dk_i kdX12_comesOn_173 11 rfl
theorem dX12_comesOn_197 : decode cX12_comesOn 197 = .ok (.aload_n 0, 1) := dk_i kdX12_comesOn_173 12 rfl
theorem dX12_comesOn_198 : decode cX12_comesOn 198 = .ok (.getfield 51, 3) := dk_i kdX12_comesOn_173 13 rfl
theorem dX12_comesOn_201 : decode cX12_comesOn 201 = .ok (.iaload, 1) := dk_i kdX12_comesOn_173 14 rfl
theorem dX12_comesOn_202 : decode cX12_comesOn 202 = .ok (.if_icmp .ge 45, 3) := dk_i kdX12_comesOn_173 15 rfl
def ldX12_comesOn_205 : List (Nat × ClassFile.Instr × Nat) := [(205, .aload_n 0, 1), (206, .getfield 7, 3), (209, .iload_n 2, 1), (210, .iload 4, 2), (212, .iadd, 1), (213, .iaload, 1), (214, .iconst 1, 1), (215, .if_icmp .le 5, 3), (218, .iconst 0, 1), (219, .ireturn, 1), (220, .aload_n 0, 1), (221, .getfield 165, 3), (224, .iconst 1, 1), (225, .dup2, 1), (226, .iaload, 1), (227, .aload_n 0, 1)]
theorem kdX12_comesOn_205 : dkO cX12_comesOn 205 ldX12_comesOn_205 = true := by decide +kernel
theorem dX12_comesOn_205 : decode cX12_comesOn 205 = .ok (.aload_n 0, 1) := dk_i kdX12_comesOn_205 0 rfl
theorem dX12_comesOn_206 : decode cX12_comesOn 206 = .ok (.getfield 7, 3) := dk_i kdX12_comesOn_205 1 rfl
theorem dX12_comesOn_209 : decode cX12_comesOn 209 = .ok (.iload_n 2, 1) := dk_i kdX12_comesOn_205 2 rfl
theorem dX12_comesOn_210 : decode cX12_comesOn 210 = .ok (.iload 4, 2) := dk_i kdX12_comesOn_205 3 rfl
theorem dX12_comesOn_212 : decode cX12_comesOn 212 = .ok (.iadd, 1) := dk_i kdX12_comesOn_205 4 rfl
theorem dX12_comesOn_213 : decode cX12_comesOn 213 = .ok (.iaload, 1) := dk_i kdX12_comesOn_205 5 rfl
theorem dX12_comesOn_214 : decode cX12_comesOn 214 = .ok (.iconst 1, 1) := dk_i kdX12_comesOn_205 6 rfl
theorem dX12_comesOn_215 : decode cX12_comesOn 215 = .ok (.if_icmp .le 5, 3) := dk_i kdX12_comesOn_205 7 rfl
theorem dX12_comesOn_218 : decode cX12_comesOn 218 = .ok (.iconst 0, 1) := dk_i kdX12_comesOn_205 8 rfl
theorem dX12_comesOn_219 : decode cX12_comesOn 219 = .ok (.ireturn, 1) := dk_i kdX12_comesOn_205 9 rfl
theorem dX12_comesOn_220 : decode cX12_comesOn 220 = .ok (.aload_n 0, 1) := dk_i kdX12_comesOn_205 10 rfl
theorem dX12_comesOn_221 : decode cX12_comesOn 221 = .ok (.getfield 165, 3) := dk_i kdX12_comesOn_205 11 rfl
theorem dX12_comesOn_224 : decode cX12_comesOn 224 = .ok (.iconst 1, 1) := dk_i kdX12_comesOn_205 12 rfl
theorem dX12_comesOn_225 : decode cX12_comesOn 225 = .ok (.dup2, 1) := dk_i kdX12_comesOn_205 13 rfl
theorem dX12_comesOn_226 : decode cX12_comesOn 226 = .ok (.iaload, 1) := dk_i kdX12_comesOn_205 14 rfl
theorem dX12_comesOn_227 : decode cX12_comesOn 227 = .ok (.aload_n 0, 1) := dk_i kdX12_comesOn_205 15 rfl
def ldX12_comesOn_228 : List (Nat × ClassFile.Instr × Nat) := [(228, .getfield 7, 3), (231, .iload_n 2, 1), (232, .iload 4, 2), (234, .iadd, 1), (235, .iaload, 1), (236, .iload 4, 2), (238, .ishl, 1), (239, .ior, 1), (240, .iastore, 1), (241, .iinc 4 1, 3), (244, .goto (-53), 3), (247, .iconst 1, 1), (248, .ireturn, 1)]
theorem kdX12_comesOn_228 : dkO cX12_comesOn 228 ldX12_comesOn_228 = true := by decide +kernel
theorem dX12_comesOn_228 : decode cX12_comesOn 228 = .ok (.getfield 7, 3) := dk_i kdX12_comesOn_228 0 rfl
theorem dX12_comesOn_231 : decode cX12_comesOn 231 = .ok (.iload_n 2, 1) := dk_i kdX12_comesOn_228 1 rfl
theorem dX12_comesOn_232 : decode cX12_comesOn 232 = .ok (.iload 4, 2) := dk_i kdX12_comesOn_228 2 rfl
theorem dX12_comesOn_234 : decode cX12_comesOn 234 = .ok (.iadd, 1) := dk_i kdX12_comesOn_228 3 rfl
theorem dX12_comesOn_235 : decode cX12_comesOn 235 = .ok (.iaload, 1) := dk_i kdX12_comesOn_228 4 rfl
theorem dX12_comesOn_236 : decode cX12_comesOn 236 = .ok (.iload 4, 2) := dk_i kdX12_comesOn_228 5 rfl
theorem dX12_comesOn_238 : decode cX12_comesOn 238 = .ok (.ishl, 1) := dk_i kdX12_comesOn_228 6 rfl
theorem dX12_comesOn_239 : decode cX12_comesOn 239 = .ok (.ior, 1) := dk_i kdX12_comesOn_228 7 rfl
theorem dX12_comesOn_240 : decode cX12_comesOn 240 = .ok (.iastore, 1) := dk_i kdX12_comesOn_228 8 rfl
theorem dX12_comesOn_241 : decode cX12_comesOn 241 = .ok (.iinc 4 1, 3) := dk_i kdX12_comesOn_228 9 rfl
theorem dX12_comesOn_244 : decode cX12_comesOn 244 = .ok (.goto (-53), 3) := dk_i kdX12_comesOn_228 10 rfl
theorem dX12_comesOn_247 : decode cX12_comesOn 247 = .ok (.iconst 1, 1) := dk_i kdX12_comesOn_228 11 rfl
theorem dX12_comesOn_248 : decode cX12_comesOn 248 = .ok (.ireturn, 1) := dk_i kdX12_comesOn_228 12 rfl
def ldX12_on_0 : List (Nat × ClassFile.Instr × Nat) := [(0, .aload_n 0, 1), (1, .getfield 13, 3), (4, .istore_n 1, 1), (5, .aload_n 0, 1), (6, .iconst 0, 1), (7, .putfield 13, 3), (10, .aload_n 0, 1), (11, .iload_n 1, 1), (12, .invokevirtual 518, 3), (15, .ifCond .ne 17, 3), (18, .aload_n 0, 1), (19, .iconst 5, 1), (20, .invokevirtual 219, 3), (23, .ifCond .lt 7, 3), (26, .iconst 1, 1), (27, .goto 4, 3)]
theorem kdX12_on_0 : dkO cX12_on 0 ldX12_on_0 = true := by decide +kernel
theorem dX12_on_0 : decode cX12_on 0 = .ok (.aload_n 0, 1) := dk_i kdX12_on_0 0 rfl
theorem dX12_on_1 : decode cX12_on 1 = .ok (.getfield 13, 3) := dk_i kdX12_on_0 1 rfl
theorem dX12_on_4 : decode cX12_on 4 = .ok (.istore_n 1, 1) := dk_i kdX12_on_0 2 rfl
theorem dX12_on_5 : decode cX12_on 5 = .ok (.aload_n 0, 1) := dk_i kdX12_on_0 3 rfl
theorem dX12_on_6 : decode cX12_on 6 = .ok (.iconst 0, 1) := dk_i kdX12_on_0 4 rfl
theorem dX12_on_7 : decode cX12_on 7 = .ok (.putfield 13, 3) := dk_i kdX12_on_0 5 rfl
theorem dX12_on_10 : decode cX12_on 10 = .ok (.aload_n 0, 1) := dk_i kdX12_on_0 6 rfl
theorem dX12_on_11 : decode cX12_on 11 = .ok (.iload_n 1, 1) := dk_i kdX12_on_0 7 rfl
theorem dX12_on_12 : decode cX12_on 12 = .ok (.invokevirtual 518, 3) := dk_i kdX12_on_0 8 rfl
theorem dX12_on_15 : decode cX12_on 15 = .ok (.ifCond .ne 17, 3) := dk_i kdX12_on_0 9 rfl
theorem dX12_on_18 : decode cX12_on 18 = .ok (.aload_n 0, 1) := dk_i kdX12_on_0 10 rfl
theorem dX12_on_19 : decode cX12_on 19 = .ok (.iconst 5, 1) := dk_i kdX12_on_0 11 rfl
theorem dX12_on_20 : decode cX12_on 20 = .ok (.invokevirtual 219, 3) := dk_i kdX12_on_0 12 rfl
theorem dX12_on_23 : decode cX12_on 23 = .ok (.ifCond .lt 7, 3) := dk_i kdX12_on_0 13 rfl
theorem dX12_on_26 : decode cX12_on 26 = .ok (.iconst 1, 1) := dk_i kdX12_on_0 14 rfl
theorem dX12_on_27 : decode cX12_on 27 = .ok (.goto 4, 3) := dk_i kdX12_on_0 15 rfl
def ldX12_on_30 : List (Nat × ClassFile.Instr × Nat) := [(30, .iconst 0, 1), (31, .ireturn, 1), (32, .aload_n 0, 1), (33, .iconst 0, 1), (34, .iconst 1, 1), (35, .invokevirtual 418, 3), (38, .aload_n 0, 1), (39, .iconst 0, 1), (40, .putfield 177, 3), (43, .iconst 1, 1), (44, .ireturn, 1)]
theorem kdX12_on_30 : dkO cX12_on 30 ldX12_on_30 = true := by decide +kernel
theorem dX12_on_30 : decode cX12_on 30 = .ok (.iconst 0, 1) := dk_i kdX12_on_30 0 rfl
theorem dX12_on_31 : decode cX12_on 31 = .ok (.ireturn, 1) := dk_i kdX12_on_30 1 rfl
theorem dX12_on_32 : decode cX12_on 32 = .ok (.aload_n 0, 1) := dk_i kdX12_on_30 2 rfl
theorem dX12_on_33 : decode cX12_on 33 = .ok (.iconst 0, 1) := dk_i kdX12_on_30 3 rfl
theorem dX12_on_34 : decode cX12_on 34 = .ok (.iconst 1, 1) := dk_i kdX12_on_30 4 rfl
theorem dX12_on_35 : decode cX12_on 35 = .ok (.invokevirtual 418, 3) := dk_i kdX12_on_30 5 rfl
theorem dX12_on_38 : decode cX12_on 38 = .ok (.aload_n 0, 1) := dk_i kdX12_on_30 6 rfl
theorem dX12_on_39 : decode cX12_on 39 = .ok (.iconst 0, 1) := dk_i kdX12_on_30 7 rfl
theorem dX12_on_40 : decode cX12_on 40 = .ok (.putfield 177, 3) := dk_i kdX12_on_30 8 rfl
theorem dX12_on_43 : decode cX12_on 43 = .ok (.iconst 1, 1) := dk_i kdX12_on_30 9 rfl
theorem dX12_on_44 : decode cX12_on 44 = .ok (.ireturn, 1) := dk_i kdX12_on_30 10 rfl
end
section
def ldX2_init_0 : List (Nat × ClassFile.Instr × Nat) := [(0, .aload_n 0, 1), (1, .invokespecial 3, 3), (4, .aload_n 0, 1), (5, .bipush 20, 2), (7, .bipush 18, 2), (9, .multianewarray 11 2, 4), (13, .putfield 13, 3), (16, .aload_n 0, 1), (17, .iconst 0, 1), (18, .putfield 18, 3), (21, .aload_n 0, 1), (22, .iconst 0, 1), (23, .putfield 22, 3), (26, .return_, 1)]
theorem kdX2_init_0 : dkO cX2_init 0 ldX2_init_0 = true := by decide +kernel
theorem dX2_init_0 : decode cX2_init 0 = .ok (.aload_n 0, 1) := dk_i kdX2_init_0 0 rfl
theorem dX2_init_1 : decode cX2_init 1 = .ok (.invokespecial 3, 3) := dk_i kdX2_init_0 1 rfl
theorem dX2_init_4 : decode cX2_init 4 = .ok (.aload_n 0, 1) := dk_i kdX2_init_0 2 rfl
theorem dX2_init_5 : decode cX2_init 5 = .ok (.bipush 20, 2) := dk_i kdX2_init_0 3 rfl
theorem dX2_init_7 : decode cX2_init 7 = .ok (.bipush 18, 2) := dk_i kdX2_init_0 4 rfl
theorem dX2_init_9 : decode cX2_init 9 = .ok (.multianewarray 11 2, 4) := dk_i kdX2_init_0 5 rfl
theorem dX2_init_13 : decode cX2_init 13 = .ok (.putfield 13, 3) := dk_i kdX2_init_0 6 rfl
theorem dX2_init_16 : decode cX2_init 16 = .ok (.aload_n 0, 1) := dk_i kdX2_init_0 7 rfl
theorem dX2_init_17 : decode cX2_init 17 = .ok (.iconst 0, 1) := dk_i kdX2_init_0 8 rfl
theorem dX2_init_18 : decode cX2_init 18 = .ok (.putfield 18, 3) := dk_i kdX2_init_0 9 rfl
theorem dX2_init_21 : decode cX2_init 21 = .ok (.aload_n 0, 1) := dk_i kdX2_init_0 10 rfl
theorem dX2_init_22 : decode cX2_init 22 = .ok (.iconst 0, 1) := dk_i kdX2_init_0 11 rfl
theorem dX2_init_23 : decode cX2_init 23 = .ok (.putfield 22, 3) := dk_i kdX2_init_0 12 rfl
theorem dX2_init_26 : decode cX2_init 26 = .ok (.return_, 1) := dk_i kdX2_init_0 13 rfl
def ldX2_remember_0 : List (Nat × ClassFile.Instr × Nat) := [(0, .aload_n 1, 1), (1, .aload_n 0, 1), (2, .getfield 13, 3), (5, .aload_n 0, 1), (6, .getfield 18, 3), (9, .aaload, 1), (10, .invokevirtual 25, 3), (13, .aload_n 0, 1), (14, .aload_n 0, 1), (15, .getfield 18, 3), (18, .iconst 1, 1), (19, .iadd, 1), (20, .bipush 20, 2), (22, .irem, 1), (23, .putfield 18, 3), (26, .aload_n 0, 1)]
theorem kdX2_remember_0 : dkO cX2_remember 0 ldX2_remember_0 = true := by decide +kernel
theorem dX2_remember_0 : decode cX2_remember 0 = .ok (.aload_n 1, 1) := dk_i kdX2_remember_0 0 rfl
theorem dX2_remember_1 : decode cX2_remember 1 = .ok (.aload_n 0, 1) := dk_i kdX2_remember_0 1 rfl
theorem dX2_remember_2 : decode cX2_remember 2 = .ok (.getfield 13, 3) := dk_i kdX2_remember_0 2 rfl
theorem dX2_remember_5 : decode cX2_remember 5 = .ok (.aload_n 0, 1) := dk_i kdX2_remember_0 3 rfl
theorem dX2_remember_6 : decode cX2_remember 6 = .ok (.getfield 18, 3) := dk_i kdX2_remember_0 4 rfl
theorem dX2_remember_9 : decode cX2_remember 9 = .ok (.aaload, 1) := dk_i kdX2_remember_0 5 rfl
theorem dX2_remember_10 : decode cX2_remember 10 = .ok (.invokevirtual 25, 3) := dk_i kdX2_remember_0 6 rfl
theorem dX2_remember_13 : decode cX2_remember 13 = .ok (.aload_n 0, 1) := dk_i kdX2_remember_0 7 rfl
theorem dX2_remember_14 : decode cX2_remember 14 = .ok (.aload_n 0, 1) := dk_i kdX2_remember_0 8 rfl
theorem dX2_remember_15 : decode cX2_remember 15 = .ok (.getfield 18, 3) := dk_i kdX2_remember_0 9 rfl
theorem dX2_remember_18 : decode cX2_remember 18 = .ok (.iconst 1, 1) := dk_i kdX2_remember_0 10 rfl
theorem dX2_remember_19 : decode cX2_remember 19 = .ok (.iadd, 1) := dk_i kdX2_remember_0 11 rfl
theorem dX2_remember_20 : decode cX2_remember 20 = .ok (.bipush 20, 2) := dk_i kdX2_remember_0 12 rfl
theorem dX2_remember_22 : decode cX2_remember 22 = .ok (.irem, 1) := dk_i kdX2_remember_0 13 rfl
theorem dX2_remember_23 : decode cX2_remember 23 = .ok (.putfield 18, 3) := dk_i kdX2_remember_0 14 rfl
theorem dX2_remember_26 : decode cX2_remember 26 = .ok (.aload_n 0, 1) := dk_i kdX2_remember_0 15 rfl
def ldX2_remember_27 : List (Nat × ClassFile.Instr × Nat) := [(27, .bipush 20, 2), (29, .aload_n 0, 1), (30, .getfield 22, 3), (33, .iconst 1, 1), (34, .iadd, 1), (35, .invokestatic 29, 3), (38, .putfield 22, 3), (41, .return_, 1)]
theorem kdX2_remember_27 : dkO cX2_remember 27 ldX2_remember_27 = true := by decide +kernel
theorem dX2_remember_27 : decode cX2_remember 27 = .ok (.bipush 20, 2) := dk_i kdX2_remember_27 0 rfl
theorem dX2_remember_29 : decode cX2_remember 29 = .ok (.aload_n 0, 1) := dk_i kdX2_remember_27 1 rfl
theorem dX2_remember_30 : decode cX2_remember 30 = .ok (.getfield 22, 3) := dk_i kdX2_remember_27 2 rfl
theorem dX2_remember_33 : decode cX2_remember 33 = .ok (.iconst 1, 1) := dk_i kdX2_remember_27 3 rfl
theorem dX2_remember_34 : decode cX2_remember 34 = .ok (.iadd, 1) := dk_i kdX2_remember_27 4 rfl
theorem dX2_remember_35 : decode cX2_remember 35 = .ok (.invokestatic 29, 3) := dk_i kdX2_remember_27 5 rfl
theorem dX2_remember_38 : decode cX2_remember 38 = .ok (.putfield 22, 3) := dk_i kdX2_remember_27 6 rfl
theorem dX2_remember_41 : decode cX2_remember 41 = .ok (.return_, 1) := dk_i kdX2_remember_27 7 rfl
def ldX2_bringBack_0 : List (Nat × ClassFile.Instr × Nat) := [(0, .aload_n 0, 1), (1, .getfield 22, 3), (4, .ifCond .gt 5, 3), (7, .iconst 0, 1), (8, .ireturn, 1), (9, .aload_n 0, 1), (10, .aload_n 0, 1), (11, .getfield 18, 3), (14, .bipush 20, 2), (16, .iadd, 1), (17, .iconst 1, 1), (18, .isub, 1), (19, .bipush 20, 2), (21, .irem, 1), (22, .putfield 18, 3), (25, .aload_n 0, 1)]
theorem kdX2_bringBack_0 : dkO cX2_bringBack 0 ldX2_bringBack_0 = true := by decide +kernel
theorem dX2_bringBack_0 : decode cX2_bringBack 0 = .ok (.aload_n 0, 1) := dk_i kdX2_bringBack_0 0 rfl
theorem dX2_bringBack_1 : decode cX2_bringBack 1 = .ok (.getfield 22, 3) := dk_i kdX2_bringBack_0 1 rfl
theorem dX2_bringBack_4 : decode cX2_bringBack 4 = .ok (.ifCond .gt 5, 3) := dk_i kdX2_bringBack_0 2 rfl
theorem dX2_bringBack_7 : decode cX2_bringBack 7 = .ok (.iconst 0, 1) := dk_i kdX2_bringBack_0 3 rfl
theorem dX2_bringBack_8 : decode cX2_bringBack 8 = .ok (.ireturn, 1) := dk_i kdX2_bringBack_0 4 rfl
theorem dX2_bringBack_9 : decode cX2_bringBack 9 = .ok (.aload_n 0, 1) := dk_i kdX2_bringBack_0 5 rfl
theorem dX2_bringBack_10 : decode cX2_bringBack 10 = .ok (.aload_n 0, 1) := dk_i kdX2_bringBack_0 6 rfl
theorem dX2_bringBack_11 : decode cX2_bringBack 11 = .ok (.getfield 18, 3) := dk_i kdX2_bringBack_0 7 rfl
theorem dX2_bringBack_14 : decode cX2_bringBack 14 = .ok (.bipush 20, 2) := dk_i kdX2_bringBack_0 8 rfl
theorem dX2_bringBack_16 : decode cX2_bringBack 16 = .ok (.iadd, 1) := dk_i kdX2_bringBack_0 9 rfl
theorem dX2_bringBack_17 : decode cX2_bringBack 17 = .ok (.iconst 1, 1) := dk_i kdX2_bringBack_0 10 rfl
theorem dX2_bringBack_18 : decode cX2_bringBack 18 = .ok (.isub, 1) := dk_i kdX2_bringBack_0 11 rfl
theorem dX2_bringBack_19 : decode cX2_bringBack 19 = .ok (.bipush 20, 2) := dk_i kdX2_bringBack_0 12 rfl
theorem dX2_bringBack_21 : decode cX2_bringBack 21 = .ok (.irem, 1) := dk_i kdX2_bringBack_0 13 rfl
theorem dX2_bringBack_22 : decode cX2_bringBack 22 = .ok (.putfield 18, 3) := dk_i kdX2_bringBack_0 14 rfl
theorem dX2_bringBack_25 : decode cX2_bringBack 25 = .ok (.aload_n 0, 1) := dk_i kdX2_bringBack_0 15 rfl
def ldX2_bringBack_26 : List (Nat × ClassFile.Instr × Nat) := [(26, .dup, 1), (27, .getfield 22, 3), (30, .iconst 1, 1), (31, .isub, 1), (32, .putfield 22, 3), (35, .aload_n 1, 1), (36, .aload_n 0, 1), (37, .getfield 13, 3), (40, .aload_n 0, 1), (41, .getfield 18, 3), (44, .aaload, 1), (45, .invokevirtual 35, 3), (48, .iconst 1, 1), (49, .ireturn, 1)]
theorem kdX2_bringBack_26 : dkO cX2_bringBack 26 ldX2_bringBack_26 = true := by decide +kernel
theorem dX2_bringBack_26 : decode cX2_bringBack 26 = .ok (.dup, 1) := dk_i kdX2_bringBack_26 0 rfl
theorem dX2_bringBack_27 : decode cX2_bringBack 27 = .ok (.getfield 22, 3) := dk_i kdX2_bringBack_26 1 rfl
theorem dX2_bringBack_30 : decode cX2_bringBack 30 = .ok (.iconst 1, 1) := dk_i kdX2_bringBack_26 2 rfl
theorem dX2_bringBack_31 : decode cX2_bringBack 31 = .ok (.isub, 1) := dk_i kdX2_bringBack_26 3 rfl
theorem dX2_bringBack_32 : decode cX2_bringBack 32 = .ok (.putfield 22, 3) := dk_i kdX2_bringBack_26 4 rfl
theorem dX2_bringBack_35 : decode cX2_bringBack 35 = .ok (.aload_n 1, 1) := dk_i kdX2_bringBack_26 5 rfl
theorem dX2_bringBack_36 : decode cX2_bringBack 36 = .ok (.aload_n 0, 1) := dk_i kdX2_bringBack_26 6 rfl
theorem dX2_bringBack_37 : decode cX2_bringBack 37 = .ok (.getfield 13, 3) := dk_i kdX2_bringBack_26 7 rfl
theorem dX2_bringBack_40 : decode cX2_bringBack 40 = .ok (.aload_n 0, 1) := dk_i kdX2_bringBack_26 8 rfl
theorem dX2_bringBack_41 : decode cX2_bringBack 41 = .ok (.getfield 18, 3) := dk_i kdX2_bringBack_26 9 rfl
theorem dX2_bringBack_44 : decode cX2_bringBack 44 = .ok (.aaload, 1) := dk_i kdX2_bringBack_26 10 rfl
theorem dX2_bringBack_45 : decode cX2_bringBack 45 = .ok (.invokevirtual 35, 3) := dk_i kdX2_bringBack_26 11 rfl
theorem dX2_bringBack_48 : decode cX2_bringBack 48 = .ok (.iconst 1, 1) := dk_i kdX2_bringBack_26 12 rfl
theorem dX2_bringBack_49 : decode cX2_bringBack 49 = .ok (.ireturn, 1) := dk_i kdX2_bringBack_26 13 rfl
end
section
def ldX3_init_0 : List (Nat × ClassFile.Instr × Nat) := [(0, .aload_n 0, 1), (1, .invokespecial 3, 3), (4, .aload_n 0, 1), (5, .iconst 0, 1), (6, .putfield 9, 3), (9, .aload_n 0, 1), (10, .aload_n 1, 1), (11, .putfield 15, 3), (14, .aload_n 0, 1), (15, .aload_n 2, 1), (16, .putfield 19, 3), (19, .return_, 1)]
theorem kdX3_init_0 : dkO cX3_init 0 ldX3_init_0 = true := by decide +kernel
theorem dX3_init_0 : decode cX3_init 0 = .ok (.aload_n 0, 1) := dk_i kdX3_init_0 0 rfl
theorem dX3_init_1 : decode cX3_init 1 = .ok (.invokespecial 3, 3) := dk_i kdX3_init_0 1 rfl
theorem dX3_init_4 : decode cX3_init 4 = .ok (.aload_n 0, 1) := dk_i kdX3_init_0 2 rfl
theorem dX3_init_5 : decode cX3_init 5 = .ok (.iconst 0, 1) := dk_i kdX3_init_0 3 rfl
theorem dX3_init_6 : decode cX3_init 6 = .ok (.putfield 9, 3) := dk_i kdX3_init_0 4 rfl
theorem dX3_init_9 : decode cX3_init 9 = .ok (.aload_n 0, 1) := dk_i kdX3_init_0 5 rfl
theorem dX3_init_10 : decode cX3_init 10 = .ok (.aload_n 1, 1) := dk_i kdX3_init_0 6 rfl
theorem dX3_init_11 : decode cX3_init 11 = .ok (.putfield 15, 3) := dk_i kdX3_init_0 7 rfl
theorem dX3_init_14 : decode cX3_init 14 = .ok (.aload_n 0, 1) := dk_i kdX3_init_0 8 rfl
theorem dX3_init_15 : decode cX3_init 15 = .ok (.aload_n 2, 1) := dk_i kdX3_init_0 9 rfl
theorem dX3_init_16 : decode cX3_init 16 = .ok (.putfield 19, 3) := dk_i kdX3_init_0 10 rfl
theorem dX3_init_19 : decode cX3_init 19 = .ok (.return_, 1) := dk_i kdX3_init_0 11 rfl
def ldX3_readSays_0 : List (Nat × ClassFile.Instr × Nat) := [(0, .aload_n 0, 1), (1, .aload_n 1, 1), (2, .putfield 19, 3), (5, .aload_n 0, 1), (6, .iconst 0, 1), (7, .putfield 9, 3), (10, .aload_n 0, 1), (11, .iconst 0, 1), (12, .invokevirtual 23, 3), (15, .ireturn, 1)]
theorem kdX3_readSays_0 : dkO cX3_readSays 0 ldX3_readSays_0 = true := by decide +kernel
theorem dX3_readSays_0 : decode cX3_readSays 0 = .ok (.aload_n 0, 1) := dk_i kdX3_readSays_0 0 rfl
theorem dX3_readSays_1 : decode cX3_readSays 1 = .ok (.aload_n 1, 1) := dk_i kdX3_readSays_0 1 rfl
theorem dX3_readSays_2 : decode cX3_readSays 2 = .ok (.putfield 19, 3) := dk_i kdX3_readSays_0 2 rfl
theorem dX3_readSays_5 : decode cX3_readSays 5 = .ok (.aload_n 0, 1) := dk_i kdX3_readSays_0 3 rfl
theorem dX3_readSays_6 : decode cX3_readSays 6 = .ok (.iconst 0, 1) := dk_i kdX3_readSays_0 4 rfl
theorem dX3_readSays_7 : decode cX3_readSays 7 = .ok (.putfield 9, 3) := dk_i kdX3_readSays_0 5 rfl
theorem dX3_readSays_10 : decode cX3_readSays 10 = .ok (.aload_n 0, 1) := dk_i kdX3_readSays_0 6 rfl
theorem dX3_readSays_11 : decode cX3_readSays 11 = .ok (.iconst 0, 1) := dk_i kdX3_readSays_0 7 rfl
theorem dX3_readSays_12 : decode cX3_readSays 12 = .ok (.invokevirtual 23, 3) := dk_i kdX3_readSays_0 8 rfl
theorem dX3_readSays_15 : decode cX3_readSays 15 = .ok (.ireturn, 1) := dk_i kdX3_readSays_0 9 rfl
def ldX3_readGone_0 : List (Nat × ClassFile.Instr × Nat) := [(0, .aload_n 0, 1), (1, .aload_n 1, 1), (2, .putfield 19, 3), (5, .aload_n 0, 1), (6, .iconst 1, 1), (7, .putfield 9, 3), (10, .aload_n 0, 1), (11, .iconst 0, 1), (12, .invokevirtual 27, 3), (15, .ireturn, 1)]
theorem kdX3_readGone_0 : dkO cX3_readGone 0 ldX3_readGone_0 = true := by decide +kernel
theorem dX3_readGone_0 : decode cX3_readGone 0 = .ok (.aload_n 0, 1) := dk_i kdX3_readGone_0 0 rfl
theorem dX3_readGone_1 : decode cX3_readGone 1 = .ok (.aload_n 1, 1) := dk_i kdX3_readGone_0 1 rfl
theorem dX3_readGone_2 : decode cX3_readGone 2 = .ok (.putfield 19, 3) := dk_i kdX3_readGone_0 2 rfl
theorem dX3_readGone_5 : decode cX3_readGone 5 = .ok (.aload_n 0, 1) := dk_i kdX3_readGone_0 3 rfl
theorem dX3_readGone_6 : decode cX3_readGone 6 = .ok (.iconst 1, 1) := dk_i kdX3_readGone_0 4 rfl
theorem dX3_readGone_7 : decode cX3_readGone 7 = .ok (.putfield 9, 3) := dk_i kdX3_readGone_0 5 rfl
theorem dX3_readGone_10 : decode cX3_readGone 10 = .ok (.aload_n 0, 1) := dk_i kdX3_readGone_0 6 rfl
theorem dX3_readGone_11 : decode cX3_readGone 11 = .ok (.iconst 0, 1) := dk_i kdX3_readGone_0 7 rfl
theorem dX3_readGone_12 : decode cX3_readGone 12 = .ok (.invokevirtual 27, 3) := dk_i kdX3_readGone_0 8 rfl
theorem dX3_readGone_15 : decode cX3_readGone 15 = .ok (.ireturn, 1) := dk_i kdX3_readGone_0 9 rfl
def ldX3_goIn_0 : List (Nat × ClassFile.Instr × Nat) := [(0, .aload_n 0, 1), (1, .getfield 15, 3), (4, .getfield 30, 3), (7, .iload_n 1, 1), (8, .if_icmp .eq 11, 3), (11, .aload_n 0, 1), (12, .getfield 15, 3), (15, .invokevirtual 36, 3), (18, .ireturn, 1), (19, .iload_n 2, 1), (20, .bipush 7, 2), (22, .if_icmp .lt 19, 3), (25, .aload_n 0, 1), (26, .getfield 15, 3), (29, .iconst 5, 1), (30, .aload_n 0, 1)]
theorem kdX3_goIn_0 : dkO cX3_goIn 0 ldX3_goIn_0 = true := by decide +kernel
theorem dX3_goIn_0 : decode cX3_goIn 0 = .ok (.aload_n 0, 1) := dk_i kdX3_goIn_0 0 rfl
theorem dX3_goIn_1 : decode cX3_goIn 1 = .ok (.getfield 15, 3) := dk_i kdX3_goIn_0 1 rfl
theorem dX3_goIn_4 : decode cX3_goIn 4 = .ok (.getfield 30, 3) := dk_i kdX3_goIn_0 2 rfl
theorem dX3_goIn_7 : decode cX3_goIn 7 = .ok (.iload_n 1, 1) := dk_i kdX3_goIn_0 3 rfl
theorem dX3_goIn_8 : decode cX3_goIn 8 = .ok (.if_icmp .eq 11, 3) := dk_i kdX3_goIn_0 4 rfl
theorem dX3_goIn_11 : decode cX3_goIn 11 = .ok (.aload_n 0, 1) := dk_i kdX3_goIn_0 5 rfl
theorem dX3_goIn_12 : decode cX3_goIn 12 = .ok (.getfield 15, 3) := dk_i kdX3_goIn_0 6 rfl
theorem dX3_goIn_15 : decode cX3_goIn 15 = .ok (.invokevirtual 36, 3) := dk_i kdX3_goIn_0 7 rfl
theorem dX3_goIn_18 : decode cX3_goIn 18 = .ok (.ireturn, 1) := dk_i kdX3_goIn_0 8 rfl
theorem dX3_goIn_19 : decode cX3_goIn 19 = .ok (.iload_n 2, 1) := dk_i kdX3_goIn_0 9 rfl
theorem dX3_goIn_20 : decode cX3_goIn 20 = .ok (.bipush 7, 2) := dk_i kdX3_goIn_0 10 rfl
theorem dX3_goIn_22 : decode cX3_goIn 22 = .ok (.if_icmp .lt 19, 3) := dk_i kdX3_goIn_0 11 rfl
theorem dX3_goIn_25 : decode cX3_goIn 25 = .ok (.aload_n 0, 1) := dk_i kdX3_goIn_0 12 rfl
theorem dX3_goIn_26 : decode cX3_goIn 26 = .ok (.getfield 15, 3) := dk_i kdX3_goIn_0 13 rfl
theorem dX3_goIn_29 : decode cX3_goIn 29 = .ok (.iconst 5, 1) := dk_i kdX3_goIn_0 14 rfl
theorem dX3_goIn_30 : decode cX3_goIn 30 = .ok (.aload_n 0, 1) := dk_i kdX3_goIn_0 15 rfl
def ldX3_goIn_31 : List (Nat × ClassFile.Instr × Nat) := [(31, .getfield 15, 3), (34, .getfield 40, 3), (37, .invokevirtual 43, 3), (40, .ireturn, 1), (41, .aload_n 0, 1), (42, .getfield 15, 3), (45, .invokevirtual 47, 3), (48, .iconst 1, 1), (49, .ireturn, 1)]
theorem kdX3_goIn_31 : dkO cX3_goIn 31 ldX3_goIn_31 = true := by decide +kernel
theorem dX3_goIn_31 : decode cX3_goIn 31 = .ok (.getfield 15, 3) := dk_i kdX3_goIn_31 0 rfl
theorem dX3_goIn_34 : decode cX3_goIn 34 = .ok (.getfield 40, 3) := dk_i kdX3_goIn_31 1 rfl
theorem dX3_goIn_37 : decode cX3_goIn 37 = .ok (.invokevirtual 43, 3) := dk_i kdX3_goIn_31 2 rfl
theorem dX3_goIn_40 : decode cX3_goIn 40 = .ok (.ireturn, 1) := dk_i kdX3_goIn_31 3 rfl
theorem dX3_goIn_41 : decode cX3_goIn 41 = .ok (.aload_n 0, 1) := dk_i kdX3_goIn_31 4 rfl
theorem dX3_goIn_42 : decode cX3_goIn 42 = .ok (.getfield 15, 3) := dk_i kdX3_goIn_31 5 rfl
theorem dX3_goIn_45 : decode cX3_goIn 45 = .ok (.invokevirtual 47, 3) := dk_i kdX3_goIn_31 6 rfl
theorem dX3_goIn_48 : decode cX3_goIn 48 = .ok (.iconst 1, 1) := dk_i kdX3_goIn_31 7 rfl
theorem dX3_goIn_49 : decode cX3_goIn 49 = .ok (.ireturn, 1) := dk_i kdX3_goIn_31 8 rfl
def ldX3_add_0 : List (Nat × ClassFile.Instr × Nat) := [(0, .aload_n 0, 1), (1, .getfield 19, 3), (4, .iload_n 1, 1), (5, .invokevirtual 50, 3), (8, .iconst 1, 1), (9, .ireturn, 1)]
theorem kdX3_add_0 : dkO cX3_add 0 ldX3_add_0 = true := by decide +kernel
theorem dX3_add_0 : decode cX3_add 0 = .ok (.aload_n 0, 1) := dk_i kdX3_add_0 0 rfl
theorem dX3_add_1 : decode cX3_add 1 = .ok (.getfield 19, 3) := dk_i kdX3_add_0 1 rfl
theorem dX3_add_4 : decode cX3_add 4 = .ok (.iload_n 1, 1) := dk_i kdX3_add_0 2 rfl
theorem dX3_add_5 : decode cX3_add 5 = .ok (.invokevirtual 50, 3) := dk_i kdX3_add_0 3 rfl
theorem dX3_add_8 : decode cX3_add 8 = .ok (.iconst 1, 1) := dk_i kdX3_add_0 4 rfl
theorem dX3_add_9 : decode cX3_add 9 = .ok (.ireturn, 1) := dk_i kdX3_add_0 5 rfl
def ldX3_readSum_0 : List (Nat × ClassFile.Instr × Nat) := [(0, .aload_n 0, 1), (1, .iload_n 1, 1), (2, .invokevirtual 56, 3), (5, .ifCond .ne 5, 3), (8, .iconst 0, 1), (9, .ireturn, 1), (10, .iconst 0, 1), (11, .istore_n 2, 1), (12, .iload_n 2, 1), (13, .sipush 1600, 3), (16, .if_icmp .ge 46, 3), (19, .aload_n 0, 1), (20, .invokevirtual 59, 3), (23, .ifCond .eq 39, 3), (26, .aload_n 0, 1), (27, .invokevirtual 59, 3)]
theorem kdX3_readSum_0 : dkO cX3_readSum 0 ldX3_readSum_0 = true := by decide +kernel
theorem dX3_readSum_0 : decode cX3_readSum 0 = .ok (.aload_n 0, 1) := dk_i kdX3_readSum_0 0 rfl
theorem dX3_readSum_1 : decode cX3_readSum 1 = .ok (.iload_n 1, 1) := dk_i kdX3_readSum_0 1 rfl
theorem dX3_readSum_2 : decode cX3_readSum 2 = .ok (.invokevirtual 56, 3) := dk_i kdX3_readSum_0 2 rfl
theorem dX3_readSum_5 : decode cX3_readSum 5 = .ok (.ifCond .ne 5, 3) := dk_i kdX3_readSum_0 3 rfl
theorem dX3_readSum_8 : decode cX3_readSum 8 = .ok (.iconst 0, 1) := dk_i kdX3_readSum_0 4 rfl
theorem dX3_readSum_9 : decode cX3_readSum 9 = .ok (.ireturn, 1) := dk_i kdX3_readSum_0 5 rfl
theorem dX3_readSum_10 : decode cX3_readSum 10 = .ok (.iconst 0, 1) := dk_i kdX3_readSum_0 6 rfl
theorem dX3_readSum_11 : decode cX3_readSum 11 = .ok (.istore_n 2, 1) := dk_i kdX3_readSum_0 7 rfl
theorem dX3_readSum_12 : decode cX3_readSum 12 = .ok (.iload_n 2, 1) := dk_i kdX3_readSum_0 8 rfl
theorem dX3_readSum_13 : decode cX3_readSum 13 = .ok (.sipush 1600, 3) := dk_i kdX3_readSum_0 9 rfl
theorem dX3_readSum_16 : decode cX3_readSum 16 = .ok (.if_icmp .ge 46, 3) := dk_i kdX3_readSum_0 10 rfl
theorem dX3_readSum_19 : decode cX3_readSum 19 = .ok (.aload_n 0, 1) := dk_i kdX3_readSum_0 11 rfl
theorem dX3_readSum_20 : decode cX3_readSum 20 = .ok (.invokevirtual 59, 3) := dk_i kdX3_readSum_0 12 rfl
theorem dX3_readSum_23 : decode cX3_readSum 23 = .ok (.ifCond .eq 39, 3) := dk_i kdX3_readSum_0 13 rfl
theorem dX3_readSum_26 : decode cX3_readSum 26 = .ok (.aload_n 0, 1) := dk_i kdX3_readSum_0 14 rfl
theorem dX3_readSum_27 : decode cX3_readSum 27 = .ok (.invokevirtual 59, 3) := dk_i kdX3_readSum_0 15 rfl
def ldX3_readSum_30 : List (Nat × ClassFile.Instr × Nat) := [(30, .istore_n 3, 1), (31, .aload_n 0, 1), (32, .getfield 15, 3), (35, .invokevirtual 47, 3), (38, .aload_n 0, 1), (39, .iload_n 1, 1), (40, .invokevirtual 56, 3), (43, .ifCond .ne 5, 3), (46, .iconst 0, 1), (47, .ireturn, 1), (48, .aload_n 0, 1), (49, .getfield 19, 3), (52, .iload_n 3, 1), (53, .invokevirtual 50, 3), (56, .iinc 2 1, 3), (59, .goto (-47), 3)]
theorem kdX3_readSum_30 : dkO cX3_readSum 30 ldX3_readSum_30 = true := by decide +kernel
theorem dX3_readSum_30 : decode cX3_readSum 30 = .ok (.istore_n 3, 1) := dk_i kdX3_readSum_30 0 rfl
theorem dX3_readSum_31 : decode cX3_readSum 31 = .ok (.aload_n 0, 1) := dk_i kdX3_readSum_30 1 rfl
theorem dX3_readSum_32 : decode cX3_readSum 32 = .ok (.getfield 15, 3) := dk_i kdX3_readSum_30 2 rfl
theorem dX3_readSum_35 : decode cX3_readSum 35 = .ok (.invokevirtual 47, 3) := dk_i kdX3_readSum_30 3 rfl
theorem dX3_readSum_38 : decode cX3_readSum 38 = .ok (.aload_n 0, 1) := dk_i kdX3_readSum_30 4 rfl
theorem dX3_readSum_39 : decode cX3_readSum 39 = .ok (.iload_n 1, 1) := dk_i kdX3_readSum_30 5 rfl
theorem dX3_readSum_40 : decode cX3_readSum 40 = .ok (.invokevirtual 56, 3) := dk_i kdX3_readSum_30 6 rfl
theorem dX3_readSum_43 : decode cX3_readSum 43 = .ok (.ifCond .ne 5, 3) := dk_i kdX3_readSum_30 7 rfl
theorem dX3_readSum_46 : decode cX3_readSum 46 = .ok (.iconst 0, 1) := dk_i kdX3_readSum_30 8 rfl
theorem dX3_readSum_47 : decode cX3_readSum 47 = .ok (.ireturn, 1) := dk_i kdX3_readSum_30 9 rfl
theorem dX3_readSum_48 : decode cX3_readSum 48 = .ok (.aload_n 0, 1) := dk_i kdX3_readSum_30 10 rfl
theorem dX3_readSum_49 : decode cX3_readSum 49 = .ok (.getfield 19, 3) := dk_i kdX3_readSum_30 11 rfl
theorem dX3_readSum_52 : decode cX3_readSum 52 = .ok (.iload_n 3, 1) := dk_i kdX3_readSum_30 12 rfl
theorem dX3_readSum_53 : decode cX3_readSum 53 = .ok (.invokevirtual 50, 3) := dk_i kdX3_readSum_30 13 rfl
theorem dX3_readSum_56 : decode cX3_readSum 56 = .ok (.iinc 2 1, 3) := dk_i kdX3_readSum_30 14 rfl
theorem dX3_readSum_59 : decode cX3_readSum 59 = .ok (.goto (-47), 3) := dk_i kdX3_readSum_30 15 rfl
def ldX3_readSum_62 : List (Nat × ClassFile.Instr × Nat) := [(62, .iconst 1, 1), (63, .ireturn, 1)]
theorem kdX3_readSum_62 : dkO cX3_readSum 62 ldX3_readSum_62 = true := by decide +kernel
theorem dX3_readSum_62 : decode cX3_readSum 62 = .ok (.iconst 1, 1) := dk_i kdX3_readSum_62 0 rfl
theorem dX3_readSum_63 : decode cX3_readSum 63 = .ok (.ireturn, 1) := dk_i kdX3_readSum_62 1 rfl
def ldX3_sumStep_0 : List (Nat × ClassFile.Instr × Nat) := [(0, .aload_n 0, 1), (1, .getfield 15, 3), (4, .getfield 30, 3), (7, .lookupswitch 31 #[(43, 25), (45, 28)], 25), (32, .bipush (-7), 2), (34, .ireturn, 1), (35, .bipush (-8), 2), (37, .ireturn, 1), (38, .iconst 0, 1), (39, .ireturn, 1)]
theorem kdX3_sumStep_0 : dkO cX3_sumStep 0 ldX3_sumStep_0 = true := by decide +kernel
theorem dX3_sumStep_0 : decode cX3_sumStep 0 = .ok (.aload_n 0, 1) := dk_i kdX3_sumStep_0 0 rfl
theorem dX3_sumStep_1 : decode cX3_sumStep 1 = .ok (.getfield 15, 3) := dk_i kdX3_sumStep_0 1 rfl
theorem dX3_sumStep_4 : decode cX3_sumStep 4 = .ok (.getfield 30, 3) := dk_i kdX3_sumStep_0 2 rfl
theorem dX3_sumStep_7 : decode cX3_sumStep 7 = .ok (.lookupswitch 31 #[(43, 25), (45, 28)], 25) := dk_i kdX3_sumStep_0 3 rfl
theorem dX3_sumStep_32 : decode cX3_sumStep 32 = .ok (.bipush (-7), 2) := dk_i kdX3_sumStep_0 4 rfl
theorem dX3_sumStep_34 : decode cX3_sumStep 34 = .ok (.ireturn, 1) := dk_i kdX3_sumStep_0 5 rfl
theorem dX3_sumStep_35 : decode cX3_sumStep 35 = .ok (.bipush (-8), 2) := dk_i kdX3_sumStep_0 6 rfl
theorem dX3_sumStep_37 : decode cX3_sumStep 37 = .ok (.ireturn, 1) := dk_i kdX3_sumStep_0 7 rfl
theorem dX3_sumStep_38 : decode cX3_sumStep 38 = .ok (.iconst 0, 1) := dk_i kdX3_sumStep_0 8 rfl
theorem dX3_sumStep_39 : decode cX3_sumStep 39 = .ok (.ireturn, 1) := dk_i kdX3_sumStep_0 9 rfl
def ldX3_readProduct_0 : List (Nat × ClassFile.Instr × Nat) := [(0, .aload_n 0, 1), (1, .iload_n 1, 1), (2, .invokevirtual 63, 3), (5, .ifCond .ne 5, 3), (8, .iconst 0, 1), (9, .ireturn, 1), (10, .iconst 0, 1), (11, .istore_n 2, 1), (12, .iload_n 2, 1), (13, .sipush 1600, 3), (16, .if_icmp .ge 46, 3), (19, .aload_n 0, 1), (20, .invokevirtual 66, 3), (23, .ifCond .eq 39, 3), (26, .aload_n 0, 1), (27, .invokevirtual 66, 3)]
theorem kdX3_readProduct_0 : dkO cX3_readProduct 0 ldX3_readProduct_0 = true := by decide +kernel
theorem dX3_readProduct_0 : decode cX3_readProduct 0 = .ok (.aload_n 0, 1) := dk_i kdX3_readProduct_0 0 rfl
theorem dX3_readProduct_1 : decode cX3_readProduct 1 = .ok (.iload_n 1, 1) := dk_i kdX3_readProduct_0 1 rfl
theorem dX3_readProduct_2 : decode cX3_readProduct 2 = .ok (.invokevirtual 63, 3) := dk_i kdX3_readProduct_0 2 rfl
theorem dX3_readProduct_5 : decode cX3_readProduct 5 = .ok (.ifCond .ne 5, 3) := dk_i kdX3_readProduct_0 3 rfl
theorem dX3_readProduct_8 : decode cX3_readProduct 8 = .ok (.iconst 0, 1) := dk_i kdX3_readProduct_0 4 rfl
theorem dX3_readProduct_9 : decode cX3_readProduct 9 = .ok (.ireturn, 1) := dk_i kdX3_readProduct_0 5 rfl
theorem dX3_readProduct_10 : decode cX3_readProduct 10 = .ok (.iconst 0, 1) := dk_i kdX3_readProduct_0 6 rfl
theorem dX3_readProduct_11 : decode cX3_readProduct 11 = .ok (.istore_n 2, 1) := dk_i kdX3_readProduct_0 7 rfl
theorem dX3_readProduct_12 : decode cX3_readProduct 12 = .ok (.iload_n 2, 1) := dk_i kdX3_readProduct_0 8 rfl
theorem dX3_readProduct_13 : decode cX3_readProduct 13 = .ok (.sipush 1600, 3) := dk_i kdX3_readProduct_0 9 rfl
theorem dX3_readProduct_16 : decode cX3_readProduct 16 = .ok (.if_icmp .ge 46, 3) := dk_i kdX3_readProduct_0 10 rfl
theorem dX3_readProduct_19 : decode cX3_readProduct 19 = .ok (.aload_n 0, 1) := dk_i kdX3_readProduct_0 11 rfl
theorem dX3_readProduct_20 : decode cX3_readProduct 20 = .ok (.invokevirtual 66, 3) := dk_i kdX3_readProduct_0 12 rfl
theorem dX3_readProduct_23 : decode cX3_readProduct 23 = .ok (.ifCond .eq 39, 3) := dk_i kdX3_readProduct_0 13 rfl
theorem dX3_readProduct_26 : decode cX3_readProduct 26 = .ok (.aload_n 0, 1) := dk_i kdX3_readProduct_0 14 rfl
theorem dX3_readProduct_27 : decode cX3_readProduct 27 = .ok (.invokevirtual 66, 3) := dk_i kdX3_readProduct_0 15 rfl
def ldX3_readProduct_30 : List (Nat × ClassFile.Instr × Nat) := [(30, .istore_n 3, 1), (31, .aload_n 0, 1), (32, .getfield 15, 3), (35, .invokevirtual 47, 3), (38, .aload_n 0, 1), (39, .iload_n 1, 1), (40, .invokevirtual 63, 3), (43, .ifCond .ne 5, 3), (46, .iconst 0, 1), (47, .ireturn, 1), (48, .aload_n 0, 1), (49, .getfield 19, 3), (52, .iload_n 3, 1), (53, .invokevirtual 50, 3), (56, .iinc 2 1, 3), (59, .goto (-47), 3)]
theorem kdX3_readProduct_30 : dkO cX3_readProduct 30 ldX3_readProduct_30 = true := by decide +kernel
theorem dX3_readProduct_30 : decode cX3_readProduct 30 = .ok (.istore_n 3, 1) := dk_i kdX3_readProduct_30 0 rfl
theorem dX3_readProduct_31 : decode cX3_readProduct 31 = .ok (.aload_n 0, 1) := dk_i kdX3_readProduct_30 1 rfl
theorem dX3_readProduct_32 : decode cX3_readProduct 32 = .ok (.getfield 15, 3) := dk_i kdX3_readProduct_30 2 rfl
theorem dX3_readProduct_35 : decode cX3_readProduct 35 = .ok (.invokevirtual 47, 3) := dk_i kdX3_readProduct_30 3 rfl
theorem dX3_readProduct_38 : decode cX3_readProduct 38 = .ok (.aload_n 0, 1) := dk_i kdX3_readProduct_30 4 rfl
theorem dX3_readProduct_39 : decode cX3_readProduct 39 = .ok (.iload_n 1, 1) := dk_i kdX3_readProduct_30 5 rfl
theorem dX3_readProduct_40 : decode cX3_readProduct 40 = .ok (.invokevirtual 63, 3) := dk_i kdX3_readProduct_30 6 rfl
theorem dX3_readProduct_43 : decode cX3_readProduct 43 = .ok (.ifCond .ne 5, 3) := dk_i kdX3_readProduct_30 7 rfl
theorem dX3_readProduct_46 : decode cX3_readProduct 46 = .ok (.iconst 0, 1) := dk_i kdX3_readProduct_30 8 rfl
theorem dX3_readProduct_47 : decode cX3_readProduct 47 = .ok (.ireturn, 1) := dk_i kdX3_readProduct_30 9 rfl
theorem dX3_readProduct_48 : decode cX3_readProduct 48 = .ok (.aload_n 0, 1) := dk_i kdX3_readProduct_30 10 rfl
theorem dX3_readProduct_49 : decode cX3_readProduct 49 = .ok (.getfield 19, 3) := dk_i kdX3_readProduct_30 11 rfl
theorem dX3_readProduct_52 : decode cX3_readProduct 52 = .ok (.iload_n 3, 1) := dk_i kdX3_readProduct_30 12 rfl
theorem dX3_readProduct_53 : decode cX3_readProduct 53 = .ok (.invokevirtual 50, 3) := dk_i kdX3_readProduct_30 13 rfl
theorem dX3_readProduct_56 : decode cX3_readProduct 56 = .ok (.iinc 2 1, 3) := dk_i kdX3_readProduct_30 14 rfl
theorem dX3_readProduct_59 : decode cX3_readProduct 59 = .ok (.goto (-47), 3) := dk_i kdX3_readProduct_30 15 rfl
def ldX3_readProduct_62 : List (Nat × ClassFile.Instr × Nat) := [(62, .iconst 1, 1), (63, .ireturn, 1)]
theorem kdX3_readProduct_62 : dkO cX3_readProduct 62 ldX3_readProduct_62 = true := by decide +kernel
theorem dX3_readProduct_62 : decode cX3_readProduct 62 = .ok (.iconst 1, 1) := dk_i kdX3_readProduct_62 0 rfl
theorem dX3_readProduct_63 : decode cX3_readProduct 63 = .ok (.ireturn, 1) := dk_i kdX3_readProduct_62 1 rfl
def ldX3_productStep_0 : List (Nat × ClassFile.Instr × Nat) := [(0, .aload_n 0, 1), (1, .getfield 15, 3), (4, .getfield 30, 3), (7, .lookupswitch 42 #[(37, 39), (42, 33), (47, 36)], 33), (40, .bipush (-9), 2), (42, .ireturn, 1), (43, .bipush (-10), 2), (45, .ireturn, 1), (46, .bipush (-11), 2), (48, .ireturn, 1), (49, .iconst 0, 1), (50, .ireturn, 1)]
theorem kdX3_productStep_0 : dkO cX3_productStep 0 ldX3_productStep_0 = true := by decide +kernel
theorem dX3_productStep_0 : decode cX3_productStep 0 = .ok (.aload_n 0, 1) := dk_i kdX3_productStep_0 0 rfl
theorem dX3_productStep_1 : decode cX3_productStep 1 = .ok (.getfield 15, 3) := dk_i kdX3_productStep_0 1 rfl
theorem dX3_productStep_4 : decode cX3_productStep 4 = .ok (.getfield 30, 3) := dk_i kdX3_productStep_0 2 rfl
theorem dX3_productStep_7 : decode cX3_productStep 7 = .ok (.lookupswitch 42 #[(37, 39), (42, 33), (47, 36)], 33) := dk_i kdX3_productStep_0 3 rfl
theorem dX3_productStep_40 : decode cX3_productStep 40 = .ok (.bipush (-9), 2) := dk_i kdX3_productStep_0 4 rfl
theorem dX3_productStep_42 : decode cX3_productStep 42 = .ok (.ireturn, 1) := dk_i kdX3_productStep_0 5 rfl
theorem dX3_productStep_43 : decode cX3_productStep 43 = .ok (.bipush (-10), 2) := dk_i kdX3_productStep_0 6 rfl
theorem dX3_productStep_45 : decode cX3_productStep 45 = .ok (.ireturn, 1) := dk_i kdX3_productStep_0 7 rfl
theorem dX3_productStep_46 : decode cX3_productStep 46 = .ok (.bipush (-11), 2) := dk_i kdX3_productStep_0 8 rfl
theorem dX3_productStep_48 : decode cX3_productStep 48 = .ok (.ireturn, 1) := dk_i kdX3_productStep_0 9 rfl
theorem dX3_productStep_49 : decode cX3_productStep 49 = .ok (.iconst 0, 1) := dk_i kdX3_productStep_0 10 rfl
theorem dX3_productStep_50 : decode cX3_productStep 50 = .ok (.ireturn, 1) := dk_i kdX3_productStep_0 11 rfl
def ldX3_readPart_0 : List (Nat × ClassFile.Instr × Nat) := [(0, .aload_n 0, 1), (1, .getfield 15, 3), (4, .getfield 30, 3), (7, .lookupswitch 244 #[(40, 206), (256, 97), (261, 109), (262, 160), (263, 122), (275, 115), (276, 129), (277, 136), (278, 200), (283, 184), (284, 192)], 97), (104, .aload_n 0, 1), (105, .aload_n 0, 1), (106, .getfield 15, 3), (109, .getfield 69, 3), (112, .invokevirtual 72, 3), (115, .ireturn, 1), (116, .aload_n 0, 1), (117, .iconst (-1), 1), (118, .invokevirtual 72, 3), (121, .ireturn, 1), (122, .aload_n 0, 1), (123, .bipush (-2), 2)]
theorem kdX3_readPart_0 : dkO cX3_readPart 0 ldX3_readPart_0 = true := by decide +kernel
theorem dX3_readPart_0 : decode cX3_readPart 0 = .ok (.aload_n 0, 1) := dk_i kdX3_readPart_0 0 rfl
theorem dX3_readPart_1 : decode cX3_readPart 1 = .ok (.getfield 15, 3) := dk_i kdX3_readPart_0 1 rfl
theorem dX3_readPart_4 : decode cX3_readPart 4 = .ok (.getfield 30, 3) := dk_i kdX3_readPart_0 2 rfl
theorem dX3_readPart_7 : decode cX3_readPart 7 = .ok (.lookupswitch 244 #[(40, 206), (256, 97), (261, 109), (262, 160), (263, 122), (275, 115), (276, 129), (277, 136), (278, 200), (283, 184), (284, 192)], 97) := dk_i kdX3_readPart_0 3 rfl
theorem dX3_readPart_104 : decode cX3_readPart 104 = .ok (.aload_n 0, 1) := dk_i kdX3_readPart_0 4 rfl
theorem dX3_readPart_105 : decode cX3_readPart 105 = .ok (.aload_n 0, 1) := dk_i kdX3_readPart_0 5 rfl
theorem dX3_readPart_106 : decode cX3_readPart 106 = .ok (.getfield 15, 3) := dk_i kdX3_readPart_0 6 rfl
theorem dX3_readPart_109 : decode cX3_readPart 109 = .ok (.getfield 69, 3) := dk_i kdX3_readPart_0 7 rfl
theorem dX3_readPart_112 : decode cX3_readPart 112 = .ok (.invokevirtual 72, 3) := dk_i kdX3_readPart_0 8 rfl
theorem dX3_readPart_115 : decode cX3_readPart 115 = .ok (.ireturn, 1) := dk_i kdX3_readPart_0 9 rfl
theorem dX3_readPart_116 : decode cX3_readPart 116 = .ok (.aload_n 0, 1) := dk_i kdX3_readPart_0 10 rfl
theorem dX3_readPart_117 : decode cX3_readPart 117 = .ok (.iconst (-1), 1) := dk_i kdX3_readPart_0 11 rfl
theorem dX3_readPart_118 : decode cX3_readPart 118 = .ok (.invokevirtual 72, 3) := dk_i kdX3_readPart_0 12 rfl
theorem dX3_readPart_121 : decode cX3_readPart 121 = .ok (.ireturn, 1) := dk_i kdX3_readPart_0 13 rfl
theorem dX3_readPart_122 : decode cX3_readPart 122 = .ok (.aload_n 0, 1) := dk_i kdX3_readPart_0 14 rfl
theorem dX3_readPart_123 : decode cX3_readPart 123 = .ok (.bipush (-2), 2) := dk_i kdX3_readPart_0 15 rfl
def ldX3_readPart_125 : List (Nat × ClassFile.Instr × Nat) := [(125, .invokevirtual 72, 3), (128, .ireturn, 1), (129, .aload_n 0, 1), (130, .bipush (-3), 2), (132, .invokevirtual 72, 3), (135, .ireturn, 1), (136, .aload_n 0, 1), (137, .bipush (-4), 2), (139, .invokevirtual 72, 3), (142, .ireturn, 1), (143, .aload_n 0, 1), (144, .getfield 9, 3), (147, .ifCond .eq 13, 3), (150, .aload_n 0, 1), (151, .getfield 15, 3), (154, .invokevirtual 36, 3)]
theorem kdX3_readPart_125 : dkO cX3_readPart 125 ldX3_readPart_125 = true := by decide +kernel
theorem dX3_readPart_125 : decode cX3_readPart 125 = .ok (.invokevirtual 72, 3) := dk_i kdX3_readPart_125 0 rfl
theorem dX3_readPart_128 : decode cX3_readPart 128 = .ok (.ireturn, 1) := dk_i kdX3_readPart_125 1 rfl
theorem dX3_readPart_129 : decode cX3_readPart 129 = .ok (.aload_n 0, 1) := dk_i kdX3_readPart_125 2 rfl
theorem dX3_readPart_130 : decode cX3_readPart 130 = .ok (.bipush (-3), 2) := dk_i kdX3_readPart_125 3 rfl
theorem dX3_readPart_132 : decode cX3_readPart 132 = .ok (.invokevirtual 72, 3) := dk_i kdX3_readPart_125 4 rfl
theorem dX3_readPart_135 : decode cX3_readPart 135 = .ok (.ireturn, 1) := dk_i kdX3_readPart_125 5 rfl
theorem dX3_readPart_136 : decode cX3_readPart 136 = .ok (.aload_n 0, 1) := dk_i kdX3_readPart_125 6 rfl
theorem dX3_readPart_137 : decode cX3_readPart 137 = .ok (.bipush (-4), 2) := dk_i kdX3_readPart_125 7 rfl
theorem dX3_readPart_139 : decode cX3_readPart 139 = .ok (.invokevirtual 72, 3) := dk_i kdX3_readPart_125 8 rfl
theorem dX3_readPart_142 : decode cX3_readPart 142 = .ok (.ireturn, 1) := dk_i kdX3_readPart_125 9 rfl
theorem dX3_readPart_143 : decode cX3_readPart 143 = .ok (.aload_n 0, 1) := dk_i kdX3_readPart_125 10 rfl
theorem dX3_readPart_144 : decode cX3_readPart 144 = .ok (.getfield 9, 3) := dk_i kdX3_readPart_125 11 rfl
theorem dX3_readPart_147 : decode cX3_readPart 147 = .ok (.ifCond .eq 13, 3) := dk_i kdX3_readPart_125 12 rfl
theorem dX3_readPart_150 : decode cX3_readPart 150 = .ok (.aload_n 0, 1) := dk_i kdX3_readPart_125 13 rfl
theorem dX3_readPart_151 : decode cX3_readPart 151 = .ok (.getfield 15, 3) := dk_i kdX3_readPart_125 14 rfl
theorem dX3_readPart_154 : decode cX3_readPart 154 = .ok (.invokevirtual 36, 3) := dk_i kdX3_readPart_125 15 rfl
def ldX3_readPart_157 : List (Nat × ClassFile.Instr × Nat) := [(157, .goto 9, 3), (160, .aload_n 0, 1), (161, .bipush (-5), 2), (163, .invokevirtual 72, 3), (166, .ireturn, 1), (167, .aload_n 0, 1), (168, .getfield 9, 3), (171, .ifCond .eq 12, 3), (174, .aload_n 0, 1), (175, .bipush (-6), 2), (177, .invokevirtual 72, 3), (180, .goto 10, 3), (183, .aload_n 0, 1), (184, .getfield 15, 3), (187, .invokevirtual 36, 3), (190, .ireturn, 1)]
theorem kdX3_readPart_157 : dkO cX3_readPart 157 ldX3_readPart_157 = true := by decide +kernel
theorem dX3_readPart_157 : decode cX3_readPart 157 = .ok (.goto 9, 3) := dk_i kdX3_readPart_157 0 rfl
theorem dX3_readPart_160 : decode cX3_readPart 160 = .ok (.aload_n 0, 1) := dk_i kdX3_readPart_157 1 rfl
theorem dX3_readPart_161 : decode cX3_readPart 161 = .ok (.bipush (-5), 2) := dk_i kdX3_readPart_157 2 rfl
theorem dX3_readPart_163 : decode cX3_readPart 163 = .ok (.invokevirtual 72, 3) := dk_i kdX3_readPart_157 3 rfl
theorem dX3_readPart_166 : decode cX3_readPart 166 = .ok (.ireturn, 1) := dk_i kdX3_readPart_157 4 rfl
theorem dX3_readPart_167 : decode cX3_readPart 167 = .ok (.aload_n 0, 1) := dk_i kdX3_readPart_157 5 rfl
theorem dX3_readPart_168 : decode cX3_readPart 168 = .ok (.getfield 9, 3) := dk_i kdX3_readPart_157 6 rfl
theorem dX3_readPart_171 : decode cX3_readPart 171 = .ok (.ifCond .eq 12, 3) := dk_i kdX3_readPart_157 7 rfl
theorem dX3_readPart_174 : decode cX3_readPart 174 = .ok (.aload_n 0, 1) := dk_i kdX3_readPart_157 8 rfl
theorem dX3_readPart_175 : decode cX3_readPart 175 = .ok (.bipush (-6), 2) := dk_i kdX3_readPart_157 9 rfl
theorem dX3_readPart_177 : decode cX3_readPart 177 = .ok (.invokevirtual 72, 3) := dk_i kdX3_readPart_157 10 rfl
theorem dX3_readPart_180 : decode cX3_readPart 180 = .ok (.goto 10, 3) := dk_i kdX3_readPart_157 11 rfl
theorem dX3_readPart_183 : decode cX3_readPart 183 = .ok (.aload_n 0, 1) := dk_i kdX3_readPart_157 12 rfl
theorem dX3_readPart_184 : decode cX3_readPart 184 = .ok (.getfield 15, 3) := dk_i kdX3_readPart_157 13 rfl
theorem dX3_readPart_187 : decode cX3_readPart 187 = .ok (.invokevirtual 36, 3) := dk_i kdX3_readPart_157 14 rfl
theorem dX3_readPart_190 : decode cX3_readPart 190 = .ok (.ireturn, 1) := dk_i kdX3_readPart_157 15 rfl
def ldX3_readPart_191 : List (Nat × ClassFile.Instr × Nat) := [(191, .aload_n 0, 1), (192, .iload_n 1, 1), (193, .bipush (-12), 2), (195, .invokevirtual 75, 3), (198, .ireturn, 1), (199, .aload_n 0, 1), (200, .iload_n 1, 1), (201, .bipush (-13), 2), (203, .invokevirtual 75, 3), (206, .ireturn, 1), (207, .aload_n 0, 1), (208, .iload_n 1, 1), (209, .invokevirtual 78, 3), (212, .ireturn, 1), (213, .aload_n 0, 1), (214, .bipush 40, 2)]
theorem kdX3_readPart_191 : dkO cX3_readPart 191 ldX3_readPart_191 = true := by decide +kernel
theorem dX3_readPart_191 : decode cX3_readPart 191 = .ok (.aload_n 0, 1) := dk_i kdX3_readPart_191 0 rfl
theorem dX3_readPart_192 : decode cX3_readPart 192 = .ok (.iload_n 1, 1) := dk_i kdX3_readPart_191 1 rfl
theorem dX3_readPart_193 : decode cX3_readPart 193 = .ok (.bipush (-12), 2) := dk_i kdX3_readPart_191 2 rfl
theorem dX3_readPart_195 : decode cX3_readPart 195 = .ok (.invokevirtual 75, 3) := dk_i kdX3_readPart_191 3 rfl
theorem dX3_readPart_198 : decode cX3_readPart 198 = .ok (.ireturn, 1) := dk_i kdX3_readPart_191 4 rfl
theorem dX3_readPart_199 : decode cX3_readPart 199 = .ok (.aload_n 0, 1) := dk_i kdX3_readPart_191 5 rfl
theorem dX3_readPart_200 : decode cX3_readPart 200 = .ok (.iload_n 1, 1) := dk_i kdX3_readPart_191 6 rfl
theorem dX3_readPart_201 : decode cX3_readPart 201 = .ok (.bipush (-13), 2) := dk_i kdX3_readPart_191 7 rfl
theorem dX3_readPart_203 : decode cX3_readPart 203 = .ok (.invokevirtual 75, 3) := dk_i kdX3_readPart_191 8 rfl
theorem dX3_readPart_206 : decode cX3_readPart 206 = .ok (.ireturn, 1) := dk_i kdX3_readPart_191 9 rfl
theorem dX3_readPart_207 : decode cX3_readPart 207 = .ok (.aload_n 0, 1) := dk_i kdX3_readPart_191 10 rfl
theorem dX3_readPart_208 : decode cX3_readPart 208 = .ok (.iload_n 1, 1) := dk_i kdX3_readPart_191 11 rfl
theorem dX3_readPart_209 : decode cX3_readPart 209 = .ok (.invokevirtual 78, 3) := dk_i kdX3_readPart_191 12 rfl
theorem dX3_readPart_212 : decode cX3_readPart 212 = .ok (.ireturn, 1) := dk_i kdX3_readPart_191 13 rfl
theorem dX3_readPart_213 : decode cX3_readPart 213 = .ok (.aload_n 0, 1) := dk_i kdX3_readPart_191 14 rfl
theorem dX3_readPart_214 : decode cX3_readPart 214 = .ok (.bipush 40, 2) := dk_i kdX3_readPart_191 15 rfl
def ldX3_readPart_216 : List (Nat × ClassFile.Instr × Nat) := [(216, .iload_n 1, 1), (217, .invokevirtual 81, 3), (220, .ifCond .eq 29, 3), (223, .aload_n 0, 1), (224, .iload_n 1, 1), (225, .iconst 1, 1), (226, .iadd, 1), (227, .invokevirtual 23, 3), (230, .ifCond .eq 19, 3), (233, .aload_n 0, 1), (234, .getfield 15, 3), (237, .bipush 41, 2), (239, .invokevirtual 84, 3), (242, .ifCond .eq 7, 3), (245, .iconst 1, 1), (246, .goto 4, 3)]
theorem kdX3_readPart_216 : dkO cX3_readPart 216 ldX3_readPart_216 = true := by decide +kernel
theorem dX3_readPart_216 : decode cX3_readPart 216 = .ok (.iload_n 1, 1) := dk_i kdX3_readPart_216 0 rfl
theorem dX3_readPart_217 : decode cX3_readPart 217 = .ok (.invokevirtual 81, 3) := dk_i kdX3_readPart_216 1 rfl
theorem dX3_readPart_220 : decode cX3_readPart 220 = .ok (.ifCond .eq 29, 3) := dk_i kdX3_readPart_216 2 rfl
theorem dX3_readPart_223 : decode cX3_readPart 223 = .ok (.aload_n 0, 1) := dk_i kdX3_readPart_216 3 rfl
theorem dX3_readPart_224 : decode cX3_readPart 224 = .ok (.iload_n 1, 1) := dk_i kdX3_readPart_216 4 rfl
theorem dX3_readPart_225 : decode cX3_readPart 225 = .ok (.iconst 1, 1) := dk_i kdX3_readPart_216 5 rfl
theorem dX3_readPart_226 : decode cX3_readPart 226 = .ok (.iadd, 1) := dk_i kdX3_readPart_216 6 rfl
theorem dX3_readPart_227 : decode cX3_readPart 227 = .ok (.invokevirtual 23, 3) := dk_i kdX3_readPart_216 7 rfl
theorem dX3_readPart_230 : decode cX3_readPart 230 = .ok (.ifCond .eq 19, 3) := dk_i kdX3_readPart_216 8 rfl
theorem dX3_readPart_233 : decode cX3_readPart 233 = .ok (.aload_n 0, 1) := dk_i kdX3_readPart_216 9 rfl
theorem dX3_readPart_234 : decode cX3_readPart 234 = .ok (.getfield 15, 3) := dk_i kdX3_readPart_216 10 rfl
theorem dX3_readPart_237 : decode cX3_readPart 237 = .ok (.bipush 41, 2) := dk_i kdX3_readPart_216 11 rfl
theorem dX3_readPart_239 : decode cX3_readPart 239 = .ok (.invokevirtual 84, 3) := dk_i kdX3_readPart_216 12 rfl
theorem dX3_readPart_242 : decode cX3_readPart 242 = .ok (.ifCond .eq 7, 3) := dk_i kdX3_readPart_216 13 rfl
theorem dX3_readPart_245 : decode cX3_readPart 245 = .ok (.iconst 1, 1) := dk_i kdX3_readPart_216 14 rfl
theorem dX3_readPart_246 : decode cX3_readPart 246 = .ok (.goto 4, 3) := dk_i kdX3_readPart_216 15 rfl
def ldX3_readPart_249 : List (Nat × ClassFile.Instr × Nat) := [(249, .iconst 0, 1), (250, .ireturn, 1), (251, .aload_n 0, 1), (252, .getfield 15, 3), (255, .invokevirtual 36, 3), (258, .ireturn, 1)]
theorem kdX3_readPart_249 : dkO cX3_readPart 249 ldX3_readPart_249 = true := by decide +kernel
theorem dX3_readPart_249 : decode cX3_readPart 249 = .ok (.iconst 0, 1) := dk_i kdX3_readPart_249 0 rfl
theorem dX3_readPart_250 : decode cX3_readPart 250 = .ok (.ireturn, 1) := dk_i kdX3_readPart_249 1 rfl
theorem dX3_readPart_251 : decode cX3_readPart 251 = .ok (.aload_n 0, 1) := dk_i kdX3_readPart_249 2 rfl
theorem dX3_readPart_252 : decode cX3_readPart 252 = .ok (.getfield 15, 3) := dk_i kdX3_readPart_249 3 rfl
theorem dX3_readPart_255 : decode cX3_readPart 255 = .ok (.invokevirtual 36, 3) := dk_i kdX3_readPart_249 4 rfl
theorem dX3_readPart_258 : decode cX3_readPart 258 = .ok (.ireturn, 1) := dk_i kdX3_readPart_249 5 rfl
def ldX3_addAndAdvance_0 : List (Nat × ClassFile.Instr × Nat) := [(0, .aload_n 0, 1), (1, .getfield 19, 3), (4, .iload_n 1, 1), (5, .invokevirtual 50, 3), (8, .aload_n 0, 1), (9, .getfield 15, 3), (12, .invokevirtual 47, 3), (15, .iconst 1, 1), (16, .ireturn, 1)]
theorem kdX3_addAndAdvance_0 : dkO cX3_addAndAdvance 0 ldX3_addAndAdvance_0 = true := by decide +kernel
theorem dX3_addAndAdvance_0 : decode cX3_addAndAdvance 0 = .ok (.aload_n 0, 1) := dk_i kdX3_addAndAdvance_0 0 rfl
theorem dX3_addAndAdvance_1 : decode cX3_addAndAdvance 1 = .ok (.getfield 19, 3) := dk_i kdX3_addAndAdvance_0 1 rfl
theorem dX3_addAndAdvance_4 : decode cX3_addAndAdvance 4 = .ok (.iload_n 1, 1) := dk_i kdX3_addAndAdvance_0 2 rfl
theorem dX3_addAndAdvance_5 : decode cX3_addAndAdvance 5 = .ok (.invokevirtual 50, 3) := dk_i kdX3_addAndAdvance_0 3 rfl
theorem dX3_addAndAdvance_8 : decode cX3_addAndAdvance 8 = .ok (.aload_n 0, 1) := dk_i kdX3_addAndAdvance_0 4 rfl
theorem dX3_addAndAdvance_9 : decode cX3_addAndAdvance 9 = .ok (.getfield 15, 3) := dk_i kdX3_addAndAdvance_0 5 rfl
theorem dX3_addAndAdvance_12 : decode cX3_addAndAdvance 12 = .ok (.invokevirtual 47, 3) := dk_i kdX3_addAndAdvance_0 6 rfl
theorem dX3_addAndAdvance_15 : decode cX3_addAndAdvance 15 = .ok (.iconst 1, 1) := dk_i kdX3_addAndAdvance_0 7 rfl
theorem dX3_addAndAdvance_16 : decode cX3_addAndAdvance 16 = .ok (.ireturn, 1) := dk_i kdX3_addAndAdvance_0 8 rfl
def ldX3_readPair_0 : List (Nat × ClassFile.Instr × Nat) := [(0, .aload_n 0, 1), (1, .getfield 15, 3), (4, .invokevirtual 47, 3), (7, .aload_n 0, 1), (8, .bipush 40, 2), (10, .iload_n 1, 1), (11, .invokevirtual 81, 3), (14, .ifCond .eq 59, 3), (17, .aload_n 0, 1), (18, .iload_n 1, 1), (19, .iconst 1, 1), (20, .iadd, 1), (21, .invokevirtual 23, 3), (24, .ifCond .eq 49, 3), (27, .aload_n 0, 1), (28, .getfield 15, 3)]
theorem kdX3_readPair_0 : dkO cX3_readPair 0 ldX3_readPair_0 = true := by decide +kernel
theorem dX3_readPair_0 : decode cX3_readPair 0 = .ok (.aload_n 0, 1) := dk_i kdX3_readPair_0 0 rfl
theorem dX3_readPair_1 : decode cX3_readPair 1 = .ok (.getfield 15, 3) := dk_i kdX3_readPair_0 1 rfl
theorem dX3_readPair_4 : decode cX3_readPair 4 = .ok (.invokevirtual 47, 3) := dk_i kdX3_readPair_0 2 rfl
theorem dX3_readPair_7 : decode cX3_readPair 7 = .ok (.aload_n 0, 1) := dk_i kdX3_readPair_0 3 rfl
theorem dX3_readPair_8 : decode cX3_readPair 8 = .ok (.bipush 40, 2) := dk_i kdX3_readPair_0 4 rfl
theorem dX3_readPair_10 : decode cX3_readPair 10 = .ok (.iload_n 1, 1) := dk_i kdX3_readPair_0 5 rfl
theorem dX3_readPair_11 : decode cX3_readPair 11 = .ok (.invokevirtual 81, 3) := dk_i kdX3_readPair_0 6 rfl
theorem dX3_readPair_14 : decode cX3_readPair 14 = .ok (.ifCond .eq 59, 3) := dk_i kdX3_readPair_0 7 rfl
theorem dX3_readPair_17 : decode cX3_readPair 17 = .ok (.aload_n 0, 1) := dk_i kdX3_readPair_0 8 rfl
theorem dX3_readPair_18 : decode cX3_readPair 18 = .ok (.iload_n 1, 1) := dk_i kdX3_readPair_0 9 rfl
theorem dX3_readPair_19 : decode cX3_readPair 19 = .ok (.iconst 1, 1) := dk_i kdX3_readPair_0 10 rfl
theorem dX3_readPair_20 : decode cX3_readPair 20 = .ok (.iadd, 1) := dk_i kdX3_readPair_0 11 rfl
theorem dX3_readPair_21 : decode cX3_readPair 21 = .ok (.invokevirtual 23, 3) := dk_i kdX3_readPair_0 12 rfl
theorem dX3_readPair_24 : decode cX3_readPair 24 = .ok (.ifCond .eq 49, 3) := dk_i kdX3_readPair_0 13 rfl
theorem dX3_readPair_27 : decode cX3_readPair 27 = .ok (.aload_n 0, 1) := dk_i kdX3_readPair_0 14 rfl
theorem dX3_readPair_28 : decode cX3_readPair 28 = .ok (.getfield 15, 3) := dk_i kdX3_readPair_0 15 rfl
def ldX3_readPair_31 : List (Nat × ClassFile.Instr × Nat) := [(31, .bipush 44, 2), (33, .invokevirtual 84, 3), (36, .ifCond .eq 37, 3), (39, .aload_n 0, 1), (40, .iload_n 1, 1), (41, .iconst 1, 1), (42, .iadd, 1), (43, .invokevirtual 23, 3), (46, .ifCond .eq 27, 3), (49, .aload_n 0, 1), (50, .getfield 15, 3), (53, .bipush 41, 2), (55, .invokevirtual 84, 3), (58, .ifCond .eq 15, 3), (61, .aload_n 0, 1), (62, .iload_n 2, 1)]
theorem kdX3_readPair_31 : dkO cX3_readPair 31 ldX3_readPair_31 = true := by decide +kernel
theorem dX3_readPair_31 : decode cX3_readPair 31 = .ok (.bipush 44, 2) := dk_i kdX3_readPair_31 0 rfl
theorem dX3_readPair_33 : decode cX3_readPair 33 = .ok (.invokevirtual 84, 3) := dk_i kdX3_readPair_31 1 rfl
theorem dX3_readPair_36 : decode cX3_readPair 36 = .ok (.ifCond .eq 37, 3) := dk_i kdX3_readPair_31 2 rfl
theorem dX3_readPair_39 : decode cX3_readPair 39 = .ok (.aload_n 0, 1) := dk_i kdX3_readPair_31 3 rfl
theorem dX3_readPair_40 : decode cX3_readPair 40 = .ok (.iload_n 1, 1) := dk_i kdX3_readPair_31 4 rfl
theorem dX3_readPair_41 : decode cX3_readPair 41 = .ok (.iconst 1, 1) := dk_i kdX3_readPair_31 5 rfl
theorem dX3_readPair_42 : decode cX3_readPair 42 = .ok (.iadd, 1) := dk_i kdX3_readPair_31 6 rfl
theorem dX3_readPair_43 : decode cX3_readPair 43 = .ok (.invokevirtual 23, 3) := dk_i kdX3_readPair_31 7 rfl
theorem dX3_readPair_46 : decode cX3_readPair 46 = .ok (.ifCond .eq 27, 3) := dk_i kdX3_readPair_31 8 rfl
theorem dX3_readPair_49 : decode cX3_readPair 49 = .ok (.aload_n 0, 1) := dk_i kdX3_readPair_31 9 rfl
theorem dX3_readPair_50 : decode cX3_readPair 50 = .ok (.getfield 15, 3) := dk_i kdX3_readPair_31 10 rfl
theorem dX3_readPair_53 : decode cX3_readPair 53 = .ok (.bipush 41, 2) := dk_i kdX3_readPair_31 11 rfl
theorem dX3_readPair_55 : decode cX3_readPair 55 = .ok (.invokevirtual 84, 3) := dk_i kdX3_readPair_31 12 rfl
theorem dX3_readPair_58 : decode cX3_readPair 58 = .ok (.ifCond .eq 15, 3) := dk_i kdX3_readPair_31 13 rfl
theorem dX3_readPair_61 : decode cX3_readPair 61 = .ok (.aload_n 0, 1) := dk_i kdX3_readPair_31 14 rfl
theorem dX3_readPair_62 : decode cX3_readPair 62 = .ok (.iload_n 2, 1) := dk_i kdX3_readPair_31 15 rfl
def ldX3_readPair_63 : List (Nat × ClassFile.Instr × Nat) := [(63, .invokevirtual 87, 3), (66, .ifCond .eq 7, 3), (69, .iconst 1, 1), (70, .goto 4, 3), (73, .iconst 0, 1), (74, .ireturn, 1)]
theorem kdX3_readPair_63 : dkO cX3_readPair 63 ldX3_readPair_63 = true := by decide +kernel
theorem dX3_readPair_63 : decode cX3_readPair 63 = .ok (.invokevirtual 87, 3) := dk_i kdX3_readPair_63 0 rfl
theorem dX3_readPair_66 : decode cX3_readPair 66 = .ok (.ifCond .eq 7, 3) := dk_i kdX3_readPair_63 1 rfl
theorem dX3_readPair_69 : decode cX3_readPair 69 = .ok (.iconst 1, 1) := dk_i kdX3_readPair_63 2 rfl
theorem dX3_readPair_70 : decode cX3_readPair 70 = .ok (.goto 4, 3) := dk_i kdX3_readPair_63 3 rfl
theorem dX3_readPair_73 : decode cX3_readPair 73 = .ok (.iconst 0, 1) := dk_i kdX3_readPair_63 4 rfl
theorem dX3_readPair_74 : decode cX3_readPair 74 = .ok (.ireturn, 1) := dk_i kdX3_readPair_63 5 rfl
def ldX3_readChoice_0 : List (Nat × ClassFile.Instr × Nat) := [(0, .aload_n 0, 1), (1, .getfield 15, 3), (4, .invokevirtual 47, 3), (7, .aload_n 0, 1), (8, .bipush 40, 2), (10, .iload_n 1, 1), (11, .invokevirtual 81, 3), (14, .ifCond .eq 82, 3), (17, .aload_n 0, 1), (18, .iload_n 1, 1), (19, .iconst 1, 1), (20, .iadd, 1), (21, .invokevirtual 27, 3), (24, .ifCond .eq 72, 3), (27, .aload_n 0, 1), (28, .getfield 15, 3)]
theorem kdX3_readChoice_0 : dkO cX3_readChoice 0 ldX3_readChoice_0 = true := by decide +kernel
theorem dX3_readChoice_0 : decode cX3_readChoice 0 = .ok (.aload_n 0, 1) := dk_i kdX3_readChoice_0 0 rfl
theorem dX3_readChoice_1 : decode cX3_readChoice 1 = .ok (.getfield 15, 3) := dk_i kdX3_readChoice_0 1 rfl
theorem dX3_readChoice_4 : decode cX3_readChoice 4 = .ok (.invokevirtual 47, 3) := dk_i kdX3_readChoice_0 2 rfl
theorem dX3_readChoice_7 : decode cX3_readChoice 7 = .ok (.aload_n 0, 1) := dk_i kdX3_readChoice_0 3 rfl
theorem dX3_readChoice_8 : decode cX3_readChoice 8 = .ok (.bipush 40, 2) := dk_i kdX3_readChoice_0 4 rfl
theorem dX3_readChoice_10 : decode cX3_readChoice 10 = .ok (.iload_n 1, 1) := dk_i kdX3_readChoice_0 5 rfl
theorem dX3_readChoice_11 : decode cX3_readChoice 11 = .ok (.invokevirtual 81, 3) := dk_i kdX3_readChoice_0 6 rfl
theorem dX3_readChoice_14 : decode cX3_readChoice 14 = .ok (.ifCond .eq 82, 3) := dk_i kdX3_readChoice_0 7 rfl
theorem dX3_readChoice_17 : decode cX3_readChoice 17 = .ok (.aload_n 0, 1) := dk_i kdX3_readChoice_0 8 rfl
theorem dX3_readChoice_18 : decode cX3_readChoice 18 = .ok (.iload_n 1, 1) := dk_i kdX3_readChoice_0 9 rfl
theorem dX3_readChoice_19 : decode cX3_readChoice 19 = .ok (.iconst 1, 1) := dk_i kdX3_readChoice_0 10 rfl
theorem dX3_readChoice_20 : decode cX3_readChoice 20 = .ok (.iadd, 1) := dk_i kdX3_readChoice_0 11 rfl
theorem dX3_readChoice_21 : decode cX3_readChoice 21 = .ok (.invokevirtual 27, 3) := dk_i kdX3_readChoice_0 12 rfl
theorem dX3_readChoice_24 : decode cX3_readChoice 24 = .ok (.ifCond .eq 72, 3) := dk_i kdX3_readChoice_0 13 rfl
theorem dX3_readChoice_27 : decode cX3_readChoice 27 = .ok (.aload_n 0, 1) := dk_i kdX3_readChoice_0 14 rfl
theorem dX3_readChoice_28 : decode cX3_readChoice 28 = .ok (.getfield 15, 3) := dk_i kdX3_readChoice_0 15 rfl
def ldX3_readChoice_31 : List (Nat × ClassFile.Instr × Nat) := [(31, .bipush 44, 2), (33, .invokevirtual 84, 3), (36, .ifCond .eq 60, 3), (39, .aload_n 0, 1), (40, .iload_n 1, 1), (41, .iconst 1, 1), (42, .iadd, 1), (43, .invokevirtual 23, 3), (46, .ifCond .eq 50, 3), (49, .aload_n 0, 1), (50, .getfield 15, 3), (53, .bipush 44, 2), (55, .invokevirtual 84, 3), (58, .ifCond .eq 38, 3), (61, .aload_n 0, 1), (62, .iload_n 1, 1)]
theorem kdX3_readChoice_31 : dkO cX3_readChoice 31 ldX3_readChoice_31 = true := by decide +kernel
theorem dX3_readChoice_31 : decode cX3_readChoice 31 = .ok (.bipush 44, 2) := dk_i kdX3_readChoice_31 0 rfl
theorem dX3_readChoice_33 : decode cX3_readChoice 33 = .ok (.invokevirtual 84, 3) := dk_i kdX3_readChoice_31 1 rfl
theorem dX3_readChoice_36 : decode cX3_readChoice 36 = .ok (.ifCond .eq 60, 3) := dk_i kdX3_readChoice_31 2 rfl
theorem dX3_readChoice_39 : decode cX3_readChoice 39 = .ok (.aload_n 0, 1) := dk_i kdX3_readChoice_31 3 rfl
theorem dX3_readChoice_40 : decode cX3_readChoice 40 = .ok (.iload_n 1, 1) := dk_i kdX3_readChoice_31 4 rfl
theorem dX3_readChoice_41 : decode cX3_readChoice 41 = .ok (.iconst 1, 1) := dk_i kdX3_readChoice_31 5 rfl
theorem dX3_readChoice_42 : decode cX3_readChoice 42 = .ok (.iadd, 1) := dk_i kdX3_readChoice_31 6 rfl
theorem dX3_readChoice_43 : decode cX3_readChoice 43 = .ok (.invokevirtual 23, 3) := dk_i kdX3_readChoice_31 7 rfl
theorem dX3_readChoice_46 : decode cX3_readChoice 46 = .ok (.ifCond .eq 50, 3) := dk_i kdX3_readChoice_31 8 rfl
theorem dX3_readChoice_49 : decode cX3_readChoice 49 = .ok (.aload_n 0, 1) := dk_i kdX3_readChoice_31 9 rfl
theorem dX3_readChoice_50 : decode cX3_readChoice 50 = .ok (.getfield 15, 3) := dk_i kdX3_readChoice_31 10 rfl
theorem dX3_readChoice_53 : decode cX3_readChoice 53 = .ok (.bipush 44, 2) := dk_i kdX3_readChoice_31 11 rfl
theorem dX3_readChoice_55 : decode cX3_readChoice 55 = .ok (.invokevirtual 84, 3) := dk_i kdX3_readChoice_31 12 rfl
theorem dX3_readChoice_58 : decode cX3_readChoice 58 = .ok (.ifCond .eq 38, 3) := dk_i kdX3_readChoice_31 13 rfl
theorem dX3_readChoice_61 : decode cX3_readChoice 61 = .ok (.aload_n 0, 1) := dk_i kdX3_readChoice_31 14 rfl
theorem dX3_readChoice_62 : decode cX3_readChoice 62 = .ok (.iload_n 1, 1) := dk_i kdX3_readChoice_31 15 rfl
def ldX3_readChoice_63 : List (Nat × ClassFile.Instr × Nat) := [(63, .iconst 1, 1), (64, .iadd, 1), (65, .invokevirtual 23, 3), (68, .ifCond .eq 28, 3), (71, .aload_n 0, 1), (72, .getfield 15, 3), (75, .bipush 41, 2), (77, .invokevirtual 84, 3), (80, .ifCond .eq 16, 3), (83, .aload_n 0, 1), (84, .bipush (-14), 2), (86, .invokevirtual 87, 3), (89, .ifCond .eq 7, 3), (92, .iconst 1, 1), (93, .goto 4, 3), (96, .iconst 0, 1)]
theorem kdX3_readChoice_63 : dkO cX3_readChoice 63 ldX3_readChoice_63 = true := by decide +kernel
theorem dX3_readChoice_63 : decode cX3_readChoice 63 = .ok (.iconst 1, 1) := dk_i kdX3_readChoice_63 0 rfl
theorem dX3_readChoice_64 : decode cX3_readChoice 64 = .ok (.iadd, 1) := dk_i kdX3_readChoice_63 1 rfl
theorem dX3_readChoice_65 : decode cX3_readChoice 65 = .ok (.invokevirtual 23, 3) := dk_i kdX3_readChoice_63 2 rfl
theorem dX3_readChoice_68 : decode cX3_readChoice 68 = .ok (.ifCond .eq 28, 3) := dk_i kdX3_readChoice_63 3 rfl
theorem dX3_readChoice_71 : decode cX3_readChoice 71 = .ok (.aload_n 0, 1) := dk_i kdX3_readChoice_63 4 rfl
theorem dX3_readChoice_72 : decode cX3_readChoice 72 = .ok (.getfield 15, 3) := dk_i kdX3_readChoice_63 5 rfl
theorem dX3_readChoice_75 : decode cX3_readChoice 75 = .ok (.bipush 41, 2) := dk_i kdX3_readChoice_63 6 rfl
theorem dX3_readChoice_77 : decode cX3_readChoice 77 = .ok (.invokevirtual 84, 3) := dk_i kdX3_readChoice_63 7 rfl
theorem dX3_readChoice_80 : decode cX3_readChoice 80 = .ok (.ifCond .eq 16, 3) := dk_i kdX3_readChoice_63 8 rfl
theorem dX3_readChoice_83 : decode cX3_readChoice 83 = .ok (.aload_n 0, 1) := dk_i kdX3_readChoice_63 9 rfl
theorem dX3_readChoice_84 : decode cX3_readChoice 84 = .ok (.bipush (-14), 2) := dk_i kdX3_readChoice_63 10 rfl
theorem dX3_readChoice_86 : decode cX3_readChoice 86 = .ok (.invokevirtual 87, 3) := dk_i kdX3_readChoice_63 11 rfl
theorem dX3_readChoice_89 : decode cX3_readChoice 89 = .ok (.ifCond .eq 7, 3) := dk_i kdX3_readChoice_63 12 rfl
theorem dX3_readChoice_92 : decode cX3_readChoice 92 = .ok (.iconst 1, 1) := dk_i kdX3_readChoice_63 13 rfl
theorem dX3_readChoice_93 : decode cX3_readChoice 93 = .ok (.goto 4, 3) := dk_i kdX3_readChoice_63 14 rfl
theorem dX3_readChoice_96 : decode cX3_readChoice 96 = .ok (.iconst 0, 1) := dk_i kdX3_readChoice_63 15 rfl
def ldX3_readChoice_97 : List (Nat × ClassFile.Instr × Nat) := [(97, .ireturn, 1)]
theorem kdX3_readChoice_97 : dkO cX3_readChoice 97 ldX3_readChoice_97 = true := by decide +kernel
theorem dX3_readChoice_97 : decode cX3_readChoice 97 = .ok (.ireturn, 1) := dk_i kdX3_readChoice_97 0 rfl
def ldX3_readTest_0 : List (Nat × ClassFile.Instr × Nat) := [(0, .aload_n 0, 1), (1, .iload_n 1, 1), (2, .invokevirtual 89, 3), (5, .ifCond .ne 5, 3), (8, .iconst 0, 1), (9, .ireturn, 1), (10, .iconst 0, 1), (11, .istore_n 2, 1), (12, .iload_n 2, 1), (13, .sipush 1600, 3), (16, .if_icmp .ge 48, 3), (19, .aload_n 0, 1), (20, .getfield 15, 3), (23, .getfield 30, 3), (26, .sipush 279, 3), (29, .if_icmp .ne 35, 3)]
theorem kdX3_readTest_0 : dkO cX3_readTest 0 ldX3_readTest_0 = true := by decide +kernel
theorem dX3_readTest_0 : decode cX3_readTest 0 = .ok (.aload_n 0, 1) := dk_i kdX3_readTest_0 0 rfl
theorem dX3_readTest_1 : decode cX3_readTest 1 = .ok (.iload_n 1, 1) := dk_i kdX3_readTest_0 1 rfl
theorem dX3_readTest_2 : decode cX3_readTest 2 = .ok (.invokevirtual 89, 3) := dk_i kdX3_readTest_0 2 rfl
theorem dX3_readTest_5 : decode cX3_readTest 5 = .ok (.ifCond .ne 5, 3) := dk_i kdX3_readTest_0 3 rfl
theorem dX3_readTest_8 : decode cX3_readTest 8 = .ok (.iconst 0, 1) := dk_i kdX3_readTest_0 4 rfl
theorem dX3_readTest_9 : decode cX3_readTest 9 = .ok (.ireturn, 1) := dk_i kdX3_readTest_0 5 rfl
theorem dX3_readTest_10 : decode cX3_readTest 10 = .ok (.iconst 0, 1) := dk_i kdX3_readTest_0 6 rfl
theorem dX3_readTest_11 : decode cX3_readTest 11 = .ok (.istore_n 2, 1) := dk_i kdX3_readTest_0 7 rfl
theorem dX3_readTest_12 : decode cX3_readTest 12 = .ok (.iload_n 2, 1) := dk_i kdX3_readTest_0 8 rfl
theorem dX3_readTest_13 : decode cX3_readTest 13 = .ok (.sipush 1600, 3) := dk_i kdX3_readTest_0 9 rfl
theorem dX3_readTest_16 : decode cX3_readTest 16 = .ok (.if_icmp .ge 48, 3) := dk_i kdX3_readTest_0 10 rfl
theorem dX3_readTest_19 : decode cX3_readTest 19 = .ok (.aload_n 0, 1) := dk_i kdX3_readTest_0 11 rfl
theorem dX3_readTest_20 : decode cX3_readTest 20 = .ok (.getfield 15, 3) := dk_i kdX3_readTest_0 12 rfl
theorem dX3_readTest_23 : decode cX3_readTest 23 = .ok (.getfield 30, 3) := dk_i kdX3_readTest_0 13 rfl
theorem dX3_readTest_26 : decode cX3_readTest 26 = .ok (.sipush 279, 3) := dk_i kdX3_readTest_0 14 rfl
theorem dX3_readTest_29 : decode cX3_readTest 29 = .ok (.if_icmp .ne 35, 3) := dk_i kdX3_readTest_0 15 rfl
def ldX3_readTest_32 : List (Nat × ClassFile.Instr × Nat) := [(32, .aload_n 0, 1), (33, .getfield 15, 3), (36, .invokevirtual 47, 3), (39, .aload_n 0, 1), (40, .iload_n 1, 1), (41, .invokevirtual 89, 3), (44, .ifCond .ne 5, 3), (47, .iconst 0, 1), (48, .ireturn, 1), (49, .aload_n 0, 1), (50, .getfield 19, 3), (53, .bipush (-19), 2), (55, .invokevirtual 50, 3), (58, .iinc 2 1, 3), (61, .goto (-49), 3), (64, .iconst 1, 1)]
theorem kdX3_readTest_32 : dkO cX3_readTest 32 ldX3_readTest_32 = true := by decide +kernel
theorem dX3_readTest_32 : decode cX3_readTest 32 = .ok (.aload_n 0, 1) := dk_i kdX3_readTest_32 0 rfl
theorem dX3_readTest_33 : decode cX3_readTest 33 = .ok (.getfield 15, 3) := dk_i kdX3_readTest_32 1 rfl
theorem dX3_readTest_36 : decode cX3_readTest 36 = .ok (.invokevirtual 47, 3) := dk_i kdX3_readTest_32 2 rfl
theorem dX3_readTest_39 : decode cX3_readTest 39 = .ok (.aload_n 0, 1) := dk_i kdX3_readTest_32 3 rfl
theorem dX3_readTest_40 : decode cX3_readTest 40 = .ok (.iload_n 1, 1) := dk_i kdX3_readTest_32 4 rfl
theorem dX3_readTest_41 : decode cX3_readTest 41 = .ok (.invokevirtual 89, 3) := dk_i kdX3_readTest_32 5 rfl
theorem dX3_readTest_44 : decode cX3_readTest 44 = .ok (.ifCond .ne 5, 3) := dk_i kdX3_readTest_32 6 rfl
theorem dX3_readTest_47 : decode cX3_readTest 47 = .ok (.iconst 0, 1) := dk_i kdX3_readTest_32 7 rfl
theorem dX3_readTest_48 : decode cX3_readTest 48 = .ok (.ireturn, 1) := dk_i kdX3_readTest_32 8 rfl
theorem dX3_readTest_49 : decode cX3_readTest 49 = .ok (.aload_n 0, 1) := dk_i kdX3_readTest_32 9 rfl
theorem dX3_readTest_50 : decode cX3_readTest 50 = .ok (.getfield 19, 3) := dk_i kdX3_readTest_32 10 rfl
theorem dX3_readTest_53 : decode cX3_readTest 53 = .ok (.bipush (-19), 2) := dk_i kdX3_readTest_32 11 rfl
theorem dX3_readTest_55 : decode cX3_readTest 55 = .ok (.invokevirtual 50, 3) := dk_i kdX3_readTest_32 12 rfl
theorem dX3_readTest_58 : decode cX3_readTest 58 = .ok (.iinc 2 1, 3) := dk_i kdX3_readTest_32 13 rfl
theorem dX3_readTest_61 : decode cX3_readTest 61 = .ok (.goto (-49), 3) := dk_i kdX3_readTest_32 14 rfl
theorem dX3_readTest_64 : decode cX3_readTest 64 = .ok (.iconst 1, 1) := dk_i kdX3_readTest_32 15 rfl
def ldX3_readTest_65 : List (Nat × ClassFile.Instr × Nat) := [(65, .ireturn, 1)]
theorem kdX3_readTest_65 : dkO cX3_readTest 65 ldX3_readTest_65 = true := by decide +kernel
theorem dX3_readTest_65 : decode cX3_readTest 65 = .ok (.ireturn, 1) := dk_i kdX3_readTest_65 0 rfl
def ldX3_readBoth_0 : List (Nat × ClassFile.Instr × Nat) := [(0, .aload_n 0, 1), (1, .iload_n 1, 1), (2, .invokevirtual 92, 3), (5, .ifCond .ne 5, 3), (8, .iconst 0, 1), (9, .ireturn, 1), (10, .iconst 0, 1), (11, .istore_n 2, 1), (12, .iload_n 2, 1), (13, .sipush 1600, 3), (16, .if_icmp .ge 48, 3), (19, .aload_n 0, 1), (20, .getfield 15, 3), (23, .getfield 30, 3), (26, .sipush 280, 3), (29, .if_icmp .ne 35, 3)]
theorem kdX3_readBoth_0 : dkO cX3_readBoth 0 ldX3_readBoth_0 = true := by decide +kernel
theorem dX3_readBoth_0 : decode cX3_readBoth 0 = .ok (.aload_n 0, 1) := dk_i kdX3_readBoth_0 0 rfl
theorem dX3_readBoth_1 : decode cX3_readBoth 1 = .ok (.iload_n 1, 1) := dk_i kdX3_readBoth_0 1 rfl
theorem dX3_readBoth_2 : decode cX3_readBoth 2 = .ok (.invokevirtual 92, 3) := dk_i kdX3_readBoth_0 2 rfl
theorem dX3_readBoth_5 : decode cX3_readBoth 5 = .ok (.ifCond .ne 5, 3) := dk_i kdX3_readBoth_0 3 rfl
theorem dX3_readBoth_8 : decode cX3_readBoth 8 = .ok (.iconst 0, 1) := dk_i kdX3_readBoth_0 4 rfl
theorem dX3_readBoth_9 : decode cX3_readBoth 9 = .ok (.ireturn, 1) := dk_i kdX3_readBoth_0 5 rfl
theorem dX3_readBoth_10 : decode cX3_readBoth 10 = .ok (.iconst 0, 1) := dk_i kdX3_readBoth_0 6 rfl
theorem dX3_readBoth_11 : decode cX3_readBoth 11 = .ok (.istore_n 2, 1) := dk_i kdX3_readBoth_0 7 rfl
theorem dX3_readBoth_12 : decode cX3_readBoth 12 = .ok (.iload_n 2, 1) := dk_i kdX3_readBoth_0 8 rfl
theorem dX3_readBoth_13 : decode cX3_readBoth 13 = .ok (.sipush 1600, 3) := dk_i kdX3_readBoth_0 9 rfl
theorem dX3_readBoth_16 : decode cX3_readBoth 16 = .ok (.if_icmp .ge 48, 3) := dk_i kdX3_readBoth_0 10 rfl
theorem dX3_readBoth_19 : decode cX3_readBoth 19 = .ok (.aload_n 0, 1) := dk_i kdX3_readBoth_0 11 rfl
theorem dX3_readBoth_20 : decode cX3_readBoth 20 = .ok (.getfield 15, 3) := dk_i kdX3_readBoth_0 12 rfl
theorem dX3_readBoth_23 : decode cX3_readBoth 23 = .ok (.getfield 30, 3) := dk_i kdX3_readBoth_0 13 rfl
theorem dX3_readBoth_26 : decode cX3_readBoth 26 = .ok (.sipush 280, 3) := dk_i kdX3_readBoth_0 14 rfl
theorem dX3_readBoth_29 : decode cX3_readBoth 29 = .ok (.if_icmp .ne 35, 3) := dk_i kdX3_readBoth_0 15 rfl
def ldX3_readBoth_32 : List (Nat × ClassFile.Instr × Nat) := [(32, .aload_n 0, 1), (33, .getfield 15, 3), (36, .invokevirtual 47, 3), (39, .aload_n 0, 1), (40, .iload_n 1, 1), (41, .invokevirtual 92, 3), (44, .ifCond .ne 5, 3), (47, .iconst 0, 1), (48, .ireturn, 1), (49, .aload_n 0, 1), (50, .getfield 19, 3), (53, .bipush (-18), 2), (55, .invokevirtual 50, 3), (58, .iinc 2 1, 3), (61, .goto (-49), 3), (64, .iconst 1, 1)]
theorem kdX3_readBoth_32 : dkO cX3_readBoth 32 ldX3_readBoth_32 = true := by decide +kernel
theorem dX3_readBoth_32 : decode cX3_readBoth 32 = .ok (.aload_n 0, 1) := dk_i kdX3_readBoth_32 0 rfl
theorem dX3_readBoth_33 : decode cX3_readBoth 33 = .ok (.getfield 15, 3) := dk_i kdX3_readBoth_32 1 rfl
theorem dX3_readBoth_36 : decode cX3_readBoth 36 = .ok (.invokevirtual 47, 3) := dk_i kdX3_readBoth_32 2 rfl
theorem dX3_readBoth_39 : decode cX3_readBoth 39 = .ok (.aload_n 0, 1) := dk_i kdX3_readBoth_32 3 rfl
theorem dX3_readBoth_40 : decode cX3_readBoth 40 = .ok (.iload_n 1, 1) := dk_i kdX3_readBoth_32 4 rfl
theorem dX3_readBoth_41 : decode cX3_readBoth 41 = .ok (.invokevirtual 92, 3) := dk_i kdX3_readBoth_32 5 rfl
theorem dX3_readBoth_44 : decode cX3_readBoth 44 = .ok (.ifCond .ne 5, 3) := dk_i kdX3_readBoth_32 6 rfl
theorem dX3_readBoth_47 : decode cX3_readBoth 47 = .ok (.iconst 0, 1) := dk_i kdX3_readBoth_32 7 rfl
theorem dX3_readBoth_48 : decode cX3_readBoth 48 = .ok (.ireturn, 1) := dk_i kdX3_readBoth_32 8 rfl
theorem dX3_readBoth_49 : decode cX3_readBoth 49 = .ok (.aload_n 0, 1) := dk_i kdX3_readBoth_32 9 rfl
theorem dX3_readBoth_50 : decode cX3_readBoth 50 = .ok (.getfield 19, 3) := dk_i kdX3_readBoth_32 10 rfl
theorem dX3_readBoth_53 : decode cX3_readBoth 53 = .ok (.bipush (-18), 2) := dk_i kdX3_readBoth_32 11 rfl
theorem dX3_readBoth_55 : decode cX3_readBoth 55 = .ok (.invokevirtual 50, 3) := dk_i kdX3_readBoth_32 12 rfl
theorem dX3_readBoth_58 : decode cX3_readBoth 58 = .ok (.iinc 2 1, 3) := dk_i kdX3_readBoth_32 13 rfl
theorem dX3_readBoth_61 : decode cX3_readBoth 61 = .ok (.goto (-49), 3) := dk_i kdX3_readBoth_32 14 rfl
theorem dX3_readBoth_64 : decode cX3_readBoth 64 = .ok (.iconst 1, 1) := dk_i kdX3_readBoth_32 15 rfl
def ldX3_readBoth_65 : List (Nat × ClassFile.Instr × Nat) := [(65, .ireturn, 1)]
theorem kdX3_readBoth_65 : dkO cX3_readBoth 65 ldX3_readBoth_65 = true := by decide +kernel
theorem dX3_readBoth_65 : decode cX3_readBoth 65 = .ok (.ireturn, 1) := dk_i kdX3_readBoth_65 0 rfl
def ldX3_readFact_0 : List (Nat × ClassFile.Instr × Nat) := [(0, .aload_n 0, 1), (1, .getfield 15, 3), (4, .getfield 30, 3), (7, .lookupswitch 121 #[(91, 77), (281, 33), (282, 115)], 33), (40, .aload_n 0, 1), (41, .sipush 281, 3), (44, .iload_n 1, 1), (45, .invokevirtual 81, 3), (48, .ifCond .eq 34, 3), (51, .aload_n 0, 1), (52, .iload_n 1, 1), (53, .iconst 1, 1), (54, .iadd, 1), (55, .invokevirtual 92, 3), (58, .ifCond .eq 24, 3), (61, .aload_n 0, 1)]
theorem kdX3_readFact_0 : dkO cX3_readFact 0 ldX3_readFact_0 = true := by decide +kernel
theorem dX3_readFact_0 : decode cX3_readFact 0 = .ok (.aload_n 0, 1) := dk_i kdX3_readFact_0 0 rfl
theorem dX3_readFact_1 : decode cX3_readFact 1 = .ok (.getfield 15, 3) := dk_i kdX3_readFact_0 1 rfl
theorem dX3_readFact_4 : decode cX3_readFact 4 = .ok (.getfield 30, 3) := dk_i kdX3_readFact_0 2 rfl
theorem dX3_readFact_7 : decode cX3_readFact 7 = .ok (.lookupswitch 121 #[(91, 77), (281, 33), (282, 115)], 33) := dk_i kdX3_readFact_0 3 rfl
theorem dX3_readFact_40 : decode cX3_readFact 40 = .ok (.aload_n 0, 1) := dk_i kdX3_readFact_0 4 rfl
theorem dX3_readFact_41 : decode cX3_readFact 41 = .ok (.sipush 281, 3) := dk_i kdX3_readFact_0 5 rfl
theorem dX3_readFact_44 : decode cX3_readFact 44 = .ok (.iload_n 1, 1) := dk_i kdX3_readFact_0 6 rfl
theorem dX3_readFact_45 : decode cX3_readFact 45 = .ok (.invokevirtual 81, 3) := dk_i kdX3_readFact_0 7 rfl
theorem dX3_readFact_48 : decode cX3_readFact 48 = .ok (.ifCond .eq 34, 3) := dk_i kdX3_readFact_0 8 rfl
theorem dX3_readFact_51 : decode cX3_readFact 51 = .ok (.aload_n 0, 1) := dk_i kdX3_readFact_0 9 rfl
theorem dX3_readFact_52 : decode cX3_readFact 52 = .ok (.iload_n 1, 1) := dk_i kdX3_readFact_0 10 rfl
theorem dX3_readFact_53 : decode cX3_readFact 53 = .ok (.iconst 1, 1) := dk_i kdX3_readFact_0 11 rfl
theorem dX3_readFact_54 : decode cX3_readFact 54 = .ok (.iadd, 1) := dk_i kdX3_readFact_0 12 rfl
theorem dX3_readFact_55 : decode cX3_readFact 55 = .ok (.invokevirtual 92, 3) := dk_i kdX3_readFact_0 13 rfl
theorem dX3_readFact_58 : decode cX3_readFact 58 = .ok (.ifCond .eq 24, 3) := dk_i kdX3_readFact_0 14 rfl
theorem dX3_readFact_61 : decode cX3_readFact 61 = .ok (.aload_n 0, 1) := dk_i kdX3_readFact_0 15 rfl
def ldX3_readFact_62 : List (Nat × ClassFile.Instr × Nat) := [(62, .iconst 0, 1), (63, .invokevirtual 87, 3), (66, .ifCond .eq 16, 3), (69, .aload_n 0, 1), (70, .bipush (-17), 2), (72, .invokevirtual 87, 3), (75, .ifCond .eq 7, 3), (78, .iconst 1, 1), (79, .goto 4, 3), (82, .iconst 0, 1), (83, .ireturn, 1), (84, .aload_n 0, 1), (85, .bipush 91, 2), (87, .iload_n 1, 1), (88, .invokevirtual 81, 3), (91, .ifCond .eq 29, 3)]
theorem kdX3_readFact_62 : dkO cX3_readFact 62 ldX3_readFact_62 = true := by decide +kernel
theorem dX3_readFact_62 : decode cX3_readFact 62 = .ok (.iconst 0, 1) := dk_i kdX3_readFact_62 0 rfl
theorem dX3_readFact_63 : decode cX3_readFact 63 = .ok (.invokevirtual 87, 3) := dk_i kdX3_readFact_62 1 rfl
theorem dX3_readFact_66 : decode cX3_readFact 66 = .ok (.ifCond .eq 16, 3) := dk_i kdX3_readFact_62 2 rfl
theorem dX3_readFact_69 : decode cX3_readFact 69 = .ok (.aload_n 0, 1) := dk_i kdX3_readFact_62 3 rfl
theorem dX3_readFact_70 : decode cX3_readFact 70 = .ok (.bipush (-17), 2) := dk_i kdX3_readFact_62 4 rfl
theorem dX3_readFact_72 : decode cX3_readFact 72 = .ok (.invokevirtual 87, 3) := dk_i kdX3_readFact_62 5 rfl
theorem dX3_readFact_75 : decode cX3_readFact 75 = .ok (.ifCond .eq 7, 3) := dk_i kdX3_readFact_62 6 rfl
theorem dX3_readFact_78 : decode cX3_readFact 78 = .ok (.iconst 1, 1) := dk_i kdX3_readFact_62 7 rfl
theorem dX3_readFact_79 : decode cX3_readFact 79 = .ok (.goto 4, 3) := dk_i kdX3_readFact_62 8 rfl
theorem dX3_readFact_82 : decode cX3_readFact 82 = .ok (.iconst 0, 1) := dk_i kdX3_readFact_62 9 rfl
theorem dX3_readFact_83 : decode cX3_readFact 83 = .ok (.ireturn, 1) := dk_i kdX3_readFact_62 10 rfl
theorem dX3_readFact_84 : decode cX3_readFact 84 = .ok (.aload_n 0, 1) := dk_i kdX3_readFact_62 11 rfl
theorem dX3_readFact_85 : decode cX3_readFact 85 = .ok (.bipush 91, 2) := dk_i kdX3_readFact_62 12 rfl
theorem dX3_readFact_87 : decode cX3_readFact 87 = .ok (.iload_n 1, 1) := dk_i kdX3_readFact_62 13 rfl
theorem dX3_readFact_88 : decode cX3_readFact 88 = .ok (.invokevirtual 81, 3) := dk_i kdX3_readFact_62 14 rfl
theorem dX3_readFact_91 : decode cX3_readFact 91 = .ok (.ifCond .eq 29, 3) := dk_i kdX3_readFact_62 15 rfl
def ldX3_readFact_94 : List (Nat × ClassFile.Instr × Nat) := [(94, .aload_n 0, 1), (95, .iload_n 1, 1), (96, .iconst 1, 1), (97, .iadd, 1), (98, .invokevirtual 27, 3), (101, .ifCond .eq 19, 3), (104, .aload_n 0, 1), (105, .getfield 15, 3), (108, .bipush 93, 2), (110, .invokevirtual 84, 3), (113, .ifCond .eq 7, 3), (116, .iconst 1, 1), (117, .goto 4, 3), (120, .iconst 0, 1), (121, .ireturn, 1), (122, .aload_n 0, 1)]
theorem kdX3_readFact_94 : dkO cX3_readFact 94 ldX3_readFact_94 = true := by decide +kernel
theorem dX3_readFact_94 : decode cX3_readFact 94 = .ok (.aload_n 0, 1) := dk_i kdX3_readFact_94 0 rfl
theorem dX3_readFact_95 : decode cX3_readFact 95 = .ok (.iload_n 1, 1) := dk_i kdX3_readFact_94 1 rfl
theorem dX3_readFact_96 : decode cX3_readFact 96 = .ok (.iconst 1, 1) := dk_i kdX3_readFact_94 2 rfl
theorem dX3_readFact_97 : decode cX3_readFact 97 = .ok (.iadd, 1) := dk_i kdX3_readFact_94 3 rfl
theorem dX3_readFact_98 : decode cX3_readFact 98 = .ok (.invokevirtual 27, 3) := dk_i kdX3_readFact_94 4 rfl
theorem dX3_readFact_101 : decode cX3_readFact 101 = .ok (.ifCond .eq 19, 3) := dk_i kdX3_readFact_94 5 rfl
theorem dX3_readFact_104 : decode cX3_readFact 104 = .ok (.aload_n 0, 1) := dk_i kdX3_readFact_94 6 rfl
theorem dX3_readFact_105 : decode cX3_readFact 105 = .ok (.getfield 15, 3) := dk_i kdX3_readFact_94 7 rfl
theorem dX3_readFact_108 : decode cX3_readFact 108 = .ok (.bipush 93, 2) := dk_i kdX3_readFact_94 8 rfl
theorem dX3_readFact_110 : decode cX3_readFact 110 = .ok (.invokevirtual 84, 3) := dk_i kdX3_readFact_94 9 rfl
theorem dX3_readFact_113 : decode cX3_readFact 113 = .ok (.ifCond .eq 7, 3) := dk_i kdX3_readFact_94 10 rfl
theorem dX3_readFact_116 : decode cX3_readFact 116 = .ok (.iconst 1, 1) := dk_i kdX3_readFact_94 11 rfl
theorem dX3_readFact_117 : decode cX3_readFact 117 = .ok (.goto 4, 3) := dk_i kdX3_readFact_94 12 rfl
theorem dX3_readFact_120 : decode cX3_readFact 120 = .ok (.iconst 0, 1) := dk_i kdX3_readFact_94 13 rfl
theorem dX3_readFact_121 : decode cX3_readFact 121 = .ok (.ireturn, 1) := dk_i kdX3_readFact_94 14 rfl
theorem dX3_readFact_122 : decode cX3_readFact 122 = .ok (.aload_n 0, 1) := dk_i kdX3_readFact_94 15 rfl
def ldX3_readFact_123 : List (Nat × ClassFile.Instr × Nat) := [(123, .iconst 1, 1), (124, .invokevirtual 72, 3), (127, .ireturn, 1), (128, .aload_n 0, 1), (129, .iload_n 1, 1), (130, .invokevirtual 95, 3), (133, .ireturn, 1)]
theorem kdX3_readFact_123 : dkO cX3_readFact 123 ldX3_readFact_123 = true := by decide +kernel
theorem dX3_readFact_123 : decode cX3_readFact 123 = .ok (.iconst 1, 1) := dk_i kdX3_readFact_123 0 rfl
theorem dX3_readFact_124 : decode cX3_readFact 124 = .ok (.invokevirtual 72, 3) := dk_i kdX3_readFact_123 1 rfl
theorem dX3_readFact_127 : decode cX3_readFact 127 = .ok (.ireturn, 1) := dk_i kdX3_readFact_123 2 rfl
theorem dX3_readFact_128 : decode cX3_readFact 128 = .ok (.aload_n 0, 1) := dk_i kdX3_readFact_123 3 rfl
theorem dX3_readFact_129 : decode cX3_readFact 129 = .ok (.iload_n 1, 1) := dk_i kdX3_readFact_123 4 rfl
theorem dX3_readFact_130 : decode cX3_readFact 130 = .ok (.invokevirtual 95, 3) := dk_i kdX3_readFact_123 5 rfl
theorem dX3_readFact_133 : decode cX3_readFact 133 = .ok (.ireturn, 1) := dk_i kdX3_readFact_123 6 rfl
def ldX3_readComparison_0 : List (Nat × ClassFile.Instr × Nat) := [(0, .aload_n 0, 1), (1, .iload_n 1, 1), (2, .invokevirtual 23, 3), (5, .ifCond .ne 5, 3), (8, .iconst 0, 1), (9, .ireturn, 1), (10, .aload_n 0, 1), (11, .invokevirtual 98, 3), (14, .istore_n 2, 1), (15, .iload_n 2, 1), (16, .ifCond .ne 11, 3), (19, .aload_n 0, 1), (20, .getfield 15, 3), (23, .invokevirtual 36, 3), (26, .ireturn, 1), (27, .aload_n 0, 1)]
theorem kdX3_readComparison_0 : dkO cX3_readComparison 0 ldX3_readComparison_0 = true := by decide +kernel
theorem dX3_readComparison_0 : decode cX3_readComparison 0 = .ok (.aload_n 0, 1) := dk_i kdX3_readComparison_0 0 rfl
theorem dX3_readComparison_1 : decode cX3_readComparison 1 = .ok (.iload_n 1, 1) := dk_i kdX3_readComparison_0 1 rfl
theorem dX3_readComparison_2 : decode cX3_readComparison 2 = .ok (.invokevirtual 23, 3) := dk_i kdX3_readComparison_0 2 rfl
theorem dX3_readComparison_5 : decode cX3_readComparison 5 = .ok (.ifCond .ne 5, 3) := dk_i kdX3_readComparison_0 3 rfl
theorem dX3_readComparison_8 : decode cX3_readComparison 8 = .ok (.iconst 0, 1) := dk_i kdX3_readComparison_0 4 rfl
theorem dX3_readComparison_9 : decode cX3_readComparison 9 = .ok (.ireturn, 1) := dk_i kdX3_readComparison_0 5 rfl
theorem dX3_readComparison_10 : decode cX3_readComparison 10 = .ok (.aload_n 0, 1) := dk_i kdX3_readComparison_0 6 rfl
theorem dX3_readComparison_11 : decode cX3_readComparison 11 = .ok (.invokevirtual 98, 3) := dk_i kdX3_readComparison_0 7 rfl
theorem dX3_readComparison_14 : decode cX3_readComparison 14 = .ok (.istore_n 2, 1) := dk_i kdX3_readComparison_0 8 rfl
theorem dX3_readComparison_15 : decode cX3_readComparison 15 = .ok (.iload_n 2, 1) := dk_i kdX3_readComparison_0 9 rfl
theorem dX3_readComparison_16 : decode cX3_readComparison 16 = .ok (.ifCond .ne 11, 3) := dk_i kdX3_readComparison_0 10 rfl
theorem dX3_readComparison_19 : decode cX3_readComparison 19 = .ok (.aload_n 0, 1) := dk_i kdX3_readComparison_0 11 rfl
theorem dX3_readComparison_20 : decode cX3_readComparison 20 = .ok (.getfield 15, 3) := dk_i kdX3_readComparison_0 12 rfl
theorem dX3_readComparison_23 : decode cX3_readComparison 23 = .ok (.invokevirtual 36, 3) := dk_i kdX3_readComparison_0 13 rfl
theorem dX3_readComparison_26 : decode cX3_readComparison 26 = .ok (.ireturn, 1) := dk_i kdX3_readComparison_0 14 rfl
theorem dX3_readComparison_27 : decode cX3_readComparison 27 = .ok (.aload_n 0, 1) := dk_i kdX3_readComparison_0 15 rfl
def ldX3_readComparison_28 : List (Nat × ClassFile.Instr × Nat) := [(28, .getfield 15, 3), (31, .invokevirtual 47, 3), (34, .aload_n 0, 1), (35, .iload_n 1, 1), (36, .invokevirtual 23, 3), (39, .ifCond .eq 15, 3), (42, .aload_n 0, 1), (43, .iload_n 2, 1), (44, .invokevirtual 87, 3), (47, .ifCond .eq 7, 3), (50, .iconst 1, 1), (51, .goto 4, 3), (54, .iconst 0, 1), (55, .ireturn, 1)]
theorem kdX3_readComparison_28 : dkO cX3_readComparison 28 ldX3_readComparison_28 = true := by decide +kernel
theorem dX3_readComparison_28 : decode cX3_readComparison 28 = .ok (.getfield 15, 3) := dk_i kdX3_readComparison_28 0 rfl
theorem dX3_readComparison_31 : decode cX3_readComparison 31 = .ok (.invokevirtual 47, 3) := dk_i kdX3_readComparison_28 1 rfl
theorem dX3_readComparison_34 : decode cX3_readComparison 34 = .ok (.aload_n 0, 1) := dk_i kdX3_readComparison_28 2 rfl
theorem dX3_readComparison_35 : decode cX3_readComparison 35 = .ok (.iload_n 1, 1) := dk_i kdX3_readComparison_28 3 rfl
theorem dX3_readComparison_36 : decode cX3_readComparison 36 = .ok (.invokevirtual 23, 3) := dk_i kdX3_readComparison_28 4 rfl
theorem dX3_readComparison_39 : decode cX3_readComparison 39 = .ok (.ifCond .eq 15, 3) := dk_i kdX3_readComparison_28 5 rfl
theorem dX3_readComparison_42 : decode cX3_readComparison 42 = .ok (.aload_n 0, 1) := dk_i kdX3_readComparison_28 6 rfl
theorem dX3_readComparison_43 : decode cX3_readComparison 43 = .ok (.iload_n 2, 1) := dk_i kdX3_readComparison_28 7 rfl
theorem dX3_readComparison_44 : decode cX3_readComparison 44 = .ok (.invokevirtual 87, 3) := dk_i kdX3_readComparison_28 8 rfl
theorem dX3_readComparison_47 : decode cX3_readComparison 47 = .ok (.ifCond .eq 7, 3) := dk_i kdX3_readComparison_28 9 rfl
theorem dX3_readComparison_50 : decode cX3_readComparison 50 = .ok (.iconst 1, 1) := dk_i kdX3_readComparison_28 10 rfl
theorem dX3_readComparison_51 : decode cX3_readComparison 51 = .ok (.goto 4, 3) := dk_i kdX3_readComparison_28 11 rfl
theorem dX3_readComparison_54 : decode cX3_readComparison 54 = .ok (.iconst 0, 1) := dk_i kdX3_readComparison_28 12 rfl
theorem dX3_readComparison_55 : decode cX3_readComparison 55 = .ok (.ireturn, 1) := dk_i kdX3_readComparison_28 13 rfl
def ldX3_comparisonStep_0 : List (Nat × ClassFile.Instr × Nat) := [(0, .aload_n 0, 1), (1, .getfield 15, 3), (4, .getfield 30, 3), (7, .tableswitch 34 60 62 #[25, 31, 28], 25), (32, .bipush (-15), 2), (34, .ireturn, 1), (35, .bipush (-16), 2), (37, .ireturn, 1), (38, .bipush (-17), 2), (40, .ireturn, 1), (41, .iconst 0, 1), (42, .ireturn, 1)]
theorem kdX3_comparisonStep_0 : dkO cX3_comparisonStep 0 ldX3_comparisonStep_0 = true := by decide +kernel
theorem dX3_comparisonStep_0 : decode cX3_comparisonStep 0 = .ok (.aload_n 0, 1) := dk_i kdX3_comparisonStep_0 0 rfl
theorem dX3_comparisonStep_1 : decode cX3_comparisonStep 1 = .ok (.getfield 15, 3) := dk_i kdX3_comparisonStep_0 1 rfl
theorem dX3_comparisonStep_4 : decode cX3_comparisonStep 4 = .ok (.getfield 30, 3) := dk_i kdX3_comparisonStep_0 2 rfl
theorem dX3_comparisonStep_7 : decode cX3_comparisonStep 7 = .ok (.tableswitch 34 60 62 #[25, 31, 28], 25) := dk_i kdX3_comparisonStep_0 3 rfl
theorem dX3_comparisonStep_32 : decode cX3_comparisonStep 32 = .ok (.bipush (-15), 2) := dk_i kdX3_comparisonStep_0 4 rfl
theorem dX3_comparisonStep_34 : decode cX3_comparisonStep 34 = .ok (.ireturn, 1) := dk_i kdX3_comparisonStep_0 5 rfl
theorem dX3_comparisonStep_35 : decode cX3_comparisonStep 35 = .ok (.bipush (-16), 2) := dk_i kdX3_comparisonStep_0 6 rfl
theorem dX3_comparisonStep_37 : decode cX3_comparisonStep 37 = .ok (.ireturn, 1) := dk_i kdX3_comparisonStep_0 7 rfl
theorem dX3_comparisonStep_38 : decode cX3_comparisonStep 38 = .ok (.bipush (-17), 2) := dk_i kdX3_comparisonStep_0 8 rfl
theorem dX3_comparisonStep_40 : decode cX3_comparisonStep 40 = .ok (.ireturn, 1) := dk_i kdX3_comparisonStep_0 9 rfl
theorem dX3_comparisonStep_41 : decode cX3_comparisonStep 41 = .ok (.iconst 0, 1) := dk_i kdX3_comparisonStep_0 10 rfl
theorem dX3_comparisonStep_42 : decode cX3_comparisonStep 42 = .ok (.ireturn, 1) := dk_i kdX3_comparisonStep_0 11 rfl
end
