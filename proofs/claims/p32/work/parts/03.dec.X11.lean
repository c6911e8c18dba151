def ldX11_init_0 : List (Nat × ClassFile.Instr × Nat) := [(0, .aload_n 0, 1), (1, .invokespecial 3, 3), (4, .aload_n 0, 1), (5, .new 9, 3), (8, .dup, 1), (9, .invokespecial 11, 3), (12, .putfield 12, 3), (15, .aload_n 0, 1), (16, .new 16, 3), (19, .dup, 1), (20, .invokespecial 18, 3), (23, .putfield 19, 3), (26, .aload_n 0, 1), (27, .new 16, 3), (30, .dup, 1), (31, .invokespecial 18, 3)]
theorem kdX11_init_0 : dkO cX11_init 0 ldX11_init_0 = true := by decide +kernel
theorem dX11_init_0 : decode cX11_init 0 = .ok (.aload_n 0, 1) := dk_i kdX11_init_0 0 rfl
theorem dX11_init_1 : decode cX11_init 1 = .ok (.invokespecial 3, 3) := dk_i kdX11_init_0 1 rfl
theorem dX11_init_4 : decode cX11_init 4 = .ok (.aload_n 0, 1) := dk_i kdX11_init_0 2 rfl
theorem dX11_init_5 : decode cX11_init 5 = .ok (.new 9, 3) := dk_i kdX11_init_0 3 rfl
theorem dX11_init_8 : decode cX11_init 8 = .ok (.dup, 1) := dk_i kdX11_init_0 4 rfl
theorem dX11_init_9 : decode cX11_init 9 = .ok (.invokespecial 11, 3) := dk_i kdX11_init_0 5 rfl
theorem dX11_init_12 : decode cX11_init 12 = .ok (.putfield 12, 3) := dk_i kdX11_init_0 6 rfl
theorem dX11_init_15 : decode cX11_init 15 = .ok (.aload_n 0, 1) := dk_i kdX11_init_0 7 rfl
theorem dX11_init_16 : decode cX11_init 16 = .ok (.new 16, 3) := dk_i kdX11_init_0 8 rfl
theorem dX11_init_19 : decode cX11_init 19 = .ok (.dup, 1) := dk_i kdX11_init_0 9 rfl
theorem dX11_init_20 : decode cX11_init 20 = .ok (.invokespecial 18, 3) := dk_i kdX11_init_0 10 rfl
theorem dX11_init_23 : decode cX11_init 23 = .ok (.putfield 19, 3) := dk_i kdX11_init_0 11 rfl
theorem dX11_init_26 : decode cX11_init 26 = .ok (.aload_n 0, 1) := dk_i kdX11_init_0 12 rfl
theorem dX11_init_27 : decode cX11_init 27 = .ok (.new 16, 3) := dk_i kdX11_init_0 13 rfl
theorem dX11_init_30 : decode cX11_init 30 = .ok (.dup, 1) := dk_i kdX11_init_0 14 rfl
theorem dX11_init_31 : decode cX11_init 31 = .ok (.invokespecial 18, 3) := dk_i kdX11_init_0 15 rfl
def ldX11_init_34 : List (Nat × ClassFile.Instr × Nat) := [(34, .putfield 23, 3), (37, .aload_n 0, 1), (38, .new 26, 3), (41, .dup, 1), (42, .aload_n 0, 1), (43, .getfield 12, 3), (46, .aload_n 0, 1), (47, .getfield 23, 3), (50, .invokespecial 28, 3), (53, .putfield 31, 3), (56, .aload_n 0, 1), (57, .new 35, 3), (60, .dup, 1), (61, .aload_n 0, 1), (62, .getfield 19, 3), (65, .invokespecial 37, 3)]
theorem kdX11_init_34 : dkO cX11_init 34 ldX11_init_34 = true := by decide +kernel
theorem dX11_init_34 : decode cX11_init 34 = .ok (.putfield 23, 3) := dk_i kdX11_init_34 0 rfl
theorem dX11_init_37 : decode cX11_init 37 = .ok (.aload_n 0, 1) := dk_i kdX11_init_34 1 rfl
theorem dX11_init_38 : decode cX11_init 38 = .ok (.new 26, 3) := dk_i kdX11_init_34 2 rfl
theorem dX11_init_41 : decode cX11_init 41 = .ok (.dup, 1) := dk_i kdX11_init_34 3 rfl
theorem dX11_init_42 : decode cX11_init 42 = .ok (.aload_n 0, 1) := dk_i kdX11_init_34 4 rfl
theorem dX11_init_43 : decode cX11_init 43 = .ok (.getfield 12, 3) := dk_i kdX11_init_34 5 rfl
theorem dX11_init_46 : decode cX11_init 46 = .ok (.aload_n 0, 1) := dk_i kdX11_init_34 6 rfl
theorem dX11_init_47 : decode cX11_init 47 = .ok (.getfield 23, 3) := dk_i kdX11_init_34 7 rfl
theorem dX11_init_50 : decode cX11_init 50 = .ok (.invokespecial 28, 3) := dk_i kdX11_init_34 8 rfl
theorem dX11_init_53 : decode cX11_init 53 = .ok (.putfield 31, 3) := dk_i kdX11_init_34 9 rfl
theorem dX11_init_56 : decode cX11_init 56 = .ok (.aload_n 0, 1) := dk_i kdX11_init_34 10 rfl
theorem dX11_init_57 : decode cX11_init 57 = .ok (.new 35, 3) := dk_i kdX11_init_34 11 rfl
theorem dX11_init_60 : decode cX11_init 60 = .ok (.dup, 1) := dk_i kdX11_init_34 12 rfl
theorem dX11_init_61 : decode cX11_init 61 = .ok (.aload_n 0, 1) := dk_i kdX11_init_34 13 rfl
theorem dX11_init_62 : decode cX11_init 62 = .ok (.getfield 19, 3) := dk_i kdX11_init_34 14 rfl
theorem dX11_init_65 : decode cX11_init 65 = .ok (.invokespecial 37, 3) := dk_i kdX11_init_34 15 rfl
def ldX11_init_68 : List (Nat × ClassFile.Instr × Nat) := [(68, .putfield 40, 3), (71, .aload_n 0, 1), (72, .new 44, 3), (75, .dup, 1), (76, .aload_n 0, 1), (77, .getfield 19, 3), (80, .invokespecial 46, 3), (83, .putfield 47, 3), (86, .aload_n 0, 1), (87, .new 51, 3), (90, .dup, 1), (91, .invokespecial 53, 3), (94, .putfield 54, 3), (97, .aload_n 0, 1), (98, .new 58, 3), (101, .dup, 1)]
theorem kdX11_init_68 : dkO cX11_init 68 ldX11_init_68 = true := by decide +kernel
theorem dX11_init_68 : decode cX11_init 68 = .ok (.putfield 40, 3) := dk_i kdX11_init_68 0 rfl
theorem dX11_init_71 : decode cX11_init 71 = .ok (.aload_n 0, 1) := dk_i kdX11_init_68 1 rfl
theorem dX11_init_72 : decode cX11_init 72 = .ok (.new 44, 3) := dk_i kdX11_init_68 2 rfl
theorem dX11_init_75 : decode cX11_init 75 = .ok (.dup, 1) := dk_i kdX11_init_68 3 rfl
theorem dX11_init_76 : decode cX11_init 76 = .ok (.aload_n 0, 1) := dk_i kdX11_init_68 4 rfl
theorem dX11_init_77 : decode cX11_init 77 = .ok (.getfield 19, 3) := dk_i kdX11_init_68 5 rfl
theorem dX11_init_80 : decode cX11_init 80 = .ok (.invokespecial 46, 3) := dk_i kdX11_init_68 6 rfl
theorem dX11_init_83 : decode cX11_init 83 = .ok (.putfield 47, 3) := dk_i kdX11_init_68 7 rfl
theorem dX11_init_86 : decode cX11_init 86 = .ok (.aload_n 0, 1) := dk_i kdX11_init_68 8 rfl
theorem dX11_init_87 : decode cX11_init 87 = .ok (.new 51, 3) := dk_i kdX11_init_68 9 rfl
theorem dX11_init_90 : decode cX11_init 90 = .ok (.dup, 1) := dk_i kdX11_init_68 10 rfl
theorem dX11_init_91 : decode cX11_init 91 = .ok (.invokespecial 53, 3) := dk_i kdX11_init_68 11 rfl
theorem dX11_init_94 : decode cX11_init 94 = .ok (.putfield 54, 3) := dk_i kdX11_init_68 12 rfl
theorem dX11_init_97 : decode cX11_init 97 = .ok (.aload_n 0, 1) := dk_i kdX11_init_68 13 rfl
theorem dX11_init_98 : decode cX11_init 98 = .ok (.new 58, 3) := dk_i kdX11_init_68 14 rfl
theorem dX11_init_101 : decode cX11_init 101 = .ok (.dup, 1) := dk_i kdX11_init_68 15 rfl
def ldX11_init_102 : List (Nat × ClassFile.Instr × Nat) := [(102, .invokespecial 60, 3), (105, .putfield 61, 3), (108, .aload_n 0, 1), (109, .new 65, 3), (112, .dup, 1), (113, .invokespecial 67, 3), (116, .putfield 68, 3), (119, .aload_n 0, 1), (120, .bipush 61, 2), (122, .newarray .int, 2), (124, .putfield 72, 3), (127, .aload_n 0, 1), (128, .bipush 61, 2), (130, .newarray .int, 2), (132, .putfield 76, 3), (135, .aload_n 0, 1)]
theorem kdX11_init_102 : dkO cX11_init 102 ldX11_init_102 = true := by decide +kernel
theorem dX11_init_102 : decode cX11_init 102 = .ok (.invokespecial 60, 3) := dk_i kdX11_init_102 0 rfl
theorem dX11_init_105 : decode cX11_init 105 = .ok (.putfield 61, 3) := dk_i kdX11_init_102 1 rfl
theorem dX11_init_108 : decode cX11_init 108 = .ok (.aload_n 0, 1) := dk_i kdX11_init_102 2 rfl
theorem dX11_init_109 : decode cX11_init 109 = .ok (.new 65, 3) := dk_i kdX11_init_102 3 rfl
theorem dX11_init_112 : decode cX11_init 112 = .ok (.dup, 1) := dk_i kdX11_init_102 4 rfl
theorem dX11_init_113 : decode cX11_init 113 = .ok (.invokespecial 67, 3) := dk_i kdX11_init_102 5 rfl
theorem dX11_init_116 : decode cX11_init 116 = .ok (.putfield 68, 3) := dk_i kdX11_init_102 6 rfl
theorem dX11_init_119 : decode cX11_init 119 = .ok (.aload_n 0, 1) := dk_i kdX11_init_102 7 rfl
theorem dX11_init_120 : decode cX11_init 120 = .ok (.bipush 61, 2) := dk_i kdX11_init_102 8 rfl
theorem dX11_init_122 : decode cX11_init 122 = .ok (.newarray .int, 2) := dk_i kdX11_init_102 9 rfl
theorem dX11_init_124 : decode cX11_init 124 = .ok (.putfield 72, 3) := dk_i kdX11_init_102 10 rfl
theorem dX11_init_127 : decode cX11_init 127 = .ok (.aload_n 0, 1) := dk_i kdX11_init_102 11 rfl
theorem dX11_init_128 : decode cX11_init 128 = .ok (.bipush 61, 2) := dk_i kdX11_init_102 12 rfl
theorem dX11_init_130 : decode cX11_init 130 = .ok (.newarray .int, 2) := dk_i kdX11_init_102 13 rfl
theorem dX11_init_132 : decode cX11_init 132 = .ok (.putfield 76, 3) := dk_i kdX11_init_102 14 rfl
theorem dX11_init_135 : decode cX11_init 135 = .ok (.aload_n 0, 1) := dk_i kdX11_init_102 15 rfl
def ldX11_init_136 : List (Nat × ClassFile.Instr × Nat) := [(136, .iconst 5, 1), (137, .newarray .int, 2), (139, .putfield 79, 3), (142, .aload_n 0, 1), (143, .bipush 24, 2), (145, .newarray .int, 2), (147, .putfield 82, 3), (150, .aload_n 0, 1), (151, .bipush 6, 2), (153, .newarray .int, 2), (155, .putfield 85, 3), (158, .aload_n 0, 1), (159, .iconst 0, 1), (160, .putfield 88, 3), (163, .aload_n 0, 1), (164, .iconst 0, 1)]
theorem kdX11_init_136 : dkO cX11_init 136 ldX11_init_136 = true := by decide +kernel
theorem dX11_init_136 : decode cX11_init 136 = .ok (.iconst 5, 1) := dk_i kdX11_init_136 0 rfl
theorem dX11_init_137 : decode cX11_init 137 = .ok (.newarray .int, 2) := dk_i kdX11_init_136 1 rfl
theorem dX11_init_139 : decode cX11_init 139 = .ok (.putfield 79, 3) := dk_i kdX11_init_136 2 rfl
theorem dX11_init_142 : decode cX11_init 142 = .ok (.aload_n 0, 1) := dk_i kdX11_init_136 3 rfl
theorem dX11_init_143 : decode cX11_init 143 = .ok (.bipush 24, 2) := dk_i kdX11_init_136 4 rfl
theorem dX11_init_145 : decode cX11_init 145 = .ok (.newarray .int, 2) := dk_i kdX11_init_136 5 rfl
theorem dX11_init_147 : decode cX11_init 147 = .ok (.putfield 82, 3) := dk_i kdX11_init_136 6 rfl
theorem dX11_init_150 : decode cX11_init 150 = .ok (.aload_n 0, 1) := dk_i kdX11_init_136 7 rfl
theorem dX11_init_151 : decode cX11_init 151 = .ok (.bipush 6, 2) := dk_i kdX11_init_136 8 rfl
theorem dX11_init_153 : decode cX11_init 153 = .ok (.newarray .int, 2) := dk_i kdX11_init_136 9 rfl
theorem dX11_init_155 : decode cX11_init 155 = .ok (.putfield 85, 3) := dk_i kdX11_init_136 10 rfl
theorem dX11_init_158 : decode cX11_init 158 = .ok (.aload_n 0, 1) := dk_i kdX11_init_136 11 rfl
theorem dX11_init_159 : decode cX11_init 159 = .ok (.iconst 0, 1) := dk_i kdX11_init_136 12 rfl
theorem dX11_init_160 : decode cX11_init 160 = .ok (.putfield 88, 3) := dk_i kdX11_init_136 13 rfl
theorem dX11_init_163 : decode cX11_init 163 = .ok (.aload_n 0, 1) := dk_i kdX11_init_136 14 rfl
theorem dX11_init_164 : decode cX11_init 164 = .ok (.iconst 0, 1) := dk_i kdX11_init_136 15 rfl
def ldX11_init_165 : List (Nat × ClassFile.Instr × Nat) := [(165, .putfield 92, 3), (168, .aload_n 0, 1), (169, .iconst (-1), 1), (170, .putfield 95, 3), (173, .aload_n 0, 1), (174, .iconst 1, 1), (175, .putfield 98, 3), (178, .aload_n 0, 1), (179, .invokevirtual 101, 3), (182, .return_, 1)]
theorem kdX11_init_165 : dkO cX11_init 165 ldX11_init_165 = true := by decide +kernel
theorem dX11_init_165 : decode cX11_init 165 = .ok (.putfield 92, 3) := dk_i kdX11_init_165 0 rfl
theorem dX11_init_168 : decode cX11_init 168 = .ok (.aload_n 0, 1) := dk_i kdX11_init_165 1 rfl
theorem dX11_init_169 : decode cX11_init 169 = .ok (.iconst (-1), 1) := dk_i kdX11_init_165 2 rfl
theorem dX11_init_170 : decode cX11_init 170 = .ok (.putfield 95, 3) := dk_i kdX11_init_165 3 rfl
theorem dX11_init_173 : decode cX11_init 173 = .ok (.aload_n 0, 1) := dk_i kdX11_init_165 4 rfl
theorem dX11_init_174 : decode cX11_init 174 = .ok (.iconst 1, 1) := dk_i kdX11_init_165 5 rfl
theorem dX11_init_175 : decode cX11_init 175 = .ok (.putfield 98, 3) := dk_i kdX11_init_165 6 rfl
theorem dX11_init_178 : decode cX11_init 178 = .ok (.aload_n 0, 1) := dk_i kdX11_init_165 7 rfl
theorem dX11_init_179 : decode cX11_init 179 = .ok (.invokevirtual 101, 3) := dk_i kdX11_init_165 8 rfl
theorem dX11_init_182 : decode cX11_init 182 = .ok (.return_, 1) := dk_i kdX11_init_165 9 rfl
def ldX11_feed_0 : List (Nat × ClassFile.Instr × Nat) := [(0, .aload_n 0, 1), (1, .getfield 12, 3), (4, .bipush 20, 2), (6, .invokevirtual 104, 3), (9, .ifCond .ne 9, 3), (12, .aload_n 0, 1), (13, .iconst 0, 1), (14, .invokevirtual 108, 3), (17, .ireturn, 1), (18, .aload_n 0, 1), (19, .getfield 12, 3), (22, .iload_n 1, 1), (23, .invokevirtual 112, 3), (26, .aload_n 0, 1), (27, .getfield 12, 3), (30, .iload_n 2, 1)]
theorem kdX11_feed_0 : dkO cX11_feed 0 ldX11_feed_0 = true := by decide +kernel
theorem dX11_feed_0 : decode cX11_feed 0 = .ok (.aload_n 0, 1) := dk_i kdX11_feed_0 0 rfl
theorem dX11_feed_1 : decode cX11_feed 1 = .ok (.getfield 12, 3) := dk_i kdX11_feed_0 1 rfl
theorem dX11_feed_4 : decode cX11_feed 4 = .ok (.bipush 20, 2) := dk_i kdX11_feed_0 2 rfl
theorem dX11_feed_6 : decode cX11_feed 6 = .ok (.invokevirtual 104, 3) := dk_i kdX11_feed_0 3 rfl
theorem dX11_feed_9 : decode cX11_feed 9 = .ok (.ifCond .ne 9, 3) := dk_i kdX11_feed_0 4 rfl
theorem dX11_feed_12 : decode cX11_feed 12 = .ok (.aload_n 0, 1) := dk_i kdX11_feed_0 5 rfl
theorem dX11_feed_13 : decode cX11_feed 13 = .ok (.iconst 0, 1) := dk_i kdX11_feed_0 6 rfl
theorem dX11_feed_14 : decode cX11_feed 14 = .ok (.invokevirtual 108, 3) := dk_i kdX11_feed_0 7 rfl
theorem dX11_feed_17 : decode cX11_feed 17 = .ok (.ireturn, 1) := dk_i kdX11_feed_0 8 rfl
theorem dX11_feed_18 : decode cX11_feed 18 = .ok (.aload_n 0, 1) := dk_i kdX11_feed_0 9 rfl
theorem dX11_feed_19 : decode cX11_feed 19 = .ok (.getfield 12, 3) := dk_i kdX11_feed_0 10 rfl
theorem dX11_feed_22 : decode cX11_feed 22 = .ok (.iload_n 1, 1) := dk_i kdX11_feed_0 11 rfl
theorem dX11_feed_23 : decode cX11_feed 23 = .ok (.invokevirtual 112, 3) := dk_i kdX11_feed_0 12 rfl
theorem dX11_feed_26 : decode cX11_feed 26 = .ok (.aload_n 0, 1) := dk_i kdX11_feed_0 13 rfl
theorem dX11_feed_27 : decode cX11_feed 27 = .ok (.getfield 12, 3) := dk_i kdX11_feed_0 14 rfl
theorem dX11_feed_30 : decode cX11_feed 30 = .ok (.iload_n 2, 1) := dk_i kdX11_feed_0 15 rfl
def ldX11_feed_31 : List (Nat × ClassFile.Instr × Nat) := [(31, .invokevirtual 112, 3), (34, .aload_n 0, 1), (35, .getfield 12, 3), (38, .iload_n 3, 1), (39, .invokevirtual 112, 3), (42, .aload_n 0, 1), (43, .getfield 12, 3), (46, .iload 4, 2), (48, .invokevirtual 112, 3), (51, .aload_n 0, 1), (52, .getfield 12, 3), (55, .iload 5, 2), (57, .invokevirtual 112, 3), (60, .aload_n 0, 1), (61, .getfield 12, 3), (64, .getfield 116, 3)]
theorem kdX11_feed_31 : dkO cX11_feed 31 ldX11_feed_31 = true := by decide +kernel
theorem dX11_feed_31 : decode cX11_feed 31 = .ok (.invokevirtual 112, 3) := dk_i kdX11_feed_31 0 rfl
theorem dX11_feed_34 : decode cX11_feed 34 = .ok (.aload_n 0, 1) := dk_i kdX11_feed_31 1 rfl
theorem dX11_feed_35 : decode cX11_feed 35 = .ok (.getfield 12, 3) := dk_i kdX11_feed_31 2 rfl
theorem dX11_feed_38 : decode cX11_feed 38 = .ok (.iload_n 3, 1) := dk_i kdX11_feed_31 3 rfl
theorem dX11_feed_39 : decode cX11_feed 39 = .ok (.invokevirtual 112, 3) := dk_i kdX11_feed_31 4 rfl
theorem dX11_feed_42 : decode cX11_feed 42 = .ok (.aload_n 0, 1) := dk_i kdX11_feed_31 5 rfl
theorem dX11_feed_43 : decode cX11_feed 43 = .ok (.getfield 12, 3) := dk_i kdX11_feed_31 6 rfl
theorem dX11_feed_46 : decode cX11_feed 46 = .ok (.iload 4, 2) := dk_i kdX11_feed_31 7 rfl
theorem dX11_feed_48 : decode cX11_feed 48 = .ok (.invokevirtual 112, 3) := dk_i kdX11_feed_31 8 rfl
theorem dX11_feed_51 : decode cX11_feed 51 = .ok (.aload_n 0, 1) := dk_i kdX11_feed_31 9 rfl
theorem dX11_feed_52 : decode cX11_feed 52 = .ok (.getfield 12, 3) := dk_i kdX11_feed_31 10 rfl
theorem dX11_feed_55 : decode cX11_feed 55 = .ok (.iload 5, 2) := dk_i kdX11_feed_31 11 rfl
theorem dX11_feed_57 : decode cX11_feed 57 = .ok (.invokevirtual 112, 3) := dk_i kdX11_feed_31 12 rfl
theorem dX11_feed_60 : decode cX11_feed 60 = .ok (.aload_n 0, 1) := dk_i kdX11_feed_31 13 rfl
theorem dX11_feed_61 : decode cX11_feed 61 = .ok (.getfield 12, 3) := dk_i kdX11_feed_31 14 rfl
theorem dX11_feed_64 : decode cX11_feed 64 = .ok (.getfield 116, 3) := dk_i kdX11_feed_31 15 rfl
def ldX11_feed_67 : List (Nat × ClassFile.Instr × Nat) := [(67, .ireturn, 1)]
theorem kdX11_feed_67 : dkO cX11_feed 67 ldX11_feed_67 = true := by decide +kernel
theorem dX11_feed_67 : decode cX11_feed 67 = .ok (.ireturn, 1) := dk_i kdX11_feed_67 0 rfl
def ldX11_end_0 : List (Nat × ClassFile.Instr × Nat) := [(0, .iload_n 1, 1), (1, .ifCond .lt 14, 3), (4, .iload_n 1, 1), (5, .aload_n 0, 1), (6, .getfield 12, 3), (9, .getfield 116, 3), (12, .if_icmp .le 11, 3), (15, .aload_n 0, 1), (16, .iconst 0, 1), (17, .invokevirtual 108, 3), (20, .pop, 1), (21, .iconst 0, 1), (22, .ireturn, 1), (23, .aload_n 0, 1), (24, .getfield 12, 3), (27, .iload_n 1, 1)]
theorem kdX11_end_0 : dkO cX11_end 0 ldX11_end_0 = true := by decide +kernel
theorem dX11_end_0 : decode cX11_end 0 = .ok (.iload_n 1, 1) := dk_i kdX11_end_0 0 rfl
theorem dX11_end_1 : decode cX11_end 1 = .ok (.ifCond .lt 14, 3) := dk_i kdX11_end_0 1 rfl
theorem dX11_end_4 : decode cX11_end 4 = .ok (.iload_n 1, 1) := dk_i kdX11_end_0 2 rfl
theorem dX11_end_5 : decode cX11_end 5 = .ok (.aload_n 0, 1) := dk_i kdX11_end_0 3 rfl
theorem dX11_end_6 : decode cX11_end 6 = .ok (.getfield 12, 3) := dk_i kdX11_end_0 4 rfl
theorem dX11_end_9 : decode cX11_end 9 = .ok (.getfield 116, 3) := dk_i kdX11_end_0 5 rfl
theorem dX11_end_12 : decode cX11_end 12 = .ok (.if_icmp .le 11, 3) := dk_i kdX11_end_0 6 rfl
theorem dX11_end_15 : decode cX11_end 15 = .ok (.aload_n 0, 1) := dk_i kdX11_end_0 7 rfl
theorem dX11_end_16 : decode cX11_end 16 = .ok (.iconst 0, 1) := dk_i kdX11_end_0 8 rfl
theorem dX11_end_17 : decode cX11_end 17 = .ok (.invokevirtual 108, 3) := dk_i kdX11_end_0 9 rfl
theorem dX11_end_20 : decode cX11_end 20 = .ok (.pop, 1) := dk_i kdX11_end_0 10 rfl
theorem dX11_end_21 : decode cX11_end 21 = .ok (.iconst 0, 1) := dk_i kdX11_end_0 11 rfl
theorem dX11_end_22 : decode cX11_end 22 = .ok (.ireturn, 1) := dk_i kdX11_end_0 12 rfl
theorem dX11_end_23 : decode cX11_end 23 = .ok (.aload_n 0, 1) := dk_i kdX11_end_0 13 rfl
theorem dX11_end_24 : decode cX11_end 24 = .ok (.getfield 12, 3) := dk_i kdX11_end_0 14 rfl
theorem dX11_end_27 : decode cX11_end 27 = .ok (.iload_n 1, 1) := dk_i kdX11_end_0 15 rfl
def ldX11_end_28 : List (Nat × ClassFile.Instr × Nat) := [(28, .putfield 116, 3), (31, .iconst 1, 1), (32, .ireturn, 1)]
theorem kdX11_end_28 : dkO cX11_end 28 ldX11_end_28 = true := by decide +kernel
theorem dX11_end_28 : decode cX11_end 28 = .ok (.putfield 116, 3) := dk_i kdX11_end_28 0 rfl
theorem dX11_end_31 : decode cX11_end 31 = .ok (.iconst 1, 1) := dk_i kdX11_end_28 1 rfl
theorem dX11_end_32 : decode cX11_end 32 = .ok (.ireturn, 1) := dk_i kdX11_end_28 2 rfl
def ldX11_town_0 : List (Nat × ClassFile.Instr × Nat) := [(0, .aload_n 0, 1), (1, .getfield 31, 3), (4, .aload_n 0, 1), (5, .getfield 23, 3), (8, .invokevirtual 119, 3), (11, .istore_n 1, 1), (12, .aload_n 0, 1), (13, .getfield 12, 3), (16, .iconst 0, 1), (17, .putfield 116, 3), (20, .aload_n 0, 1), (21, .aload_n 0, 1), (22, .getfield 31, 3), (25, .getfield 123, 3), (28, .getfield 127, 3), (31, .putfield 92, 3)]
theorem kdX11_town_0 : dkO cX11_town 0 ldX11_town_0 = true := by decide +kernel
theorem dX11_town_0 : decode cX11_town 0 = .ok (.aload_n 0, 1) := dk_i kdX11_town_0 0 rfl
theorem dX11_town_1 : decode cX11_town 1 = .ok (.getfield 31, 3) := dk_i kdX11_town_0 1 rfl
theorem dX11_town_4 : decode cX11_town 4 = .ok (.aload_n 0, 1) := dk_i kdX11_town_0 2 rfl
theorem dX11_town_5 : decode cX11_town 5 = .ok (.getfield 23, 3) := dk_i kdX11_town_0 3 rfl
theorem dX11_town_8 : decode cX11_town 8 = .ok (.invokevirtual 119, 3) := dk_i kdX11_town_0 4 rfl
theorem dX11_town_11 : decode cX11_town 11 = .ok (.istore_n 1, 1) := dk_i kdX11_town_0 5 rfl
theorem dX11_town_12 : decode cX11_town 12 = .ok (.aload_n 0, 1) := dk_i kdX11_town_0 6 rfl
theorem dX11_town_13 : decode cX11_town 13 = .ok (.getfield 12, 3) := dk_i kdX11_town_0 7 rfl
theorem dX11_town_16 : decode cX11_town 16 = .ok (.iconst 0, 1) := dk_i kdX11_town_0 8 rfl
theorem dX11_town_17 : decode cX11_town 17 = .ok (.putfield 116, 3) := dk_i kdX11_town_0 9 rfl
theorem dX11_town_20 : decode cX11_town 20 = .ok (.aload_n 0, 1) := dk_i kdX11_town_0 10 rfl
theorem dX11_town_21 : decode cX11_town 21 = .ok (.aload_n 0, 1) := dk_i kdX11_town_0 11 rfl
theorem dX11_town_22 : decode cX11_town 22 = .ok (.getfield 31, 3) := dk_i kdX11_town_0 12 rfl
theorem dX11_town_25 : decode cX11_town 25 = .ok (.getfield 123, 3) := dk_i kdX11_town_0 13 rfl
theorem dX11_town_28 : decode cX11_town 28 = .ok (.getfield 127, 3) := dk_i kdX11_town_0 14 rfl
theorem dX11_town_31 : decode cX11_town 31 = .ok (.putfield 92, 3) := dk_i kdX11_town_0 15 rfl
def ldX11_town_34 : List (Nat × ClassFile.Instr × Nat) := [(34, .aload_n 0, 1), (35, .aload_n 0, 1), (36, .getfield 31, 3), (39, .getfield 123, 3), (42, .getfield 132, 3), (45, .putfield 95, 3), (48, .iload_n 1, 1), (49, .ifCond .ne 9, 3), (52, .aload_n 0, 1), (53, .iconst 1, 1), (54, .invokevirtual 108, 3), (57, .ireturn, 1), (58, .aload_n 0, 1), (59, .getfield 19, 3), (62, .astore_n 2, 1), (63, .aload_n 0, 1)]
theorem kdX11_town_34 : dkO cX11_town 34 ldX11_town_34 = true := by decide +kernel
theorem dX11_town_34 : decode cX11_town 34 = .ok (.aload_n 0, 1) := dk_i kdX11_town_34 0 rfl
theorem dX11_town_35 : decode cX11_town 35 = .ok (.aload_n 0, 1) := dk_i kdX11_town_34 1 rfl
theorem dX11_town_36 : decode cX11_town 36 = .ok (.getfield 31, 3) := dk_i kdX11_town_34 2 rfl
theorem dX11_town_39 : decode cX11_town 39 = .ok (.getfield 123, 3) := dk_i kdX11_town_34 3 rfl
theorem dX11_town_42 : decode cX11_town 42 = .ok (.getfield 132, 3) := dk_i kdX11_town_34 4 rfl
theorem dX11_town_45 : decode cX11_town 45 = .ok (.putfield 95, 3) := dk_i kdX11_town_34 5 rfl
theorem dX11_town_48 : decode cX11_town 48 = .ok (.iload_n 1, 1) := dk_i kdX11_town_34 6 rfl
theorem dX11_town_49 : decode cX11_town 49 = .ok (.ifCond .ne 9, 3) := dk_i kdX11_town_34 7 rfl
theorem dX11_town_52 : decode cX11_town 52 = .ok (.aload_n 0, 1) := dk_i kdX11_town_34 8 rfl
theorem dX11_town_53 : decode cX11_town 53 = .ok (.iconst 1, 1) := dk_i kdX11_town_34 9 rfl
theorem dX11_town_54 : decode cX11_town 54 = .ok (.invokevirtual 108, 3) := dk_i kdX11_town_34 10 rfl
theorem dX11_town_57 : decode cX11_town 57 = .ok (.ireturn, 1) := dk_i kdX11_town_34 11 rfl
theorem dX11_town_58 : decode cX11_town 58 = .ok (.aload_n 0, 1) := dk_i kdX11_town_34 12 rfl
theorem dX11_town_59 : decode cX11_town 59 = .ok (.getfield 19, 3) := dk_i kdX11_town_34 13 rfl
theorem dX11_town_62 : decode cX11_town 62 = .ok (.astore_n 2, 1) := dk_i kdX11_town_34 14 rfl
theorem dX11_town_63 : decode cX11_town 63 = .ok (.aload_n 0, 1) := dk_i kdX11_town_34 15 rfl
def ldX11_town_64 : List (Nat × ClassFile.Instr × Nat) := [(64, .aload_n 0, 1), (65, .getfield 23, 3), (68, .putfield 19, 3), (71, .aload_n 0, 1), (72, .aload_n 2, 1), (73, .putfield 23, 3), (76, .aload_n 0, 1), (77, .invokevirtual 101, 3), (80, .aload_n 0, 1), (81, .getfield 19, 3), (84, .getfield 133, 3), (87, .ireturn, 1)]
theorem kdX11_town_64 : dkO cX11_town 64 ldX11_town_64 = true := by decide +kernel
theorem dX11_town_64 : decode cX11_town 64 = .ok (.aload_n 0, 1) := dk_i kdX11_town_64 0 rfl
theorem dX11_town_65 : decode cX11_town 65 = .ok (.getfield 23, 3) := dk_i kdX11_town_64 1 rfl
theorem dX11_town_68 : decode cX11_town 68 = .ok (.putfield 19, 3) := dk_i kdX11_town_64 2 rfl
theorem dX11_town_71 : decode cX11_town 71 = .ok (.aload_n 0, 1) := dk_i kdX11_town_64 3 rfl
theorem dX11_town_72 : decode cX11_town 72 = .ok (.aload_n 2, 1) := dk_i kdX11_town_64 4 rfl
theorem dX11_town_73 : decode cX11_town 73 = .ok (.putfield 23, 3) := dk_i kdX11_town_64 5 rfl
theorem dX11_town_76 : decode cX11_town 76 = .ok (.aload_n 0, 1) := dk_i kdX11_town_64 6 rfl
theorem dX11_town_77 : decode cX11_town 77 = .ok (.invokevirtual 101, 3) := dk_i kdX11_town_64 7 rfl
theorem dX11_town_80 : decode cX11_town 80 = .ok (.aload_n 0, 1) := dk_i kdX11_town_64 8 rfl
theorem dX11_town_81 : decode cX11_town 81 = .ok (.getfield 19, 3) := dk_i kdX11_town_64 9 rfl
theorem dX11_town_84 : decode cX11_town 84 = .ok (.getfield 133, 3) := dk_i kdX11_town_64 10 rfl
theorem dX11_town_87 : decode cX11_town 87 = .ok (.ireturn, 1) := dk_i kdX11_town_64 11 rfl
def ldX11_fault_0 : List (Nat × ClassFile.Instr × Nat) := [(0, .iload_n 1, 1), (1, .lookupswitch 37 #[(0, 27), (1, 32)], 27), (28, .aload_n 0, 1), (29, .getfield 92, 3), (32, .ireturn, 1), (33, .aload_n 0, 1), (34, .getfield 95, 3), (37, .ireturn, 1), (38, .iconst (-1), 1), (39, .ireturn, 1)]
theorem kdX11_fault_0 : dkO cX11_fault 0 ldX11_fault_0 = true := by decide +kernel
theorem dX11_fault_0 : decode cX11_fault 0 = .ok (.iload_n 1, 1) := dk_i kdX11_fault_0 0 rfl
theorem dX11_fault_1 : decode cX11_fault 1 = .ok (.lookupswitch 37 #[(0, 27), (1, 32)], 27) := dk_i kdX11_fault_0 1 rfl
theorem dX11_fault_28 : decode cX11_fault 28 = .ok (.aload_n 0, 1) := dk_i kdX11_fault_0 2 rfl
theorem dX11_fault_29 : decode cX11_fault 29 = .ok (.getfield 92, 3) := dk_i kdX11_fault_0 3 rfl
theorem dX11_fault_32 : decode cX11_fault 32 = .ok (.ireturn, 1) := dk_i kdX11_fault_0 4 rfl
theorem dX11_fault_33 : decode cX11_fault 33 = .ok (.aload_n 0, 1) := dk_i kdX11_fault_0 5 rfl
theorem dX11_fault_34 : decode cX11_fault 34 = .ok (.getfield 95, 3) := dk_i kdX11_fault_0 6 rfl
theorem dX11_fault_37 : decode cX11_fault 37 = .ok (.ireturn, 1) := dk_i kdX11_fault_0 7 rfl
theorem dX11_fault_38 : decode cX11_fault 38 = .ok (.iconst (-1), 1) := dk_i kdX11_fault_0 8 rfl
theorem dX11_fault_39 : decode cX11_fault 39 = .ok (.ireturn, 1) := dk_i kdX11_fault_0 9 rfl
def ldX11_has_0 : List (Nat × ClassFile.Instr × Nat) := [(0, .iload_n 1, 1), (1, .tableswitch 144 0 10 #[59, 67, 75, 83, 91, 99, 107, 115, 123, 131, 139], 59), (60, .aload_n 0, 1), (61, .getfield 19, 3), (64, .getfield 136, 3), (67, .ireturn, 1), (68, .aload_n 0, 1), (69, .getfield 19, 3), (72, .getfield 139, 3), (75, .ireturn, 1), (76, .aload_n 0, 1), (77, .getfield 19, 3), (80, .getfield 142, 3), (83, .ireturn, 1), (84, .aload_n 0, 1), (85, .getfield 19, 3)]
theorem kdX11_has_0 : dkO cX11_has 0 ldX11_has_0 = true := by decide +kernel
theorem dX11_has_0 : decode cX11_has 0 = .ok (.iload_n 1, 1) := dk_i kdX11_has_0 0 rfl
theorem dX11_has_1 : decode cX11_has 1 = .ok (.tableswitch 144 0 10 #[59, 67, 75, 83, 91, 99, 107, 115, 123, 131, 139], 59) := dk_i kdX11_has_0 1 rfl
theorem dX11_has_60 : decode cX11_has 60 = .ok (.aload_n 0, 1) := dk_i kdX11_has_0 2 rfl
theorem dX11_has_61 : decode cX11_has 61 = .ok (.getfield 19, 3) := dk_i kdX11_has_0 3 rfl
theorem dX11_has_64 : decode cX11_has 64 = .ok (.getfield 136, 3) := dk_i kdX11_has_0 4 rfl
theorem dX11_has_67 : decode cX11_has 67 = .ok (.ireturn, 1) := dk_i kdX11_has_0 5 rfl
theorem dX11_has_68 : decode cX11_has 68 = .ok (.aload_n 0, 1) := dk_i kdX11_has_0 6 rfl
theorem dX11_has_69 : decode cX11_has 69 = .ok (.getfield 19, 3) := dk_i kdX11_has_0 7 rfl
theorem dX11_has_72 : decode cX11_has 72 = .ok (.getfield 139, 3) := dk_i kdX11_has_0 8 rfl
theorem dX11_has_75 : decode cX11_has 75 = .ok (.ireturn, 1) := dk_i kdX11_has_0 9 rfl
theorem dX11_has_76 : decode cX11_has 76 = .ok (.aload_n 0, 1) := dk_i kdX11_has_0 10 rfl
theorem dX11_has_77 : decode cX11_has 77 = .ok (.getfield 19, 3) := dk_i kdX11_has_0 11 rfl
theorem dX11_has_80 : decode cX11_has 80 = .ok (.getfield 142, 3) := dk_i kdX11_has_0 12 rfl
theorem dX11_has_83 : decode cX11_has 83 = .ok (.ireturn, 1) := dk_i kdX11_has_0 13 rfl
theorem dX11_has_84 : decode cX11_has 84 = .ok (.aload_n 0, 1) := dk_i kdX11_has_0 14 rfl
theorem dX11_has_85 : decode cX11_has 85 = .ok (.getfield 19, 3) := dk_i kdX11_has_0 15 rfl
def ldX11_has_88 : List (Nat × ClassFile.Instr × Nat) := [(88, .getfield 145, 3), (91, .ireturn, 1), (92, .aload_n 0, 1), (93, .getfield 47, 3), (96, .getfield 148, 3), (99, .ireturn, 1), (100, .aload_n 0, 1), (101, .getfield 47, 3), (104, .invokevirtual 151, 3), (107, .ireturn, 1), (108, .aload_n 0, 1), (109, .getfield 47, 3), (112, .invokevirtual 155, 3), (115, .ireturn, 1), (116, .aload_n 0, 1), (117, .getfield 47, 3)]
theorem kdX11_has_88 : dkO cX11_has 88 ldX11_has_88 = true := by decide +kernel
theorem dX11_has_88 : decode cX11_has 88 = .ok (.getfield 145, 3) := dk_i kdX11_has_88 0 rfl
theorem dX11_has_91 : decode cX11_has 91 = .ok (.ireturn, 1) := dk_i kdX11_has_88 1 rfl
theorem dX11_has_92 : decode cX11_has 92 = .ok (.aload_n 0, 1) := dk_i kdX11_has_88 2 rfl
theorem dX11_has_93 : decode cX11_has 93 = .ok (.getfield 47, 3) := dk_i kdX11_has_88 3 rfl
theorem dX11_has_96 : decode cX11_has 96 = .ok (.getfield 148, 3) := dk_i kdX11_has_88 4 rfl
theorem dX11_has_99 : decode cX11_has 99 = .ok (.ireturn, 1) := dk_i kdX11_has_88 5 rfl
theorem dX11_has_100 : decode cX11_has 100 = .ok (.aload_n 0, 1) := dk_i kdX11_has_88 6 rfl
theorem dX11_has_101 : decode cX11_has 101 = .ok (.getfield 47, 3) := dk_i kdX11_has_88 7 rfl
theorem dX11_has_104 : decode cX11_has 104 = .ok (.invokevirtual 151, 3) := dk_i kdX11_has_88 8 rfl
theorem dX11_has_107 : decode cX11_has 107 = .ok (.ireturn, 1) := dk_i kdX11_has_88 9 rfl
theorem dX11_has_108 : decode cX11_has 108 = .ok (.aload_n 0, 1) := dk_i kdX11_has_88 10 rfl
theorem dX11_has_109 : decode cX11_has 109 = .ok (.getfield 47, 3) := dk_i kdX11_has_88 11 rfl
theorem dX11_has_112 : decode cX11_has 112 = .ok (.invokevirtual 155, 3) := dk_i kdX11_has_88 12 rfl
theorem dX11_has_115 : decode cX11_has 115 = .ok (.ireturn, 1) := dk_i kdX11_has_88 13 rfl
theorem dX11_has_116 : decode cX11_has 116 = .ok (.aload_n 0, 1) := dk_i kdX11_has_88 14 rfl
theorem dX11_has_117 : decode cX11_has 117 = .ok (.getfield 47, 3) := dk_i kdX11_has_88 15 rfl
def ldX11_has_120 : List (Nat × ClassFile.Instr × Nat) := [(120, .getfield 158, 3), (123, .ireturn, 1), (124, .aload_n 0, 1), (125, .getfield 68, 3), (128, .getfield 161, 3), (131, .ireturn, 1), (132, .aload_n 0, 1), (133, .getfield 54, 3), (136, .getfield 164, 3), (139, .ireturn, 1), (140, .aload_n 0, 1), (141, .getfield 98, 3), (144, .ireturn, 1), (145, .iconst (-1), 1), (146, .ireturn, 1)]
theorem kdX11_has_120 : dkO cX11_has 120 ldX11_has_120 = true := by decide +kernel
theorem dX11_has_120 : decode cX11_has 120 = .ok (.getfield 158, 3) := dk_i kdX11_has_120 0 rfl
theorem dX11_has_123 : decode cX11_has 123 = .ok (.ireturn, 1) := dk_i kdX11_has_120 1 rfl
theorem dX11_has_124 : decode cX11_has 124 = .ok (.aload_n 0, 1) := dk_i kdX11_has_120 2 rfl
theorem dX11_has_125 : decode cX11_has 125 = .ok (.getfield 68, 3) := dk_i kdX11_has_120 3 rfl
theorem dX11_has_128 : decode cX11_has 128 = .ok (.getfield 161, 3) := dk_i kdX11_has_120 4 rfl
theorem dX11_has_131 : decode cX11_has 131 = .ok (.ireturn, 1) := dk_i kdX11_has_120 5 rfl
theorem dX11_has_132 : decode cX11_has 132 = .ok (.aload_n 0, 1) := dk_i kdX11_has_120 6 rfl
theorem dX11_has_133 : decode cX11_has 133 = .ok (.getfield 54, 3) := dk_i kdX11_has_120 7 rfl
theorem dX11_has_136 : decode cX11_has 136 = .ok (.getfield 164, 3) := dk_i kdX11_has_120 8 rfl
theorem dX11_has_139 : decode cX11_has 139 = .ok (.ireturn, 1) := dk_i kdX11_has_120 9 rfl
theorem dX11_has_140 : decode cX11_has 140 = .ok (.aload_n 0, 1) := dk_i kdX11_has_120 10 rfl
theorem dX11_has_141 : decode cX11_has 141 = .ok (.getfield 98, 3) := dk_i kdX11_has_120 11 rfl
theorem dX11_has_144 : decode cX11_has 144 = .ok (.ireturn, 1) := dk_i kdX11_has_120 12 rfl
theorem dX11_has_145 : decode cX11_has 145 = .ok (.iconst (-1), 1) := dk_i kdX11_has_120 13 rfl
theorem dX11_has_146 : decode cX11_has 146 = .ok (.ireturn, 1) := dk_i kdX11_has_120 14 rfl
def ldX11_letter_0 : List (Nat × ClassFile.Instr × Nat) := [(0, .iload_n 3, 1), (1, .ifCond .lt 9, 3), (4, .iload_n 3, 1), (5, .bipush 6, 2), (7, .if_icmp .lt 5, 3), (10, .iconst (-1), 1), (11, .ireturn, 1), (12, .iload_n 1, 1), (13, .tableswitch 114 0 2 #[27, 56, 85], 27), (40, .aload_n 0, 1), (41, .getfield 19, 3), (44, .iload_n 2, 1), (45, .invokevirtual 165, 3), (48, .ifCond .eq 19, 3), (51, .aload_n 0, 1), (52, .getfield 19, 3)]
theorem kdX11_letter_0 : dkO cX11_letter 0 ldX11_letter_0 = true := by decide +kernel
theorem dX11_letter_0 : decode cX11_letter 0 = .ok (.iload_n 3, 1) := dk_i kdX11_letter_0 0 rfl
theorem dX11_letter_1 : decode cX11_letter 1 = .ok (.ifCond .lt 9, 3) := dk_i kdX11_letter_0 1 rfl
theorem dX11_letter_4 : decode cX11_letter 4 = .ok (.iload_n 3, 1) := dk_i kdX11_letter_0 2 rfl
theorem dX11_letter_5 : decode cX11_letter 5 = .ok (.bipush 6, 2) := dk_i kdX11_letter_0 3 rfl
theorem dX11_letter_7 : decode cX11_letter 7 = .ok (.if_icmp .lt 5, 3) := dk_i kdX11_letter_0 4 rfl
theorem dX11_letter_10 : decode cX11_letter 10 = .ok (.iconst (-1), 1) := dk_i kdX11_letter_0 5 rfl
theorem dX11_letter_11 : decode cX11_letter 11 = .ok (.ireturn, 1) := dk_i kdX11_letter_0 6 rfl
theorem dX11_letter_12 : decode cX11_letter 12 = .ok (.iload_n 1, 1) := dk_i kdX11_letter_0 7 rfl
theorem dX11_letter_13 : decode cX11_letter 13 = .ok (.tableswitch 114 0 2 #[27, 56, 85], 27) := dk_i kdX11_letter_0 8 rfl
theorem dX11_letter_40 : decode cX11_letter 40 = .ok (.aload_n 0, 1) := dk_i kdX11_letter_0 9 rfl
theorem dX11_letter_41 : decode cX11_letter 41 = .ok (.getfield 19, 3) := dk_i kdX11_letter_0 10 rfl
theorem dX11_letter_44 : decode cX11_letter 44 = .ok (.iload_n 2, 1) := dk_i kdX11_letter_0 11 rfl
theorem dX11_letter_45 : decode cX11_letter 45 = .ok (.invokevirtual 165, 3) := dk_i kdX11_letter_0 12 rfl
theorem dX11_letter_48 : decode cX11_letter 48 = .ok (.ifCond .eq 19, 3) := dk_i kdX11_letter_0 13 rfl
theorem dX11_letter_51 : decode cX11_letter 51 = .ok (.aload_n 0, 1) := dk_i kdX11_letter_0 14 rfl
theorem dX11_letter_52 : decode cX11_letter 52 = .ok (.getfield 19, 3) := dk_i kdX11_letter_0 15 rfl
def ldX11_letter_55 : List (Nat × ClassFile.Instr × Nat) := [(55, .getfield 168, 3), (58, .iload_n 2, 1), (59, .iaload, 1), (60, .iload_n 3, 1), (61, .invokestatic 171, 3), (64, .goto 4, 3), (67, .iconst (-1), 1), (68, .ireturn, 1), (69, .aload_n 0, 1), (70, .getfield 19, 3), (73, .iload_n 2, 1), (74, .invokevirtual 175, 3), (77, .ifCond .eq 19, 3), (80, .aload_n 0, 1), (81, .getfield 19, 3), (84, .getfield 178, 3)]
theorem kdX11_letter_55 : dkO cX11_letter 55 ldX11_letter_55 = true := by decide +kernel
theorem dX11_letter_55 : decode cX11_letter 55 = .ok (.getfield 168, 3) := dk_i kdX11_letter_55 0 rfl
theorem dX11_letter_58 : decode cX11_letter 58 = .ok (.iload_n 2, 1) := dk_i kdX11_letter_55 1 rfl
theorem dX11_letter_59 : decode cX11_letter 59 = .ok (.iaload, 1) := dk_i kdX11_letter_55 2 rfl
theorem dX11_letter_60 : decode cX11_letter 60 = .ok (.iload_n 3, 1) := dk_i kdX11_letter_55 3 rfl
theorem dX11_letter_61 : decode cX11_letter 61 = .ok (.invokestatic 171, 3) := dk_i kdX11_letter_55 4 rfl
theorem dX11_letter_64 : decode cX11_letter 64 = .ok (.goto 4, 3) := dk_i kdX11_letter_55 5 rfl
theorem dX11_letter_67 : decode cX11_letter 67 = .ok (.iconst (-1), 1) := dk_i kdX11_letter_55 6 rfl
theorem dX11_letter_68 : decode cX11_letter 68 = .ok (.ireturn, 1) := dk_i kdX11_letter_55 7 rfl
theorem dX11_letter_69 : decode cX11_letter 69 = .ok (.aload_n 0, 1) := dk_i kdX11_letter_55 8 rfl
theorem dX11_letter_70 : decode cX11_letter 70 = .ok (.getfield 19, 3) := dk_i kdX11_letter_55 9 rfl
theorem dX11_letter_73 : decode cX11_letter 73 = .ok (.iload_n 2, 1) := dk_i kdX11_letter_55 10 rfl
theorem dX11_letter_74 : decode cX11_letter 74 = .ok (.invokevirtual 175, 3) := dk_i kdX11_letter_55 11 rfl
theorem dX11_letter_77 : decode cX11_letter 77 = .ok (.ifCond .eq 19, 3) := dk_i kdX11_letter_55 12 rfl
theorem dX11_letter_80 : decode cX11_letter 80 = .ok (.aload_n 0, 1) := dk_i kdX11_letter_55 13 rfl
theorem dX11_letter_81 : decode cX11_letter 81 = .ok (.getfield 19, 3) := dk_i kdX11_letter_55 14 rfl
theorem dX11_letter_84 : decode cX11_letter 84 = .ok (.getfield 178, 3) := dk_i kdX11_letter_55 15 rfl
def ldX11_letter_87 : List (Nat × ClassFile.Instr × Nat) := [(87, .iload_n 2, 1), (88, .iaload, 1), (89, .iload_n 3, 1), (90, .invokestatic 171, 3), (93, .goto 4, 3), (96, .iconst (-1), 1), (97, .ireturn, 1), (98, .aload_n 0, 1), (99, .getfield 19, 3), (102, .iload_n 2, 1), (103, .invokevirtual 181, 3), (106, .ifCond .eq 19, 3), (109, .aload_n 0, 1), (110, .getfield 19, 3), (113, .getfield 184, 3), (116, .iload_n 2, 1)]
theorem kdX11_letter_87 : dkO cX11_letter 87 ldX11_letter_87 = true := by decide +kernel
theorem dX11_letter_87 : decode cX11_letter 87 = .ok (.iload_n 2, 1) := dk_i kdX11_letter_87 0 rfl
theorem dX11_letter_88 : decode cX11_letter 88 = .ok (.iaload, 1) := dk_i kdX11_letter_87 1 rfl
theorem dX11_letter_89 : decode cX11_letter 89 = .ok (.iload_n 3, 1) := dk_i kdX11_letter_87 2 rfl
theorem dX11_letter_90 : decode cX11_letter 90 = .ok (.invokestatic 171, 3) := dk_i kdX11_letter_87 3 rfl
theorem dX11_letter_93 : decode cX11_letter 93 = .ok (.goto 4, 3) := dk_i kdX11_letter_87 4 rfl
theorem dX11_letter_96 : decode cX11_letter 96 = .ok (.iconst (-1), 1) := dk_i kdX11_letter_87 5 rfl
theorem dX11_letter_97 : decode cX11_letter 97 = .ok (.ireturn, 1) := dk_i kdX11_letter_87 6 rfl
theorem dX11_letter_98 : decode cX11_letter 98 = .ok (.aload_n 0, 1) := dk_i kdX11_letter_87 7 rfl
theorem dX11_letter_99 : decode cX11_letter 99 = .ok (.getfield 19, 3) := dk_i kdX11_letter_87 8 rfl
theorem dX11_letter_102 : decode cX11_letter 102 = .ok (.iload_n 2, 1) := dk_i kdX11_letter_87 9 rfl
theorem dX11_letter_103 : decode cX11_letter 103 = .ok (.invokevirtual 181, 3) := dk_i kdX11_letter_87 10 rfl
theorem dX11_letter_106 : decode cX11_letter 106 = .ok (.ifCond .eq 19, 3) := dk_i kdX11_letter_87 11 rfl
theorem dX11_letter_109 : decode cX11_letter 109 = .ok (.aload_n 0, 1) := dk_i kdX11_letter_87 12 rfl
theorem dX11_letter_110 : decode cX11_letter 110 = .ok (.getfield 19, 3) := dk_i kdX11_letter_87 13 rfl
theorem dX11_letter_113 : decode cX11_letter 113 = .ok (.getfield 184, 3) := dk_i kdX11_letter_87 14 rfl
theorem dX11_letter_116 : decode cX11_letter 116 = .ok (.iload_n 2, 1) := dk_i kdX11_letter_87 15 rfl
def ldX11_letter_117 : List (Nat × ClassFile.Instr × Nat) := [(117, .iaload, 1), (118, .iload_n 3, 1), (119, .invokestatic 171, 3), (122, .goto 4, 3), (125, .iconst (-1), 1), (126, .ireturn, 1), (127, .iconst (-1), 1), (128, .ireturn, 1)]
theorem kdX11_letter_117 : dkO cX11_letter 117 ldX11_letter_117 = true := by decide +kernel
theorem dX11_letter_117 : decode cX11_letter 117 = .ok (.iaload, 1) := dk_i kdX11_letter_117 0 rfl
theorem dX11_letter_118 : decode cX11_letter 118 = .ok (.iload_n 3, 1) := dk_i kdX11_letter_117 1 rfl
theorem dX11_letter_119 : decode cX11_letter 119 = .ok (.invokestatic 171, 3) := dk_i kdX11_letter_117 2 rfl
theorem dX11_letter_122 : decode cX11_letter 122 = .ok (.goto 4, 3) := dk_i kdX11_letter_117 3 rfl
theorem dX11_letter_125 : decode cX11_letter 125 = .ok (.iconst (-1), 1) := dk_i kdX11_letter_117 4 rfl
theorem dX11_letter_126 : decode cX11_letter 126 = .ok (.ireturn, 1) := dk_i kdX11_letter_117 5 rfl
theorem dX11_letter_127 : decode cX11_letter 127 = .ok (.iconst (-1), 1) := dk_i kdX11_letter_117 6 rfl
theorem dX11_letter_128 : decode cX11_letter 128 = .ok (.ireturn, 1) := dk_i kdX11_letter_117 7 rfl
def ldX11_thing_0 : List (Nat × ClassFile.Instr × Nat) := [(0, .aload_n 0, 1), (1, .getfield 19, 3), (4, .iload_n 1, 1), (5, .invokevirtual 165, 3), (8, .ifCond .ne 5, 3), (11, .iconst (-1), 1), (12, .ireturn, 1), (13, .iload_n 2, 1), (14, .lookupswitch 46 #[(0, 26), (1, 36)], 26), (40, .aload_n 0, 1), (41, .getfield 19, 3), (44, .getfield 187, 3), (47, .iload_n 1, 1), (48, .iaload, 1), (49, .ireturn, 1), (50, .aload_n 0, 1)]
theorem kdX11_thing_0 : dkO cX11_thing 0 ldX11_thing_0 = true := by decide +kernel
theorem dX11_thing_0 : decode cX11_thing 0 = .ok (.aload_n 0, 1) := dk_i kdX11_thing_0 0 rfl
theorem dX11_thing_1 : decode cX11_thing 1 = .ok (.getfield 19, 3) := dk_i kdX11_thing_0 1 rfl
theorem dX11_thing_4 : decode cX11_thing 4 = .ok (.iload_n 1, 1) := dk_i kdX11_thing_0 2 rfl
theorem dX11_thing_5 : decode cX11_thing 5 = .ok (.invokevirtual 165, 3) := dk_i kdX11_thing_0 3 rfl
theorem dX11_thing_8 : decode cX11_thing 8 = .ok (.ifCond .ne 5, 3) := dk_i kdX11_thing_0 4 rfl
theorem dX11_thing_11 : decode cX11_thing 11 = .ok (.iconst (-1), 1) := dk_i kdX11_thing_0 5 rfl
theorem dX11_thing_12 : decode cX11_thing 12 = .ok (.ireturn, 1) := dk_i kdX11_thing_0 6 rfl
theorem dX11_thing_13 : decode cX11_thing 13 = .ok (.iload_n 2, 1) := dk_i kdX11_thing_0 7 rfl
theorem dX11_thing_14 : decode cX11_thing 14 = .ok (.lookupswitch 46 #[(0, 26), (1, 36)], 26) := dk_i kdX11_thing_0 8 rfl
theorem dX11_thing_40 : decode cX11_thing 40 = .ok (.aload_n 0, 1) := dk_i kdX11_thing_0 9 rfl
theorem dX11_thing_41 : decode cX11_thing 41 = .ok (.getfield 19, 3) := dk_i kdX11_thing_0 10 rfl
theorem dX11_thing_44 : decode cX11_thing 44 = .ok (.getfield 187, 3) := dk_i kdX11_thing_0 11 rfl
theorem dX11_thing_47 : decode cX11_thing 47 = .ok (.iload_n 1, 1) := dk_i kdX11_thing_0 12 rfl
theorem dX11_thing_48 : decode cX11_thing 48 = .ok (.iaload, 1) := dk_i kdX11_thing_0 13 rfl
theorem dX11_thing_49 : decode cX11_thing 49 = .ok (.ireturn, 1) := dk_i kdX11_thing_0 14 rfl
theorem dX11_thing_50 : decode cX11_thing 50 = .ok (.aload_n 0, 1) := dk_i kdX11_thing_0 15 rfl
def ldX11_thing_51 : List (Nat × ClassFile.Instr × Nat) := [(51, .getfield 19, 3), (54, .getfield 190, 3), (57, .iload_n 1, 1), (58, .iaload, 1), (59, .ireturn, 1), (60, .iconst (-1), 1), (61, .ireturn, 1)]
theorem kdX11_thing_51 : dkO cX11_thing 51 ldX11_thing_51 = true := by decide +kernel
theorem dX11_thing_51 : decode cX11_thing 51 = .ok (.getfield 19, 3) := dk_i kdX11_thing_51 0 rfl
theorem dX11_thing_54 : decode cX11_thing 54 = .ok (.getfield 190, 3) := dk_i kdX11_thing_51 1 rfl
theorem dX11_thing_57 : decode cX11_thing 57 = .ok (.iload_n 1, 1) := dk_i kdX11_thing_51 2 rfl
theorem dX11_thing_58 : decode cX11_thing 58 = .ok (.iaload, 1) := dk_i kdX11_thing_51 3 rfl
theorem dX11_thing_59 : decode cX11_thing 59 = .ok (.ireturn, 1) := dk_i kdX11_thing_51 4 rfl
theorem dX11_thing_60 : decode cX11_thing 60 = .ok (.iconst (-1), 1) := dk_i kdX11_thing_51 5 rfl
theorem dX11_thing_61 : decode cX11_thing 61 = .ok (.ireturn, 1) := dk_i kdX11_thing_51 6 rfl
def ldX11_corner_0 : List (Nat × ClassFile.Instr × Nat) := [(0, .aload_n 0, 1), (1, .getfield 19, 3), (4, .iload_n 1, 1), (5, .invokevirtual 175, 3), (8, .ifCond .ne 5, 3), (11, .iconst (-1), 1), (12, .ireturn, 1), (13, .iload_n 2, 1), (14, .tableswitch 52 0 2 #[26, 36, 46], 26), (40, .aload_n 0, 1), (41, .getfield 47, 3), (44, .getfield 193, 3), (47, .iload_n 1, 1), (48, .iaload, 1), (49, .ireturn, 1), (50, .aload_n 0, 1)]
theorem kdX11_corner_0 : dkO cX11_corner 0 ldX11_corner_0 = true := by decide +kernel
theorem dX11_corner_0 : decode cX11_corner 0 = .ok (.aload_n 0, 1) := dk_i kdX11_corner_0 0 rfl
theorem dX11_corner_1 : decode cX11_corner 1 = .ok (.getfield 19, 3) := dk_i kdX11_corner_0 1 rfl
theorem dX11_corner_4 : decode cX11_corner 4 = .ok (.iload_n 1, 1) := dk_i kdX11_corner_0 2 rfl
theorem dX11_corner_5 : decode cX11_corner 5 = .ok (.invokevirtual 175, 3) := dk_i kdX11_corner_0 3 rfl
theorem dX11_corner_8 : decode cX11_corner 8 = .ok (.ifCond .ne 5, 3) := dk_i kdX11_corner_0 4 rfl
theorem dX11_corner_11 : decode cX11_corner 11 = .ok (.iconst (-1), 1) := dk_i kdX11_corner_0 5 rfl
theorem dX11_corner_12 : decode cX11_corner 12 = .ok (.ireturn, 1) := dk_i kdX11_corner_0 6 rfl
theorem dX11_corner_13 : decode cX11_corner 13 = .ok (.iload_n 2, 1) := dk_i kdX11_corner_0 7 rfl
theorem dX11_corner_14 : decode cX11_corner 14 = .ok (.tableswitch 52 0 2 #[26, 36, 46], 26) := dk_i kdX11_corner_0 8 rfl
theorem dX11_corner_40 : decode cX11_corner 40 = .ok (.aload_n 0, 1) := dk_i kdX11_corner_0 9 rfl
theorem dX11_corner_41 : decode cX11_corner 41 = .ok (.getfield 47, 3) := dk_i kdX11_corner_0 10 rfl
theorem dX11_corner_44 : decode cX11_corner 44 = .ok (.getfield 193, 3) := dk_i kdX11_corner_0 11 rfl
theorem dX11_corner_47 : decode cX11_corner 47 = .ok (.iload_n 1, 1) := dk_i kdX11_corner_0 12 rfl
theorem dX11_corner_48 : decode cX11_corner 48 = .ok (.iaload, 1) := dk_i kdX11_corner_0 13 rfl
theorem dX11_corner_49 : decode cX11_corner 49 = .ok (.ireturn, 1) := dk_i kdX11_corner_0 14 rfl
theorem dX11_corner_50 : decode cX11_corner 50 = .ok (.aload_n 0, 1) := dk_i kdX11_corner_0 15 rfl
def ldX11_corner_51 : List (Nat × ClassFile.Instr × Nat) := [(51, .getfield 47, 3), (54, .getfield 195, 3), (57, .iload_n 1, 1), (58, .iaload, 1), (59, .ireturn, 1), (60, .aload_n 0, 1), (61, .iload_n 1, 1), (62, .invokevirtual 198, 3), (65, .ireturn, 1), (66, .iconst (-1), 1), (67, .ireturn, 1)]
theorem kdX11_corner_51 : dkO cX11_corner 51 ldX11_corner_51 = true := by decide +kernel
theorem dX11_corner_51 : decode cX11_corner 51 = .ok (.getfield 47, 3) := dk_i kdX11_corner_51 0 rfl
theorem dX11_corner_54 : decode cX11_corner 54 = .ok (.getfield 195, 3) := dk_i kdX11_corner_51 1 rfl
theorem dX11_corner_57 : decode cX11_corner 57 = .ok (.iload_n 1, 1) := dk_i kdX11_corner_51 2 rfl
theorem dX11_corner_58 : decode cX11_corner 58 = .ok (.iaload, 1) := dk_i kdX11_corner_51 3 rfl
theorem dX11_corner_59 : decode cX11_corner 59 = .ok (.ireturn, 1) := dk_i kdX11_corner_51 4 rfl
theorem dX11_corner_60 : decode cX11_corner 60 = .ok (.aload_n 0, 1) := dk_i kdX11_corner_51 5 rfl
theorem dX11_corner_61 : decode cX11_corner 61 = .ok (.iload_n 1, 1) := dk_i kdX11_corner_51 6 rfl
theorem dX11_corner_62 : decode cX11_corner 62 = .ok (.invokevirtual 198, 3) := dk_i kdX11_corner_51 7 rfl
theorem dX11_corner_65 : decode cX11_corner 65 = .ok (.ireturn, 1) := dk_i kdX11_corner_51 8 rfl
theorem dX11_corner_66 : decode cX11_corner 66 = .ok (.iconst (-1), 1) := dk_i kdX11_corner_51 9 rfl
theorem dX11_corner_67 : decode cX11_corner 67 = .ok (.ireturn, 1) := dk_i kdX11_corner_51 10 rfl
def ldX11_doing_0 : List (Nat × ClassFile.Instr × Nat) := [(0, .aload_n 0, 1), (1, .getfield 19, 3), (4, .iload_n 1, 1), (5, .invokevirtual 181, 3), (8, .ifCond .ne 5, 3), (11, .iconst (-1), 1), (12, .ireturn, 1), (13, .iload_n 2, 1), (14, .tableswitch 56 0 2 #[26, 36, 46], 26), (40, .aload_n 0, 1), (41, .getfield 19, 3), (44, .getfield 201, 3), (47, .iload_n 1, 1), (48, .iaload, 1), (49, .ireturn, 1), (50, .aload_n 0, 1)]
theorem kdX11_doing_0 : dkO cX11_doing 0 ldX11_doing_0 = true := by decide +kernel
theorem dX11_doing_0 : decode cX11_doing 0 = .ok (.aload_n 0, 1) := dk_i kdX11_doing_0 0 rfl
theorem dX11_doing_1 : decode cX11_doing 1 = .ok (.getfield 19, 3) := dk_i kdX11_doing_0 1 rfl
theorem dX11_doing_4 : decode cX11_doing 4 = .ok (.iload_n 1, 1) := dk_i kdX11_doing_0 2 rfl
theorem dX11_doing_5 : decode cX11_doing 5 = .ok (.invokevirtual 181, 3) := dk_i kdX11_doing_0 3 rfl
theorem dX11_doing_8 : decode cX11_doing 8 = .ok (.ifCond .ne 5, 3) := dk_i kdX11_doing_0 4 rfl
theorem dX11_doing_11 : decode cX11_doing 11 = .ok (.iconst (-1), 1) := dk_i kdX11_doing_0 5 rfl
theorem dX11_doing_12 : decode cX11_doing 12 = .ok (.ireturn, 1) := dk_i kdX11_doing_0 6 rfl
theorem dX11_doing_13 : decode cX11_doing 13 = .ok (.iload_n 2, 1) := dk_i kdX11_doing_0 7 rfl
theorem dX11_doing_14 : decode cX11_doing 14 = .ok (.tableswitch 56 0 2 #[26, 36, 46], 26) := dk_i kdX11_doing_0 8 rfl
theorem dX11_doing_40 : decode cX11_doing 40 = .ok (.aload_n 0, 1) := dk_i kdX11_doing_0 9 rfl
theorem dX11_doing_41 : decode cX11_doing 41 = .ok (.getfield 19, 3) := dk_i kdX11_doing_0 10 rfl
theorem dX11_doing_44 : decode cX11_doing 44 = .ok (.getfield 201, 3) := dk_i kdX11_doing_0 11 rfl
theorem dX11_doing_47 : decode cX11_doing 47 = .ok (.iload_n 1, 1) := dk_i kdX11_doing_0 12 rfl
theorem dX11_doing_48 : decode cX11_doing 48 = .ok (.iaload, 1) := dk_i kdX11_doing_0 13 rfl
theorem dX11_doing_49 : decode cX11_doing 49 = .ok (.ireturn, 1) := dk_i kdX11_doing_0 14 rfl
theorem dX11_doing_50 : decode cX11_doing 50 = .ok (.aload_n 0, 1) := dk_i kdX11_doing_0 15 rfl
def ldX11_doing_51 : List (Nat × ClassFile.Instr × Nat) := [(51, .getfield 19, 3), (54, .getfield 204, 3), (57, .iload_n 1, 1), (58, .iaload, 1), (59, .ireturn, 1), (60, .aload_n 0, 1), (61, .getfield 47, 3), (64, .getfield 207, 3), (67, .iload_n 1, 1), (68, .iaload, 1), (69, .ireturn, 1), (70, .iconst (-1), 1), (71, .ireturn, 1)]
theorem kdX11_doing_51 : dkO cX11_doing 51 ldX11_doing_51 = true := by decide +kernel
theorem dX11_doing_51 : decode cX11_doing 51 = .ok (.getfield 19, 3) := dk_i kdX11_doing_51 0 rfl
theorem dX11_doing_54 : decode cX11_doing 54 = .ok (.getfield 204, 3) := dk_i kdX11_doing_51 1 rfl
theorem dX11_doing_57 : decode cX11_doing 57 = .ok (.iload_n 1, 1) := dk_i kdX11_doing_51 2 rfl
theorem dX11_doing_58 : decode cX11_doing 58 = .ok (.iaload, 1) := dk_i kdX11_doing_51 3 rfl
theorem dX11_doing_59 : decode cX11_doing 59 = .ok (.ireturn, 1) := dk_i kdX11_doing_51 4 rfl
theorem dX11_doing_60 : decode cX11_doing 60 = .ok (.aload_n 0, 1) := dk_i kdX11_doing_51 5 rfl
theorem dX11_doing_61 : decode cX11_doing 61 = .ok (.getfield 47, 3) := dk_i kdX11_doing_51 6 rfl
theorem dX11_doing_64 : decode cX11_doing 64 = .ok (.getfield 207, 3) := dk_i kdX11_doing_51 7 rfl
theorem dX11_doing_67 : decode cX11_doing 67 = .ok (.iload_n 1, 1) := dk_i kdX11_doing_51 8 rfl
theorem dX11_doing_68 : decode cX11_doing 68 = .ok (.iaload, 1) := dk_i kdX11_doing_51 9 rfl
theorem dX11_doing_69 : decode cX11_doing 69 = .ok (.ireturn, 1) := dk_i kdX11_doing_51 10 rfl
theorem dX11_doing_70 : decode cX11_doing 70 = .ok (.iconst (-1), 1) := dk_i kdX11_doing_51 11 rfl
theorem dX11_doing_71 : decode cX11_doing 71 = .ok (.ireturn, 1) := dk_i kdX11_doing_51 12 rfl
def ldX11_later_0 : List (Nat × ClassFile.Instr × Nat) := [(0, .aload_n 0, 1), (1, .getfield 19, 3), (4, .iload_n 1, 1), (5, .invokevirtual 175, 3), (8, .ifCond .eq 21, 3), (11, .iload_n 2, 1), (12, .ifCond .lt 17, 3), (15, .iload_n 2, 1), (16, .bipush 60, 2), (18, .if_icmp .gt 11, 3), (21, .aload_n 0, 1), (22, .iload_n 2, 1), (23, .invokevirtual 210, 3), (26, .ifCond .eq 5, 3), (29, .iconst (-1), 1), (30, .ireturn, 1)]
theorem kdX11_later_0 : dkO cX11_later 0 ldX11_later_0 = true := by decide +kernel
theorem dX11_later_0 : decode cX11_later 0 = .ok (.aload_n 0, 1) := dk_i kdX11_later_0 0 rfl
theorem dX11_later_1 : decode cX11_later 1 = .ok (.getfield 19, 3) := dk_i kdX11_later_0 1 rfl
theorem dX11_later_4 : decode cX11_later 4 = .ok (.iload_n 1, 1) := dk_i kdX11_later_0 2 rfl
theorem dX11_later_5 : decode cX11_later 5 = .ok (.invokevirtual 175, 3) := dk_i kdX11_later_0 3 rfl
theorem dX11_later_8 : decode cX11_later 8 = .ok (.ifCond .eq 21, 3) := dk_i kdX11_later_0 4 rfl
theorem dX11_later_11 : decode cX11_later 11 = .ok (.iload_n 2, 1) := dk_i kdX11_later_0 5 rfl
theorem dX11_later_12 : decode cX11_later 12 = .ok (.ifCond .lt 17, 3) := dk_i kdX11_later_0 6 rfl
theorem dX11_later_15 : decode cX11_later 15 = .ok (.iload_n 2, 1) := dk_i kdX11_later_0 7 rfl
theorem dX11_later_16 : decode cX11_later 16 = .ok (.bipush 60, 2) := dk_i kdX11_later_0 8 rfl
theorem dX11_later_18 : decode cX11_later 18 = .ok (.if_icmp .gt 11, 3) := dk_i kdX11_later_0 9 rfl
theorem dX11_later_21 : decode cX11_later 21 = .ok (.aload_n 0, 1) := dk_i kdX11_later_0 10 rfl
theorem dX11_later_22 : decode cX11_later 22 = .ok (.iload_n 2, 1) := dk_i kdX11_later_0 11 rfl
theorem dX11_later_23 : decode cX11_later 23 = .ok (.invokevirtual 210, 3) := dk_i kdX11_later_0 12 rfl
theorem dX11_later_26 : decode cX11_later 26 = .ok (.ifCond .eq 5, 3) := dk_i kdX11_later_0 13 rfl
theorem dX11_later_29 : decode cX11_later 29 = .ok (.iconst (-1), 1) := dk_i kdX11_later_0 14 rfl
theorem dX11_later_30 : decode cX11_later 30 = .ok (.ireturn, 1) := dk_i kdX11_later_0 15 rfl
def ldX11_later_31 : List (Nat × ClassFile.Instr × Nat) := [(31, .aload_n 0, 1), (32, .iload_n 1, 1), (33, .aload_n 0, 1), (34, .getfield 72, 3), (37, .iload_n 2, 1), (38, .invokevirtual 213, 3), (41, .pop, 1), (42, .aload_n 0, 1), (43, .getfield 72, 3), (46, .iload_n 2, 1), (47, .iaload, 1), (48, .ireturn, 1)]
theorem kdX11_later_31 : dkO cX11_later 31 ldX11_later_31 = true := by decide +kernel
theorem dX11_later_31 : decode cX11_later 31 = .ok (.aload_n 0, 1) := dk_i kdX11_later_31 0 rfl
theorem dX11_later_32 : decode cX11_later 32 = .ok (.iload_n 1, 1) := dk_i kdX11_later_31 1 rfl
theorem dX11_later_33 : decode cX11_later 33 = .ok (.aload_n 0, 1) := dk_i kdX11_later_31 2 rfl
theorem dX11_later_34 : decode cX11_later 34 = .ok (.getfield 72, 3) := dk_i kdX11_later_31 3 rfl
theorem dX11_later_37 : decode cX11_later 37 = .ok (.iload_n 2, 1) := dk_i kdX11_later_31 4 rfl
theorem dX11_later_38 : decode cX11_later 38 = .ok (.invokevirtual 213, 3) := dk_i kdX11_later_31 5 rfl
theorem dX11_later_41 : decode cX11_later 41 = .ok (.pop, 1) := dk_i kdX11_later_31 6 rfl
theorem dX11_later_42 : decode cX11_later 42 = .ok (.aload_n 0, 1) := dk_i kdX11_later_31 7 rfl
theorem dX11_later_43 : decode cX11_later 43 = .ok (.getfield 72, 3) := dk_i kdX11_later_31 8 rfl
theorem dX11_later_46 : decode cX11_later 46 = .ok (.iload_n 2, 1) := dk_i kdX11_later_31 9 rfl
theorem dX11_later_47 : decode cX11_later 47 = .ok (.iaload, 1) := dk_i kdX11_later_31 10 rfl
theorem dX11_later_48 : decode cX11_later 48 = .ok (.ireturn, 1) := dk_i kdX11_later_31 11 rfl
def ldX11_when_0 : List (Nat × ClassFile.Instr × Nat) := [(0, .aload_n 0, 1), (1, .getfield 19, 3), (4, .iload_n 1, 1), (5, .invokevirtual 181, 3), (8, .ifCond .ne 5, 3), (11, .iconst (-1), 1), (12, .ireturn, 1), (13, .aload_n 0, 1), (14, .getfield 47, 3), (17, .getfield 207, 3), (20, .iload_n 1, 1), (21, .iaload, 1), (22, .iconst 1, 1), (23, .if_icmp .ne 5, 3), (26, .iconst 0, 1), (27, .ireturn, 1)]
theorem kdX11_when_0 : dkO cX11_when 0 ldX11_when_0 = true := by decide +kernel
theorem dX11_when_0 : decode cX11_when 0 = .ok (.aload_n 0, 1) := dk_i kdX11_when_0 0 rfl
theorem dX11_when_1 : decode cX11_when 1 = .ok (.getfield 19, 3) := dk_i kdX11_when_0 1 rfl
theorem dX11_when_4 : decode cX11_when 4 = .ok (.iload_n 1, 1) := dk_i kdX11_when_0 2 rfl
theorem dX11_when_5 : decode cX11_when 5 = .ok (.invokevirtual 181, 3) := dk_i kdX11_when_0 3 rfl
theorem dX11_when_8 : decode cX11_when 8 = .ok (.ifCond .ne 5, 3) := dk_i kdX11_when_0 4 rfl
theorem dX11_when_11 : decode cX11_when 11 = .ok (.iconst (-1), 1) := dk_i kdX11_when_0 5 rfl
theorem dX11_when_12 : decode cX11_when 12 = .ok (.ireturn, 1) := dk_i kdX11_when_0 6 rfl
theorem dX11_when_13 : decode cX11_when 13 = .ok (.aload_n 0, 1) := dk_i kdX11_when_0 7 rfl
theorem dX11_when_14 : decode cX11_when 14 = .ok (.getfield 47, 3) := dk_i kdX11_when_0 8 rfl
theorem dX11_when_17 : decode cX11_when 17 = .ok (.getfield 207, 3) := dk_i kdX11_when_0 9 rfl
theorem dX11_when_20 : decode cX11_when 20 = .ok (.iload_n 1, 1) := dk_i kdX11_when_0 10 rfl
theorem dX11_when_21 : decode cX11_when 21 = .ok (.iaload, 1) := dk_i kdX11_when_0 11 rfl
theorem dX11_when_22 : decode cX11_when 22 = .ok (.iconst 1, 1) := dk_i kdX11_when_0 12 rfl
theorem dX11_when_23 : decode cX11_when 23 = .ok (.if_icmp .ne 5, 3) := dk_i kdX11_when_0 13 rfl
theorem dX11_when_26 : decode cX11_when 26 = .ok (.iconst 0, 1) := dk_i kdX11_when_0 14 rfl
theorem dX11_when_27 : decode cX11_when 27 = .ok (.ireturn, 1) := dk_i kdX11_when_0 15 rfl
def ldX11_when_28 : List (Nat × ClassFile.Instr × Nat) := [(28, .aload_n 0, 1), (29, .aload_n 0, 1), (30, .getfield 19, 3), (33, .getfield 201, 3), (36, .iload_n 1, 1), (37, .iaload, 1), (38, .aload_n 0, 1), (39, .getfield 72, 3), (42, .bipush 60, 2), (44, .invokevirtual 213, 3), (47, .istore_n 2, 1), (48, .iconst 1, 1), (49, .istore_n 3, 1), (50, .iload_n 3, 1), (51, .iload_n 2, 1), (52, .if_icmp .gt 29, 3)]
theorem kdX11_when_28 : dkO cX11_when 28 ldX11_when_28 = true := by decide +kernel
theorem dX11_when_28 : decode cX11_when 28 = .ok (.aload_n 0, 1) := dk_i kdX11_when_28 0 rfl
theorem dX11_when_29 : decode cX11_when 29 = .ok (.aload_n 0, 1) := dk_i kdX11_when_28 1 rfl
theorem dX11_when_30 : decode cX11_when 30 = .ok (.getfield 19, 3) := dk_i kdX11_when_28 2 rfl
theorem dX11_when_33 : decode cX11_when 33 = .ok (.getfield 201, 3) := dk_i kdX11_when_28 3 rfl
theorem dX11_when_36 : decode cX11_when 36 = .ok (.iload_n 1, 1) := dk_i kdX11_when_28 4 rfl
theorem dX11_when_37 : decode cX11_when 37 = .ok (.iaload, 1) := dk_i kdX11_when_28 5 rfl
theorem dX11_when_38 : decode cX11_when 38 = .ok (.aload_n 0, 1) := dk_i kdX11_when_28 6 rfl
theorem dX11_when_39 : decode cX11_when 39 = .ok (.getfield 72, 3) := dk_i kdX11_when_28 7 rfl
theorem dX11_when_42 : decode cX11_when 42 = .ok (.bipush 60, 2) := dk_i kdX11_when_28 8 rfl
theorem dX11_when_44 : decode cX11_when 44 = .ok (.invokevirtual 213, 3) := dk_i kdX11_when_28 9 rfl
theorem dX11_when_47 : decode cX11_when 47 = .ok (.istore_n 2, 1) := dk_i kdX11_when_28 10 rfl
theorem dX11_when_48 : decode cX11_when 48 = .ok (.iconst 1, 1) := dk_i kdX11_when_28 11 rfl
theorem dX11_when_49 : decode cX11_when 49 = .ok (.istore_n 3, 1) := dk_i kdX11_when_28 12 rfl
theorem dX11_when_50 : decode cX11_when 50 = .ok (.iload_n 3, 1) := dk_i kdX11_when_28 13 rfl
theorem dX11_when_51 : decode cX11_when 51 = .ok (.iload_n 2, 1) := dk_i kdX11_when_28 14 rfl
theorem dX11_when_52 : decode cX11_when 52 = .ok (.if_icmp .gt 29, 3) := dk_i kdX11_when_28 15 rfl
def ldX11_when_55 : List (Nat × ClassFile.Instr × Nat) := [(55, .aload_n 0, 1), (56, .getfield 72, 3), (59, .iload_n 3, 1), (60, .iaload, 1), (61, .aload_n 0, 1), (62, .getfield 19, 3), (65, .getfield 204, 3), (68, .iload_n 1, 1), (69, .iaload, 1), (70, .if_icmp .ne 5, 3), (73, .iload_n 3, 1), (74, .ireturn, 1), (75, .iinc 3 1, 3), (78, .goto (-28), 3), (81, .iconst (-1), 1), (82, .ireturn, 1)]
theorem kdX11_when_55 : dkO cX11_when 55 ldX11_when_55 = true := by decide +kernel
theorem dX11_when_55 : decode cX11_when 55 = .ok (.aload_n 0, 1) := dk_i kdX11_when_55 0 rfl
theorem dX11_when_56 : decode cX11_when 56 = .ok (.getfield 72, 3) := dk_i kdX11_when_55 1 rfl
theorem dX11_when_59 : decode cX11_when 59 = .ok (.iload_n 3, 1) := dk_i kdX11_when_55 2 rfl
theorem dX11_when_60 : decode cX11_when 60 = .ok (.iaload, 1) := dk_i kdX11_when_55 3 rfl
theorem dX11_when_61 : decode cX11_when 61 = .ok (.aload_n 0, 1) := dk_i kdX11_when_55 4 rfl
theorem dX11_when_62 : decode cX11_when 62 = .ok (.getfield 19, 3) := dk_i kdX11_when_55 5 rfl
theorem dX11_when_65 : decode cX11_when 65 = .ok (.getfield 204, 3) := dk_i kdX11_when_55 6 rfl
theorem dX11_when_68 : decode cX11_when 68 = .ok (.iload_n 1, 1) := dk_i kdX11_when_55 7 rfl
theorem dX11_when_69 : decode cX11_when 69 = .ok (.iaload, 1) := dk_i kdX11_when_55 8 rfl
theorem dX11_when_70 : decode cX11_when 70 = .ok (.if_icmp .ne 5, 3) := dk_i kdX11_when_55 9 rfl
theorem dX11_when_73 : decode cX11_when 73 = .ok (.iload_n 3, 1) := dk_i kdX11_when_55 10 rfl
theorem dX11_when_74 : decode cX11_when 74 = .ok (.ireturn, 1) := dk_i kdX11_when_55 11 rfl
theorem dX11_when_75 : decode cX11_when 75 = .ok (.iinc 3 1, 3) := dk_i kdX11_when_55 12 rfl
theorem dX11_when_78 : decode cX11_when 78 = .ok (.goto (-28), 3) := dk_i kdX11_when_55 13 rfl
theorem dX11_when_81 : decode cX11_when 81 = .ok (.iconst (-1), 1) := dk_i kdX11_when_55 14 rfl
theorem dX11_when_82 : decode cX11_when 82 = .ok (.ireturn, 1) := dk_i kdX11_when_55 15 rfl
def ldX11_alike_0 : List (Nat × ClassFile.Instr × Nat) := [(0, .aload_n 0, 1), (1, .getfield 19, 3), (4, .iload_n 1, 1), (5, .invokevirtual 175, 3), (8, .ifCond .eq 19, 3), (11, .aload_n 0, 1), (12, .getfield 19, 3), (15, .iload_n 2, 1), (16, .invokevirtual 175, 3), (19, .ifCond .eq 8, 3), (22, .iload_n 1, 1), (23, .iload_n 2, 1), (24, .if_icmp .ne 5, 3), (27, .iconst (-1), 1), (28, .ireturn, 1), (29, .aload_n 0, 1)]
theorem kdX11_alike_0 : dkO cX11_alike 0 ldX11_alike_0 = true := by decide +kernel
theorem dX11_alike_0 : decode cX11_alike 0 = .ok (.aload_n 0, 1) := dk_i kdX11_alike_0 0 rfl
theorem dX11_alike_1 : decode cX11_alike 1 = .ok (.getfield 19, 3) := dk_i kdX11_alike_0 1 rfl
theorem dX11_alike_4 : decode cX11_alike 4 = .ok (.iload_n 1, 1) := dk_i kdX11_alike_0 2 rfl
theorem dX11_alike_5 : decode cX11_alike 5 = .ok (.invokevirtual 175, 3) := dk_i kdX11_alike_0 3 rfl
theorem dX11_alike_8 : decode cX11_alike 8 = .ok (.ifCond .eq 19, 3) := dk_i kdX11_alike_0 4 rfl
theorem dX11_alike_11 : decode cX11_alike 11 = .ok (.aload_n 0, 1) := dk_i kdX11_alike_0 5 rfl
theorem dX11_alike_12 : decode cX11_alike 12 = .ok (.getfield 19, 3) := dk_i kdX11_alike_0 6 rfl
theorem dX11_alike_15 : decode cX11_alike 15 = .ok (.iload_n 2, 1) := dk_i kdX11_alike_0 7 rfl
theorem dX11_alike_16 : decode cX11_alike 16 = .ok (.invokevirtual 175, 3) := dk_i kdX11_alike_0 8 rfl
theorem dX11_alike_19 : decode cX11_alike 19 = .ok (.ifCond .eq 8, 3) := dk_i kdX11_alike_0 9 rfl
theorem dX11_alike_22 : decode cX11_alike 22 = .ok (.iload_n 1, 1) := dk_i kdX11_alike_0 10 rfl
theorem dX11_alike_23 : decode cX11_alike 23 = .ok (.iload_n 2, 1) := dk_i kdX11_alike_0 11 rfl
theorem dX11_alike_24 : decode cX11_alike 24 = .ok (.if_icmp .ne 5, 3) := dk_i kdX11_alike_0 12 rfl
theorem dX11_alike_27 : decode cX11_alike 27 = .ok (.iconst (-1), 1) := dk_i kdX11_alike_0 13 rfl
theorem dX11_alike_28 : decode cX11_alike 28 = .ok (.ireturn, 1) := dk_i kdX11_alike_0 14 rfl
theorem dX11_alike_29 : decode cX11_alike 29 = .ok (.aload_n 0, 1) := dk_i kdX11_alike_0 15 rfl
def ldX11_alike_30 : List (Nat × ClassFile.Instr × Nat) := [(30, .iload_n 1, 1), (31, .aload_n 0, 1), (32, .getfield 72, 3), (35, .bipush 60, 2), (37, .invokevirtual 213, 3), (40, .istore_n 3, 1), (41, .aload_n 0, 1), (42, .iload_n 2, 1), (43, .aload_n 0, 1), (44, .getfield 76, 3), (47, .bipush 60, 2), (49, .invokevirtual 213, 3), (52, .pop, 1), (53, .iconst 0, 1), (54, .istore 4, 2), (56, .iload 4, 2)]
theorem kdX11_alike_30 : dkO cX11_alike 30 ldX11_alike_30 = true := by decide +kernel
theorem dX11_alike_30 : decode cX11_alike 30 = .ok (.iload_n 1, 1) := dk_i kdX11_alike_30 0 rfl
theorem dX11_alike_31 : decode cX11_alike 31 = .ok (.aload_n 0, 1) := dk_i kdX11_alike_30 1 rfl
theorem dX11_alike_32 : decode cX11_alike 32 = .ok (.getfield 72, 3) := dk_i kdX11_alike_30 2 rfl
theorem dX11_alike_35 : decode cX11_alike 35 = .ok (.bipush 60, 2) := dk_i kdX11_alike_30 3 rfl
theorem dX11_alike_37 : decode cX11_alike 37 = .ok (.invokevirtual 213, 3) := dk_i kdX11_alike_30 4 rfl
theorem dX11_alike_40 : decode cX11_alike 40 = .ok (.istore_n 3, 1) := dk_i kdX11_alike_30 5 rfl
theorem dX11_alike_41 : decode cX11_alike 41 = .ok (.aload_n 0, 1) := dk_i kdX11_alike_30 6 rfl
theorem dX11_alike_42 : decode cX11_alike 42 = .ok (.iload_n 2, 1) := dk_i kdX11_alike_30 7 rfl
theorem dX11_alike_43 : decode cX11_alike 43 = .ok (.aload_n 0, 1) := dk_i kdX11_alike_30 8 rfl
theorem dX11_alike_44 : decode cX11_alike 44 = .ok (.getfield 76, 3) := dk_i kdX11_alike_30 9 rfl
theorem dX11_alike_47 : decode cX11_alike 47 = .ok (.bipush 60, 2) := dk_i kdX11_alike_30 10 rfl
theorem dX11_alike_49 : decode cX11_alike 49 = .ok (.invokevirtual 213, 3) := dk_i kdX11_alike_30 11 rfl
theorem dX11_alike_52 : decode cX11_alike 52 = .ok (.pop, 1) := dk_i kdX11_alike_30 12 rfl
theorem dX11_alike_53 : decode cX11_alike 53 = .ok (.iconst 0, 1) := dk_i kdX11_alike_30 13 rfl
theorem dX11_alike_54 : decode cX11_alike 54 = .ok (.istore 4, 2) := dk_i kdX11_alike_30 14 rfl
theorem dX11_alike_56 : decode cX11_alike 56 = .ok (.iload 4, 2) := dk_i kdX11_alike_30 15 rfl
def ldX11_alike_58 : List (Nat × ClassFile.Instr × Nat) := [(58, .iload_n 3, 1), (59, .if_icmp .gt 29, 3), (62, .aload_n 0, 1), (63, .getfield 72, 3), (66, .iload 4, 2), (68, .iaload, 1), (69, .aload_n 0, 1), (70, .getfield 76, 3), (73, .iload 4, 2), (75, .iaload, 1), (76, .if_icmp .ne 6, 3), (79, .iload 4, 2), (81, .ireturn, 1), (82, .iinc 4 1, 3), (85, .goto (-29), 3), (88, .iconst (-1), 1)]
theorem kdX11_alike_58 : dkO cX11_alike 58 ldX11_alike_58 = true := by decide +kernel
theorem dX11_alike_58 : decode cX11_alike 58 = .ok (.iload_n 3, 1) := dk_i kdX11_alike_58 0 rfl
theorem dX11_alike_59 : decode cX11_alike 59 = .ok (.if_icmp .gt 29, 3) := dk_i kdX11_alike_58 1 rfl
theorem dX11_alike_62 : decode cX11_alike 62 = .ok (.aload_n 0, 1) := dk_i kdX11_alike_58 2 rfl
theorem dX11_alike_63 : decode cX11_alike 63 = .ok (.getfield 72, 3) := dk_i kdX11_alike_58 3 rfl
theorem dX11_alike_66 : decode cX11_alike 66 = .ok (.iload 4, 2) := dk_i kdX11_alike_58 4 rfl
theorem dX11_alike_68 : decode cX11_alike 68 = .ok (.iaload, 1) := dk_i kdX11_alike_58 5 rfl
theorem dX11_alike_69 : decode cX11_alike 69 = .ok (.aload_n 0, 1) := dk_i kdX11_alike_58 6 rfl
theorem dX11_alike_70 : decode cX11_alike 70 = .ok (.getfield 76, 3) := dk_i kdX11_alike_58 7 rfl
theorem dX11_alike_73 : decode cX11_alike 73 = .ok (.iload 4, 2) := dk_i kdX11_alike_58 8 rfl
theorem dX11_alike_75 : decode cX11_alike 75 = .ok (.iaload, 1) := dk_i kdX11_alike_58 9 rfl
theorem dX11_alike_76 : decode cX11_alike 76 = .ok (.if_icmp .ne 6, 3) := dk_i kdX11_alike_58 10 rfl
theorem dX11_alike_79 : decode cX11_alike 79 = .ok (.iload 4, 2) := dk_i kdX11_alike_58 11 rfl
theorem dX11_alike_81 : decode cX11_alike 81 = .ok (.ireturn, 1) := dk_i kdX11_alike_58 12 rfl
theorem dX11_alike_82 : decode cX11_alike 82 = .ok (.iinc 4 1, 3) := dk_i kdX11_alike_58 13 rfl
theorem dX11_alike_85 : decode cX11_alike 85 = .ok (.goto (-29), 3) := dk_i kdX11_alike_58 14 rfl
theorem dX11_alike_88 : decode cX11_alike 88 = .ok (.iconst (-1), 1) := dk_i kdX11_alike_58 15 rfl
def ldX11_alike_89 : List (Nat × ClassFile.Instr × Nat) := [(89, .ireturn, 1)]
theorem kdX11_alike_89 : dkO cX11_alike 89 ldX11_alike_89 = true := by decide +kernel
theorem dX11_alike_89 : decode cX11_alike 89 = .ok (.ireturn, 1) := dk_i kdX11_alike_89 0 rfl
def ldX11_plan_0 : List (Nat × ClassFile.Instr × Nat) := [(0, .iload_n 1, 1), (1, .ifCond .lt 34, 3), (4, .iload_n 1, 1), (5, .iconst 1, 1), (6, .aload_n 0, 1), (7, .getfield 19, 3), (10, .getfield 145, 3), (13, .ishl, 1), (14, .if_icmp .ge 21, 3), (17, .iload_n 2, 1), (18, .ifCond .lt 17, 3), (21, .iload_n 2, 1), (22, .bipush 20, 2), (24, .if_icmp .gt 11, 3), (27, .aload_n 0, 1), (28, .iload_n 2, 1)]
theorem kdX11_plan_0 : dkO cX11_plan 0 ldX11_plan_0 = true := by decide +kernel
theorem dX11_plan_0 : decode cX11_plan 0 = .ok (.iload_n 1, 1) := dk_i kdX11_plan_0 0 rfl
theorem dX11_plan_1 : decode cX11_plan 1 = .ok (.ifCond .lt 34, 3) := dk_i kdX11_plan_0 1 rfl
theorem dX11_plan_4 : decode cX11_plan 4 = .ok (.iload_n 1, 1) := dk_i kdX11_plan_0 2 rfl
theorem dX11_plan_5 : decode cX11_plan 5 = .ok (.iconst 1, 1) := dk_i kdX11_plan_0 3 rfl
theorem dX11_plan_6 : decode cX11_plan 6 = .ok (.aload_n 0, 1) := dk_i kdX11_plan_0 4 rfl
theorem dX11_plan_7 : decode cX11_plan 7 = .ok (.getfield 19, 3) := dk_i kdX11_plan_0 5 rfl
theorem dX11_plan_10 : decode cX11_plan 10 = .ok (.getfield 145, 3) := dk_i kdX11_plan_0 6 rfl
theorem dX11_plan_13 : decode cX11_plan 13 = .ok (.ishl, 1) := dk_i kdX11_plan_0 7 rfl
theorem dX11_plan_14 : decode cX11_plan 14 = .ok (.if_icmp .ge 21, 3) := dk_i kdX11_plan_0 8 rfl
theorem dX11_plan_17 : decode cX11_plan 17 = .ok (.iload_n 2, 1) := dk_i kdX11_plan_0 9 rfl
theorem dX11_plan_18 : decode cX11_plan 18 = .ok (.ifCond .lt 17, 3) := dk_i kdX11_plan_0 10 rfl
theorem dX11_plan_21 : decode cX11_plan 21 = .ok (.iload_n 2, 1) := dk_i kdX11_plan_0 11 rfl
theorem dX11_plan_22 : decode cX11_plan 22 = .ok (.bipush 20, 2) := dk_i kdX11_plan_0 12 rfl
theorem dX11_plan_24 : decode cX11_plan 24 = .ok (.if_icmp .gt 11, 3) := dk_i kdX11_plan_0 13 rfl
theorem dX11_plan_27 : decode cX11_plan 27 = .ok (.aload_n 0, 1) := dk_i kdX11_plan_0 14 rfl
theorem dX11_plan_28 : decode cX11_plan 28 = .ok (.iload_n 2, 1) := dk_i kdX11_plan_0 15 rfl
def ldX11_plan_29 : List (Nat × ClassFile.Instr × Nat) := [(29, .invokevirtual 210, 3), (32, .ifCond .eq 5, 3), (35, .iconst (-1), 1), (36, .ireturn, 1), (37, .iload_n 3, 1), (38, .iconst (-1), 1), (39, .if_icmp .eq 16, 3), (42, .aload_n 0, 1), (43, .getfield 19, 3), (46, .iload_n 3, 1), (47, .invokevirtual 175, 3), (50, .ifCond .ne 5, 3), (53, .iconst (-1), 1), (54, .ireturn, 1), (55, .aload_n 0, 1), (56, .iload_n 1, 1)]
theorem kdX11_plan_29 : dkO cX11_plan 29 ldX11_plan_29 = true := by decide +kernel
theorem dX11_plan_29 : decode cX11_plan 29 = .ok (.invokevirtual 210, 3) := dk_i kdX11_plan_29 0 rfl
theorem dX11_plan_32 : decode cX11_plan 32 = .ok (.ifCond .eq 5, 3) := dk_i kdX11_plan_29 1 rfl
theorem dX11_plan_35 : decode cX11_plan 35 = .ok (.iconst (-1), 1) := dk_i kdX11_plan_29 2 rfl
theorem dX11_plan_36 : decode cX11_plan 36 = .ok (.ireturn, 1) := dk_i kdX11_plan_29 3 rfl
theorem dX11_plan_37 : decode cX11_plan 37 = .ok (.iload_n 3, 1) := dk_i kdX11_plan_29 4 rfl
theorem dX11_plan_38 : decode cX11_plan 38 = .ok (.iconst (-1), 1) := dk_i kdX11_plan_29 5 rfl
theorem dX11_plan_39 : decode cX11_plan 39 = .ok (.if_icmp .eq 16, 3) := dk_i kdX11_plan_29 6 rfl
theorem dX11_plan_42 : decode cX11_plan 42 = .ok (.aload_n 0, 1) := dk_i kdX11_plan_29 7 rfl
theorem dX11_plan_43 : decode cX11_plan 43 = .ok (.getfield 19, 3) := dk_i kdX11_plan_29 8 rfl
theorem dX11_plan_46 : decode cX11_plan 46 = .ok (.iload_n 3, 1) := dk_i kdX11_plan_29 9 rfl
theorem dX11_plan_47 : decode cX11_plan 47 = .ok (.invokevirtual 175, 3) := dk_i kdX11_plan_29 10 rfl
theorem dX11_plan_50 : decode cX11_plan 50 = .ok (.ifCond .ne 5, 3) := dk_i kdX11_plan_29 11 rfl
theorem dX11_plan_53 : decode cX11_plan 53 = .ok (.iconst (-1), 1) := dk_i kdX11_plan_29 12 rfl
theorem dX11_plan_54 : decode cX11_plan 54 = .ok (.ireturn, 1) := dk_i kdX11_plan_29 13 rfl
theorem dX11_plan_55 : decode cX11_plan 55 = .ok (.aload_n 0, 1) := dk_i kdX11_plan_29 14 rfl
theorem dX11_plan_56 : decode cX11_plan 56 = .ok (.iload_n 1, 1) := dk_i kdX11_plan_29 15 rfl
def ldX11_plan_57 : List (Nat × ClassFile.Instr × Nat) := [(57, .iload_n 2, 1), (58, .invokevirtual 217, 3), (61, .ifCond .ne 28, 3), (64, .aload_n 0, 1), (65, .iload_n 1, 1), (66, .iload_n 2, 1), (67, .invokevirtual 221, 3), (70, .ifCond .eq 23, 3), (73, .aload_n 0, 1), (74, .invokevirtual 224, 3), (77, .ifCond .gt 12, 3), (80, .aload_n 0, 1), (81, .iload_n 1, 1), (82, .iload_n 2, 1), (83, .invokevirtual 227, 3), (86, .ifCond .eq 7, 3)]
theorem kdX11_plan_57 : dkO cX11_plan 57 ldX11_plan_57 = true := by decide +kernel
theorem dX11_plan_57 : decode cX11_plan 57 = .ok (.iload_n 2, 1) := dk_i kdX11_plan_57 0 rfl
theorem dX11_plan_58 : decode cX11_plan 58 = .ok (.invokevirtual 217, 3) := dk_i kdX11_plan_57 1 rfl
theorem dX11_plan_61 : decode cX11_plan 61 = .ok (.ifCond .ne 28, 3) := dk_i kdX11_plan_57 2 rfl
theorem dX11_plan_64 : decode cX11_plan 64 = .ok (.aload_n 0, 1) := dk_i kdX11_plan_57 3 rfl
theorem dX11_plan_65 : decode cX11_plan 65 = .ok (.iload_n 1, 1) := dk_i kdX11_plan_57 4 rfl
theorem dX11_plan_66 : decode cX11_plan 66 = .ok (.iload_n 2, 1) := dk_i kdX11_plan_57 5 rfl
theorem dX11_plan_67 : decode cX11_plan 67 = .ok (.invokevirtual 221, 3) := dk_i kdX11_plan_57 6 rfl
theorem dX11_plan_70 : decode cX11_plan 70 = .ok (.ifCond .eq 23, 3) := dk_i kdX11_plan_57 7 rfl
theorem dX11_plan_73 : decode cX11_plan 73 = .ok (.aload_n 0, 1) := dk_i kdX11_plan_57 8 rfl
theorem dX11_plan_74 : decode cX11_plan 74 = .ok (.invokevirtual 224, 3) := dk_i kdX11_plan_57 9 rfl
theorem dX11_plan_77 : decode cX11_plan 77 = .ok (.ifCond .gt 12, 3) := dk_i kdX11_plan_57 10 rfl
theorem dX11_plan_80 : decode cX11_plan 80 = .ok (.aload_n 0, 1) := dk_i kdX11_plan_57 11 rfl
theorem dX11_plan_81 : decode cX11_plan 81 = .ok (.iload_n 1, 1) := dk_i kdX11_plan_57 12 rfl
theorem dX11_plan_82 : decode cX11_plan 82 = .ok (.iload_n 2, 1) := dk_i kdX11_plan_57 13 rfl
theorem dX11_plan_83 : decode cX11_plan 83 = .ok (.invokevirtual 227, 3) := dk_i kdX11_plan_57 14 rfl
theorem dX11_plan_86 : decode cX11_plan 86 = .ok (.ifCond .eq 7, 3) := dk_i kdX11_plan_57 15 rfl
def ldX11_plan_89 : List (Nat × ClassFile.Instr × Nat) := [(89, .iconst 1, 1), (90, .goto 4, 3), (93, .iconst 0, 1), (94, .istore 4, 2), (96, .iload 4, 2), (98, .ifCond .ne 5, 3), (101, .iconst (-1), 1), (102, .ireturn, 1), (103, .iload_n 3, 1), (104, .iconst (-1), 1), (105, .if_icmp .ne 10, 3), (108, .aload_n 0, 1), (109, .invokevirtual 224, 3), (112, .goto 9, 3), (115, .aload_n 0, 1), (116, .getfield 79, 3)]
theorem kdX11_plan_89 : dkO cX11_plan 89 ldX11_plan_89 = true := by decide +kernel
theorem dX11_plan_89 : decode cX11_plan 89 = .ok (.iconst 1, 1) := dk_i kdX11_plan_89 0 rfl
theorem dX11_plan_90 : decode cX11_plan 90 = .ok (.goto 4, 3) := dk_i kdX11_plan_89 1 rfl
theorem dX11_plan_93 : decode cX11_plan 93 = .ok (.iconst 0, 1) := dk_i kdX11_plan_89 2 rfl
theorem dX11_plan_94 : decode cX11_plan 94 = .ok (.istore 4, 2) := dk_i kdX11_plan_89 3 rfl
theorem dX11_plan_96 : decode cX11_plan 96 = .ok (.iload 4, 2) := dk_i kdX11_plan_89 4 rfl
theorem dX11_plan_98 : decode cX11_plan 98 = .ok (.ifCond .ne 5, 3) := dk_i kdX11_plan_89 5 rfl
theorem dX11_plan_101 : decode cX11_plan 101 = .ok (.iconst (-1), 1) := dk_i kdX11_plan_89 6 rfl
theorem dX11_plan_102 : decode cX11_plan 102 = .ok (.ireturn, 1) := dk_i kdX11_plan_89 7 rfl
theorem dX11_plan_103 : decode cX11_plan 103 = .ok (.iload_n 3, 1) := dk_i kdX11_plan_89 8 rfl
theorem dX11_plan_104 : decode cX11_plan 104 = .ok (.iconst (-1), 1) := dk_i kdX11_plan_89 9 rfl
theorem dX11_plan_105 : decode cX11_plan 105 = .ok (.if_icmp .ne 10, 3) := dk_i kdX11_plan_89 10 rfl
theorem dX11_plan_108 : decode cX11_plan 108 = .ok (.aload_n 0, 1) := dk_i kdX11_plan_89 11 rfl
theorem dX11_plan_109 : decode cX11_plan 109 = .ok (.invokevirtual 224, 3) := dk_i kdX11_plan_89 12 rfl
theorem dX11_plan_112 : decode cX11_plan 112 = .ok (.goto 9, 3) := dk_i kdX11_plan_89 13 rfl
theorem dX11_plan_115 : decode cX11_plan 115 = .ok (.aload_n 0, 1) := dk_i kdX11_plan_89 14 rfl
theorem dX11_plan_116 : decode cX11_plan 116 = .ok (.getfield 79, 3) := dk_i kdX11_plan_89 15 rfl
def ldX11_plan_119 : List (Nat × ClassFile.Instr × Nat) := [(119, .iload_n 3, 1), (120, .iaload, 1), (121, .ireturn, 1)]
theorem kdX11_plan_119 : dkO cX11_plan 119 ldX11_plan_119 = true := by decide +kernel
theorem dX11_plan_119 : decode cX11_plan 119 = .ok (.iload_n 3, 1) := dk_i kdX11_plan_119 0 rfl
theorem dX11_plan_120 : decode cX11_plan 120 = .ok (.iaload, 1) := dk_i kdX11_plan_119 1 rfl
theorem dX11_plan_121 : decode cX11_plan 121 = .ok (.ireturn, 1) := dk_i kdX11_plan_119 2 rfl
def ldX11_evening_0 : List (Nat × ClassFile.Instr × Nat) := [(0, .aload_n 0, 1), (1, .getfield 19, 3), (4, .iload_n 1, 1), (5, .invokevirtual 175, 3), (8, .ifCond .eq 22, 3), (11, .aload_n 0, 1), (12, .getfield 19, 3), (15, .getfield 136, 3), (18, .ifCond .eq 12, 3), (21, .iload_n 2, 1), (22, .ifCond .lt 8, 3), (25, .iload_n 2, 1), (26, .iconst 1, 1), (27, .if_icmp .le 5, 3), (30, .iconst (-1), 1), (31, .ireturn, 1)]
theorem kdX11_evening_0 : dkO cX11_evening 0 ldX11_evening_0 = true := by decide +kernel
theorem dX11_evening_0 : decode cX11_evening 0 = .ok (.aload_n 0, 1) := dk_i kdX11_evening_0 0 rfl
theorem dX11_evening_1 : decode cX11_evening 1 = .ok (.getfield 19, 3) := dk_i kdX11_evening_0 1 rfl
theorem dX11_evening_4 : decode cX11_evening 4 = .ok (.iload_n 1, 1) := dk_i kdX11_evening_0 2 rfl
theorem dX11_evening_5 : decode cX11_evening 5 = .ok (.invokevirtual 175, 3) := dk_i kdX11_evening_0 3 rfl
theorem dX11_evening_8 : decode cX11_evening 8 = .ok (.ifCond .eq 22, 3) := dk_i kdX11_evening_0 4 rfl
theorem dX11_evening_11 : decode cX11_evening 11 = .ok (.aload_n 0, 1) := dk_i kdX11_evening_0 5 rfl
theorem dX11_evening_12 : decode cX11_evening 12 = .ok (.getfield 19, 3) := dk_i kdX11_evening_0 6 rfl
theorem dX11_evening_15 : decode cX11_evening 15 = .ok (.getfield 136, 3) := dk_i kdX11_evening_0 7 rfl
theorem dX11_evening_18 : decode cX11_evening 18 = .ok (.ifCond .eq 12, 3) := dk_i kdX11_evening_0 8 rfl
theorem dX11_evening_21 : decode cX11_evening 21 = .ok (.iload_n 2, 1) := dk_i kdX11_evening_0 9 rfl
theorem dX11_evening_22 : decode cX11_evening 22 = .ok (.ifCond .lt 8, 3) := dk_i kdX11_evening_0 10 rfl
theorem dX11_evening_25 : decode cX11_evening 25 = .ok (.iload_n 2, 1) := dk_i kdX11_evening_0 11 rfl
theorem dX11_evening_26 : decode cX11_evening 26 = .ok (.iconst 1, 1) := dk_i kdX11_evening_0 12 rfl
theorem dX11_evening_27 : decode cX11_evening 27 = .ok (.if_icmp .le 5, 3) := dk_i kdX11_evening_0 13 rfl
theorem dX11_evening_30 : decode cX11_evening 30 = .ok (.iconst (-1), 1) := dk_i kdX11_evening_0 14 rfl
theorem dX11_evening_31 : decode cX11_evening 31 = .ok (.ireturn, 1) := dk_i kdX11_evening_0 15 rfl
def ldX11_evening_32 : List (Nat × ClassFile.Instr × Nat) := [(32, .iconst 0, 1), (33, .istore_n 3, 1), (34, .iconst (-1), 1), (35, .istore 4, 2), (37, .iconst 0, 1), (38, .istore 5, 2), (40, .iload 5, 2), (42, .aload_n 0, 1), (43, .getfield 19, 3), (46, .getfield 136, 3), (49, .if_icmp .ge 32, 3), (52, .aload_n 0, 1), (53, .iload_n 1, 1), (54, .iload 5, 2), (56, .invokevirtual 230, 3), (59, .istore 6, 2)]
theorem kdX11_evening_32 : dkO cX11_evening 32 ldX11_evening_32 = true := by decide +kernel
theorem dX11_evening_32 : decode cX11_evening 32 = .ok (.iconst 0, 1) := dk_i kdX11_evening_32 0 rfl
theorem dX11_evening_33 : decode cX11_evening 33 = .ok (.istore_n 3, 1) := dk_i kdX11_evening_32 1 rfl
theorem dX11_evening_34 : decode cX11_evening 34 = .ok (.iconst (-1), 1) := dk_i kdX11_evening_32 2 rfl
theorem dX11_evening_35 : decode cX11_evening 35 = .ok (.istore 4, 2) := dk_i kdX11_evening_32 3 rfl
theorem dX11_evening_37 : decode cX11_evening 37 = .ok (.iconst 0, 1) := dk_i kdX11_evening_32 4 rfl
theorem dX11_evening_38 : decode cX11_evening 38 = .ok (.istore 5, 2) := dk_i kdX11_evening_32 5 rfl
theorem dX11_evening_40 : decode cX11_evening 40 = .ok (.iload 5, 2) := dk_i kdX11_evening_32 6 rfl
theorem dX11_evening_42 : decode cX11_evening 42 = .ok (.aload_n 0, 1) := dk_i kdX11_evening_32 7 rfl
theorem dX11_evening_43 : decode cX11_evening 43 = .ok (.getfield 19, 3) := dk_i kdX11_evening_32 8 rfl
theorem dX11_evening_46 : decode cX11_evening 46 = .ok (.getfield 136, 3) := dk_i kdX11_evening_32 9 rfl
theorem dX11_evening_49 : decode cX11_evening 49 = .ok (.if_icmp .ge 32, 3) := dk_i kdX11_evening_32 10 rfl
theorem dX11_evening_52 : decode cX11_evening 52 = .ok (.aload_n 0, 1) := dk_i kdX11_evening_32 11 rfl
theorem dX11_evening_53 : decode cX11_evening 53 = .ok (.iload_n 1, 1) := dk_i kdX11_evening_32 12 rfl
theorem dX11_evening_54 : decode cX11_evening 54 = .ok (.iload 5, 2) := dk_i kdX11_evening_32 13 rfl
theorem dX11_evening_56 : decode cX11_evening 56 = .ok (.invokevirtual 230, 3) := dk_i kdX11_evening_32 14 rfl
theorem dX11_evening_59 : decode cX11_evening 59 = .ok (.istore 6, 2) := dk_i kdX11_evening_32 15 rfl
def ldX11_evening_61 : List (Nat × ClassFile.Instr × Nat) := [(61, .iload 6, 2), (63, .iload 4, 2), (65, .if_icmp .le 10, 3), (68, .iload 5, 2), (70, .istore_n 3, 1), (71, .iload 6, 2), (73, .istore 4, 2), (75, .iinc 5 1, 3), (78, .goto (-38), 3), (81, .iload_n 2, 1), (82, .ifCond .ne 7, 3), (85, .iload_n 3, 1), (86, .goto 5, 3), (89, .iload 4, 2), (91, .ireturn, 1)]
theorem kdX11_evening_61 : dkO cX11_evening 61 ldX11_evening_61 = true := by decide +kernel
theorem dX11_evening_61 : decode cX11_evening 61 = .ok (.iload 6, 2) := dk_i kdX11_evening_61 0 rfl
theorem dX11_evening_63 : decode cX11_evening 63 = .ok (.iload 4, 2) := dk_i kdX11_evening_61 1 rfl
theorem dX11_evening_65 : decode cX11_evening 65 = .ok (.if_icmp .le 10, 3) := dk_i kdX11_evening_61 2 rfl
theorem dX11_evening_68 : decode cX11_evening 68 = .ok (.iload 5, 2) := dk_i kdX11_evening_61 3 rfl
theorem dX11_evening_70 : decode cX11_evening 70 = .ok (.istore_n 3, 1) := dk_i kdX11_evening_61 4 rfl
theorem dX11_evening_71 : decode cX11_evening 71 = .ok (.iload 6, 2) := dk_i kdX11_evening_61 5 rfl
theorem dX11_evening_73 : decode cX11_evening 73 = .ok (.istore 4, 2) := dk_i kdX11_evening_61 6 rfl
theorem dX11_evening_75 : decode cX11_evening 75 = .ok (.iinc 5 1, 3) := dk_i kdX11_evening_61 7 rfl
theorem dX11_evening_78 : decode cX11_evening 78 = .ok (.goto (-38), 3) := dk_i kdX11_evening_61 8 rfl
theorem dX11_evening_81 : decode cX11_evening 81 = .ok (.iload_n 2, 1) := dk_i kdX11_evening_61 9 rfl
theorem dX11_evening_82 : decode cX11_evening 82 = .ok (.ifCond .ne 7, 3) := dk_i kdX11_evening_61 10 rfl
theorem dX11_evening_85 : decode cX11_evening 85 = .ok (.iload_n 3, 1) := dk_i kdX11_evening_61 11 rfl
theorem dX11_evening_86 : decode cX11_evening 86 = .ok (.goto 5, 3) := dk_i kdX11_evening_61 12 rfl
theorem dX11_evening_89 : decode cX11_evening 89 = .ok (.iload 4, 2) := dk_i kdX11_evening_61 13 rfl
theorem dX11_evening_91 : decode cX11_evening 91 = .ok (.ireturn, 1) := dk_i kdX11_evening_61 14 rfl
def ldX11_odds_0 : List (Nat × ClassFile.Instr × Nat) := [(0, .aload_n 0, 1), (1, .getfield 19, 3), (4, .iload_n 1, 1), (5, .invokevirtual 175, 3), (8, .ifCond .eq 31, 3), (11, .aload_n 0, 1), (12, .getfield 19, 3), (15, .getfield 136, 3), (18, .ifCond .eq 21, 3), (21, .iload_n 3, 1), (22, .iconst 1, 1), (23, .if_icmp .lt 16, 3), (26, .iload_n 3, 1), (27, .iconst 2, 1), (28, .if_icmp .gt 11, 3), (31, .aload_n 0, 1)]
theorem kdX11_odds_0 : dkO cX11_odds 0 ldX11_odds_0 = true := by decide +kernel
theorem dX11_odds_0 : decode cX11_odds 0 = .ok (.aload_n 0, 1) := dk_i kdX11_odds_0 0 rfl
theorem dX11_odds_1 : decode cX11_odds 1 = .ok (.getfield 19, 3) := dk_i kdX11_odds_0 1 rfl
theorem dX11_odds_4 : decode cX11_odds 4 = .ok (.iload_n 1, 1) := dk_i kdX11_odds_0 2 rfl
theorem dX11_odds_5 : decode cX11_odds 5 = .ok (.invokevirtual 175, 3) := dk_i kdX11_odds_0 3 rfl
theorem dX11_odds_8 : decode cX11_odds 8 = .ok (.ifCond .eq 31, 3) := dk_i kdX11_odds_0 4 rfl
theorem dX11_odds_11 : decode cX11_odds 11 = .ok (.aload_n 0, 1) := dk_i kdX11_odds_0 5 rfl
theorem dX11_odds_12 : decode cX11_odds 12 = .ok (.getfield 19, 3) := dk_i kdX11_odds_0 6 rfl
theorem dX11_odds_15 : decode cX11_odds 15 = .ok (.getfield 136, 3) := dk_i kdX11_odds_0 7 rfl
theorem dX11_odds_18 : decode cX11_odds 18 = .ok (.ifCond .eq 21, 3) := dk_i kdX11_odds_0 8 rfl
theorem dX11_odds_21 : decode cX11_odds 21 = .ok (.iload_n 3, 1) := dk_i kdX11_odds_0 9 rfl
theorem dX11_odds_22 : decode cX11_odds 22 = .ok (.iconst 1, 1) := dk_i kdX11_odds_0 10 rfl
theorem dX11_odds_23 : decode cX11_odds 23 = .ok (.if_icmp .lt 16, 3) := dk_i kdX11_odds_0 11 rfl
theorem dX11_odds_26 : decode cX11_odds 26 = .ok (.iload_n 3, 1) := dk_i kdX11_odds_0 12 rfl
theorem dX11_odds_27 : decode cX11_odds 27 = .ok (.iconst 2, 1) := dk_i kdX11_odds_0 13 rfl
theorem dX11_odds_28 : decode cX11_odds 28 = .ok (.if_icmp .gt 11, 3) := dk_i kdX11_odds_0 14 rfl
theorem dX11_odds_31 : decode cX11_odds 31 = .ok (.aload_n 0, 1) := dk_i kdX11_odds_0 15 rfl
def ldX11_odds_32 : List (Nat × ClassFile.Instr × Nat) := [(32, .iload_n 3, 1), (33, .invokevirtual 210, 3), (36, .ifCond .eq 7, 3), (39, .ldc2_w 233, 3), (42, .lreturn, 1), (43, .iload_n 2, 1), (44, .iconst (-1), 1), (45, .if_icmp .lt 9, 3), (48, .iload_n 2, 1), (49, .bipush 23, 2), (51, .if_icmp .le 7, 3), (54, .ldc2_w 233, 3), (57, .lreturn, 1), (58, .iload_n 2, 1), (59, .iconst (-1), 1), (60, .if_icmp .ne 42, 3)]
theorem kdX11_odds_32 : dkO cX11_odds 32 ldX11_odds_32 = true := by decide +kernel
theorem dX11_odds_32 : decode cX11_odds 32 = .ok (.iload_n 3, 1) := dk_i kdX11_odds_32 0 rfl
theorem dX11_odds_33 : decode cX11_odds 33 = .ok (.invokevirtual 210, 3) := dk_i kdX11_odds_32 1 rfl
theorem dX11_odds_36 : decode cX11_odds 36 = .ok (.ifCond .eq 7, 3) := dk_i kdX11_odds_32 2 rfl
theorem dX11_odds_39 : decode cX11_odds 39 = .ok (.ldc2_w 233, 3) := dk_i kdX11_odds_32 3 rfl
theorem dX11_odds_42 : decode cX11_odds 42 = .ok (.lreturn, 1) := dk_i kdX11_odds_32 4 rfl
theorem dX11_odds_43 : decode cX11_odds 43 = .ok (.iload_n 2, 1) := dk_i kdX11_odds_32 5 rfl
theorem dX11_odds_44 : decode cX11_odds 44 = .ok (.iconst (-1), 1) := dk_i kdX11_odds_32 6 rfl
theorem dX11_odds_45 : decode cX11_odds 45 = .ok (.if_icmp .lt 9, 3) := dk_i kdX11_odds_32 7 rfl
theorem dX11_odds_48 : decode cX11_odds 48 = .ok (.iload_n 2, 1) := dk_i kdX11_odds_32 8 rfl
theorem dX11_odds_49 : decode cX11_odds 49 = .ok (.bipush 23, 2) := dk_i kdX11_odds_32 9 rfl
theorem dX11_odds_51 : decode cX11_odds 51 = .ok (.if_icmp .le 7, 3) := dk_i kdX11_odds_32 10 rfl
theorem dX11_odds_54 : decode cX11_odds 54 = .ok (.ldc2_w 233, 3) := dk_i kdX11_odds_32 11 rfl
theorem dX11_odds_57 : decode cX11_odds 57 = .ok (.lreturn, 1) := dk_i kdX11_odds_32 12 rfl
theorem dX11_odds_58 : decode cX11_odds 58 = .ok (.iload_n 2, 1) := dk_i kdX11_odds_32 13 rfl
theorem dX11_odds_59 : decode cX11_odds 59 = .ok (.iconst (-1), 1) := dk_i kdX11_odds_32 14 rfl
theorem dX11_odds_60 : decode cX11_odds 60 = .ok (.if_icmp .ne 42, 3) := dk_i kdX11_odds_32 15 rfl
def ldX11_odds_63 : List (Nat × ClassFile.Instr × Nat) := [(63, .ldc2_w 235, 3), (66, .aload_n 0, 1), (67, .getfield 19, 3), (70, .getfield 139, 3), (73, .i2l, 1), (74, .lmul, 1), (75, .aload_n 0, 1), (76, .getfield 19, 3), (79, .getfield 136, 3), (82, .i2l, 1), (83, .lmul, 1), (84, .lstore 4, 2), (86, .iload_n 3, 1), (87, .iconst 1, 1), (88, .if_icmp .ne 8, 3), (91, .lload 4, 2)]
theorem kdX11_odds_63 : dkO cX11_odds 63 ldX11_odds_63 = true := by decide +kernel
theorem dX11_odds_63 : decode cX11_odds 63 = .ok (.ldc2_w 235, 3) := dk_i kdX11_odds_63 0 rfl
theorem dX11_odds_66 : decode cX11_odds 66 = .ok (.aload_n 0, 1) := dk_i kdX11_odds_63 1 rfl
theorem dX11_odds_67 : decode cX11_odds 67 = .ok (.getfield 19, 3) := dk_i kdX11_odds_63 2 rfl
theorem dX11_odds_70 : decode cX11_odds 70 = .ok (.getfield 139, 3) := dk_i kdX11_odds_63 3 rfl
theorem dX11_odds_73 : decode cX11_odds 73 = .ok (.i2l, 1) := dk_i kdX11_odds_63 4 rfl
theorem dX11_odds_74 : decode cX11_odds 74 = .ok (.lmul, 1) := dk_i kdX11_odds_63 5 rfl
theorem dX11_odds_75 : decode cX11_odds 75 = .ok (.aload_n 0, 1) := dk_i kdX11_odds_63 6 rfl
theorem dX11_odds_76 : decode cX11_odds 76 = .ok (.getfield 19, 3) := dk_i kdX11_odds_63 7 rfl
theorem dX11_odds_79 : decode cX11_odds 79 = .ok (.getfield 136, 3) := dk_i kdX11_odds_63 8 rfl
theorem dX11_odds_82 : decode cX11_odds 82 = .ok (.i2l, 1) := dk_i kdX11_odds_63 9 rfl
theorem dX11_odds_83 : decode cX11_odds 83 = .ok (.lmul, 1) := dk_i kdX11_odds_63 10 rfl
theorem dX11_odds_84 : decode cX11_odds 84 = .ok (.lstore 4, 2) := dk_i kdX11_odds_63 11 rfl
theorem dX11_odds_86 : decode cX11_odds 86 = .ok (.iload_n 3, 1) := dk_i kdX11_odds_63 12 rfl
theorem dX11_odds_87 : decode cX11_odds 87 = .ok (.iconst 1, 1) := dk_i kdX11_odds_63 13 rfl
theorem dX11_odds_88 : decode cX11_odds 88 = .ok (.if_icmp .ne 8, 3) := dk_i kdX11_odds_63 14 rfl
theorem dX11_odds_91 : decode cX11_odds 91 = .ok (.lload 4, 2) := dk_i kdX11_odds_63 15 rfl
def ldX11_odds_93 : List (Nat × ClassFile.Instr × Nat) := [(93, .goto 8, 3), (96, .lload 4, 2), (98, .lload 4, 2), (100, .lmul, 1), (101, .lreturn, 1), (102, .aload_n 0, 1), (103, .iload_n 1, 1), (104, .invokevirtual 237, 3), (107, .iload_n 3, 1), (108, .iconst 1, 1), (109, .if_icmp .ne 11, 3), (112, .aload_n 0, 1), (113, .iload_n 2, 1), (114, .invokevirtual 240, 3), (117, .goto 8, 3), (120, .aload_n 0, 1)]
theorem kdX11_odds_93 : dkO cX11_odds 93 ldX11_odds_93 = true := by decide +kernel
theorem dX11_odds_93 : decode cX11_odds 93 = .ok (.goto 8, 3) := dk_i kdX11_odds_93 0 rfl
theorem dX11_odds_96 : decode cX11_odds 96 = .ok (.lload 4, 2) := dk_i kdX11_odds_93 1 rfl
theorem dX11_odds_98 : decode cX11_odds 98 = .ok (.lload 4, 2) := dk_i kdX11_odds_93 2 rfl
theorem dX11_odds_100 : decode cX11_odds 100 = .ok (.lmul, 1) := dk_i kdX11_odds_93 3 rfl
theorem dX11_odds_101 : decode cX11_odds 101 = .ok (.lreturn, 1) := dk_i kdX11_odds_93 4 rfl
theorem dX11_odds_102 : decode cX11_odds 102 = .ok (.aload_n 0, 1) := dk_i kdX11_odds_93 5 rfl
theorem dX11_odds_103 : decode cX11_odds 103 = .ok (.iload_n 1, 1) := dk_i kdX11_odds_93 6 rfl
theorem dX11_odds_104 : decode cX11_odds 104 = .ok (.invokevirtual 237, 3) := dk_i kdX11_odds_93 7 rfl
theorem dX11_odds_107 : decode cX11_odds 107 = .ok (.iload_n 3, 1) := dk_i kdX11_odds_93 8 rfl
theorem dX11_odds_108 : decode cX11_odds 108 = .ok (.iconst 1, 1) := dk_i kdX11_odds_93 9 rfl
theorem dX11_odds_109 : decode cX11_odds 109 = .ok (.if_icmp .ne 11, 3) := dk_i kdX11_odds_93 10 rfl
theorem dX11_odds_112 : decode cX11_odds 112 = .ok (.aload_n 0, 1) := dk_i kdX11_odds_93 11 rfl
theorem dX11_odds_113 : decode cX11_odds 113 = .ok (.iload_n 2, 1) := dk_i kdX11_odds_93 12 rfl
theorem dX11_odds_114 : decode cX11_odds 114 = .ok (.invokevirtual 240, 3) := dk_i kdX11_odds_93 13 rfl
theorem dX11_odds_117 : decode cX11_odds 117 = .ok (.goto 8, 3) := dk_i kdX11_odds_93 14 rfl
theorem dX11_odds_120 : decode cX11_odds 120 = .ok (.aload_n 0, 1) := dk_i kdX11_odds_93 15 rfl
def ldX11_odds_121 : List (Nat × ClassFile.Instr × Nat) := [(121, .iload_n 2, 1), (122, .invokevirtual 244, 3), (125, .lreturn, 1)]
theorem kdX11_odds_121 : dkO cX11_odds 121 ldX11_odds_121 = true := by decide +kernel
theorem dX11_odds_121 : decode cX11_odds 121 = .ok (.iload_n 2, 1) := dk_i kdX11_odds_121 0 rfl
theorem dX11_odds_122 : decode cX11_odds 122 = .ok (.invokevirtual 244, 3) := dk_i kdX11_odds_121 1 rfl
theorem dX11_odds_125 : decode cX11_odds 125 = .ok (.lreturn, 1) := dk_i kdX11_odds_121 2 rfl
def ldX11_way_0 : List (Nat × ClassFile.Instr × Nat) := [(0, .aload_n 0, 1), (1, .getfield 19, 3), (4, .iload_n 1, 1), (5, .invokevirtual 175, 3), (8, .ifCond .eq 14, 3), (11, .aload_n 0, 1), (12, .getfield 19, 3), (15, .iload_n 2, 1), (16, .invokevirtual 175, 3), (19, .ifCond .ne 5, 3), (22, .iconst (-1), 1), (23, .ireturn, 1), (24, .aload_n 0, 1), (25, .getfield 61, 3), (28, .aload_n 0, 1), (29, .getfield 19, 3)]
theorem kdX11_way_0 : dkO cX11_way 0 ldX11_way_0 = true := by decide +kernel
theorem dX11_way_0 : decode cX11_way 0 = .ok (.aload_n 0, 1) := dk_i kdX11_way_0 0 rfl
theorem dX11_way_1 : decode cX11_way 1 = .ok (.getfield 19, 3) := dk_i kdX11_way_0 1 rfl
theorem dX11_way_4 : decode cX11_way 4 = .ok (.iload_n 1, 1) := dk_i kdX11_way_0 2 rfl
theorem dX11_way_5 : decode cX11_way 5 = .ok (.invokevirtual 175, 3) := dk_i kdX11_way_0 3 rfl
theorem dX11_way_8 : decode cX11_way 8 = .ok (.ifCond .eq 14, 3) := dk_i kdX11_way_0 4 rfl
theorem dX11_way_11 : decode cX11_way 11 = .ok (.aload_n 0, 1) := dk_i kdX11_way_0 5 rfl
theorem dX11_way_12 : decode cX11_way 12 = .ok (.getfield 19, 3) := dk_i kdX11_way_0 6 rfl
theorem dX11_way_15 : decode cX11_way 15 = .ok (.iload_n 2, 1) := dk_i kdX11_way_0 7 rfl
theorem dX11_way_16 : decode cX11_way 16 = .ok (.invokevirtual 175, 3) := dk_i kdX11_way_0 8 rfl
theorem dX11_way_19 : decode cX11_way 19 = .ok (.ifCond .ne 5, 3) := dk_i kdX11_way_0 9 rfl
theorem dX11_way_22 : decode cX11_way 22 = .ok (.iconst (-1), 1) := dk_i kdX11_way_0 10 rfl
theorem dX11_way_23 : decode cX11_way 23 = .ok (.ireturn, 1) := dk_i kdX11_way_0 11 rfl
theorem dX11_way_24 : decode cX11_way 24 = .ok (.aload_n 0, 1) := dk_i kdX11_way_0 12 rfl
theorem dX11_way_25 : decode cX11_way 25 = .ok (.getfield 61, 3) := dk_i kdX11_way_0 13 rfl
theorem dX11_way_28 : decode cX11_way 28 = .ok (.aload_n 0, 1) := dk_i kdX11_way_0 14 rfl
theorem dX11_way_29 : decode cX11_way 29 = .ok (.getfield 19, 3) := dk_i kdX11_way_0 15 rfl
def ldX11_way_32 : List (Nat × ClassFile.Instr × Nat) := [(32, .iload_n 1, 1), (33, .iload_n 2, 1), (34, .invokevirtual 247, 3), (37, .ireturn, 1)]
theorem kdX11_way_32 : dkO cX11_way 32 ldX11_way_32 = true := by decide +kernel
theorem dX11_way_32 : decode cX11_way 32 = .ok (.iload_n 1, 1) := dk_i kdX11_way_32 0 rfl
theorem dX11_way_33 : decode cX11_way 33 = .ok (.iload_n 2, 1) := dk_i kdX11_way_32 1 rfl
theorem dX11_way_34 : decode cX11_way 34 = .ok (.invokevirtual 247, 3) := dk_i kdX11_way_32 2 rfl
theorem dX11_way_37 : decode cX11_way 37 = .ok (.ireturn, 1) := dk_i kdX11_way_32 3 rfl
def ldX11_arrive_0 : List (Nat × ClassFile.Instr × Nat) := [(0, .aload_n 0, 1), (1, .getfield 19, 3), (4, .iload_n 1, 1), (5, .invokevirtual 175, 3), (8, .ifCond .eq 14, 3), (11, .aload_n 0, 1), (12, .getfield 19, 3), (15, .iload_n 2, 1), (16, .invokevirtual 175, 3), (19, .ifCond .ne 5, 3), (22, .iconst (-1), 1), (23, .ireturn, 1), (24, .aload_n 0, 1), (25, .getfield 61, 3), (28, .aload_n 0, 1), (29, .getfield 19, 3)]
theorem kdX11_arrive_0 : dkO cX11_arrive 0 ldX11_arrive_0 = true := by decide +kernel
theorem dX11_arrive_0 : decode cX11_arrive 0 = .ok (.aload_n 0, 1) := dk_i kdX11_arrive_0 0 rfl
theorem dX11_arrive_1 : decode cX11_arrive 1 = .ok (.getfield 19, 3) := dk_i kdX11_arrive_0 1 rfl
theorem dX11_arrive_4 : decode cX11_arrive 4 = .ok (.iload_n 1, 1) := dk_i kdX11_arrive_0 2 rfl
theorem dX11_arrive_5 : decode cX11_arrive 5 = .ok (.invokevirtual 175, 3) := dk_i kdX11_arrive_0 3 rfl
theorem dX11_arrive_8 : decode cX11_arrive 8 = .ok (.ifCond .eq 14, 3) := dk_i kdX11_arrive_0 4 rfl
theorem dX11_arrive_11 : decode cX11_arrive 11 = .ok (.aload_n 0, 1) := dk_i kdX11_arrive_0 5 rfl
theorem dX11_arrive_12 : decode cX11_arrive 12 = .ok (.getfield 19, 3) := dk_i kdX11_arrive_0 6 rfl
theorem dX11_arrive_15 : decode cX11_arrive 15 = .ok (.iload_n 2, 1) := dk_i kdX11_arrive_0 7 rfl
theorem dX11_arrive_16 : decode cX11_arrive 16 = .ok (.invokevirtual 175, 3) := dk_i kdX11_arrive_0 8 rfl
theorem dX11_arrive_19 : decode cX11_arrive 19 = .ok (.ifCond .ne 5, 3) := dk_i kdX11_arrive_0 9 rfl
theorem dX11_arrive_22 : decode cX11_arrive 22 = .ok (.iconst (-1), 1) := dk_i kdX11_arrive_0 10 rfl
theorem dX11_arrive_23 : decode cX11_arrive 23 = .ok (.ireturn, 1) := dk_i kdX11_arrive_0 11 rfl
theorem dX11_arrive_24 : decode cX11_arrive 24 = .ok (.aload_n 0, 1) := dk_i kdX11_arrive_0 12 rfl
theorem dX11_arrive_25 : decode cX11_arrive 25 = .ok (.getfield 61, 3) := dk_i kdX11_arrive_0 13 rfl
theorem dX11_arrive_28 : decode cX11_arrive 28 = .ok (.aload_n 0, 1) := dk_i kdX11_arrive_0 14 rfl
theorem dX11_arrive_29 : decode cX11_arrive 29 = .ok (.getfield 19, 3) := dk_i kdX11_arrive_0 15 rfl
def ldX11_arrive_32 : List (Nat × ClassFile.Instr × Nat) := [(32, .iload_n 1, 1), (33, .iload_n 2, 1), (34, .invokevirtual 247, 3), (37, .istore_n 3, 1), (38, .iload_n 3, 1), (39, .iconst (-1), 1), (40, .if_icmp .eq 17, 3), (43, .iload_n 3, 1), (44, .bipush 60, 2), (46, .if_icmp .gt 11, 3), (49, .aload_n 0, 1), (50, .iload_n 3, 1), (51, .invokevirtual 210, 3), (54, .ifCond .eq 5, 3), (57, .iconst (-1), 1), (58, .ireturn, 1)]
theorem kdX11_arrive_32 : dkO cX11_arrive 32 ldX11_arrive_32 = true := by decide +kernel
theorem dX11_arrive_32 : decode cX11_arrive 32 = .ok (.iload_n 1, 1) := dk_i kdX11_arrive_32 0 rfl
theorem dX11_arrive_33 : decode cX11_arrive 33 = .ok (.iload_n 2, 1) := dk_i kdX11_arrive_32 1 rfl
theorem dX11_arrive_34 : decode cX11_arrive 34 = .ok (.invokevirtual 247, 3) := dk_i kdX11_arrive_32 2 rfl
theorem dX11_arrive_37 : decode cX11_arrive 37 = .ok (.istore_n 3, 1) := dk_i kdX11_arrive_32 3 rfl
theorem dX11_arrive_38 : decode cX11_arrive 38 = .ok (.iload_n 3, 1) := dk_i kdX11_arrive_32 4 rfl
theorem dX11_arrive_39 : decode cX11_arrive 39 = .ok (.iconst (-1), 1) := dk_i kdX11_arrive_32 5 rfl
theorem dX11_arrive_40 : decode cX11_arrive 40 = .ok (.if_icmp .eq 17, 3) := dk_i kdX11_arrive_32 6 rfl
theorem dX11_arrive_43 : decode cX11_arrive 43 = .ok (.iload_n 3, 1) := dk_i kdX11_arrive_32 7 rfl
theorem dX11_arrive_44 : decode cX11_arrive 44 = .ok (.bipush 60, 2) := dk_i kdX11_arrive_32 8 rfl
theorem dX11_arrive_46 : decode cX11_arrive 46 = .ok (.if_icmp .gt 11, 3) := dk_i kdX11_arrive_32 9 rfl
theorem dX11_arrive_49 : decode cX11_arrive 49 = .ok (.aload_n 0, 1) := dk_i kdX11_arrive_32 10 rfl
theorem dX11_arrive_50 : decode cX11_arrive 50 = .ok (.iload_n 3, 1) := dk_i kdX11_arrive_32 11 rfl
theorem dX11_arrive_51 : decode cX11_arrive 51 = .ok (.invokevirtual 210, 3) := dk_i kdX11_arrive_32 12 rfl
theorem dX11_arrive_54 : decode cX11_arrive 54 = .ok (.ifCond .eq 5, 3) := dk_i kdX11_arrive_32 13 rfl
theorem dX11_arrive_57 : decode cX11_arrive 57 = .ok (.iconst (-1), 1) := dk_i kdX11_arrive_32 14 rfl
theorem dX11_arrive_58 : decode cX11_arrive 58 = .ok (.ireturn, 1) := dk_i kdX11_arrive_32 15 rfl
def ldX11_arrive_59 : List (Nat × ClassFile.Instr × Nat) := [(59, .aload_n 0, 1), (60, .iload_n 2, 1), (61, .aload_n 0, 1), (62, .getfield 72, 3), (65, .iload_n 3, 1), (66, .invokevirtual 213, 3), (69, .pop, 1), (70, .aload_n 0, 1), (71, .getfield 72, 3), (74, .iload_n 3, 1), (75, .iaload, 1), (76, .ireturn, 1)]
theorem kdX11_arrive_59 : dkO cX11_arrive 59 ldX11_arrive_59 = true := by decide +kernel
theorem dX11_arrive_59 : decode cX11_arrive 59 = .ok (.aload_n 0, 1) := dk_i kdX11_arrive_59 0 rfl
theorem dX11_arrive_60 : decode cX11_arrive 60 = .ok (.iload_n 2, 1) := dk_i kdX11_arrive_59 1 rfl
theorem dX11_arrive_61 : decode cX11_arrive 61 = .ok (.aload_n 0, 1) := dk_i kdX11_arrive_59 2 rfl
theorem dX11_arrive_62 : decode cX11_arrive 62 = .ok (.getfield 72, 3) := dk_i kdX11_arrive_59 3 rfl
theorem dX11_arrive_65 : decode cX11_arrive 65 = .ok (.iload_n 3, 1) := dk_i kdX11_arrive_59 4 rfl
theorem dX11_arrive_66 : decode cX11_arrive 66 = .ok (.invokevirtual 213, 3) := dk_i kdX11_arrive_59 5 rfl
theorem dX11_arrive_69 : decode cX11_arrive 69 = .ok (.pop, 1) := dk_i kdX11_arrive_59 6 rfl
theorem dX11_arrive_70 : decode cX11_arrive 70 = .ok (.aload_n 0, 1) := dk_i kdX11_arrive_59 7 rfl
theorem dX11_arrive_71 : decode cX11_arrive 71 = .ok (.getfield 72, 3) := dk_i kdX11_arrive_59 8 rfl
theorem dX11_arrive_74 : decode cX11_arrive 74 = .ok (.iload_n 3, 1) := dk_i kdX11_arrive_59 9 rfl
theorem dX11_arrive_75 : decode cX11_arrive 75 = .ok (.iaload, 1) := dk_i kdX11_arrive_59 10 rfl
theorem dX11_arrive_76 : decode cX11_arrive 76 = .ok (.ireturn, 1) := dk_i kdX11_arrive_59 11 rfl
def ldX11_early_0 : List (Nat × ClassFile.Instr × Nat) := [(0, .aload_n 0, 1), (1, .getfield 19, 3), (4, .iload_n 1, 1), (5, .invokevirtual 175, 3), (8, .ifCond .ne 5, 3), (11, .iconst (-1), 1), (12, .ireturn, 1), (13, .aload_n 0, 1), (14, .iload_n 1, 1), (15, .aload_n 0, 1), (16, .getfield 72, 3), (19, .bipush 60, 2), (21, .invokevirtual 213, 3), (24, .istore_n 2, 1), (25, .aload_n 0, 1), (26, .getfield 61, 3)]
theorem kdX11_early_0 : dkO cX11_early 0 ldX11_early_0 = true := by decide +kernel
theorem dX11_early_0 : decode cX11_early 0 = .ok (.aload_n 0, 1) := dk_i kdX11_early_0 0 rfl
theorem dX11_early_1 : decode cX11_early 1 = .ok (.getfield 19, 3) := dk_i kdX11_early_0 1 rfl
theorem dX11_early_4 : decode cX11_early 4 = .ok (.iload_n 1, 1) := dk_i kdX11_early_0 2 rfl
theorem dX11_early_5 : decode cX11_early 5 = .ok (.invokevirtual 175, 3) := dk_i kdX11_early_0 3 rfl
theorem dX11_early_8 : decode cX11_early 8 = .ok (.ifCond .ne 5, 3) := dk_i kdX11_early_0 4 rfl
theorem dX11_early_11 : decode cX11_early 11 = .ok (.iconst (-1), 1) := dk_i kdX11_early_0 5 rfl
theorem dX11_early_12 : decode cX11_early 12 = .ok (.ireturn, 1) := dk_i kdX11_early_0 6 rfl
theorem dX11_early_13 : decode cX11_early 13 = .ok (.aload_n 0, 1) := dk_i kdX11_early_0 7 rfl
theorem dX11_early_14 : decode cX11_early 14 = .ok (.iload_n 1, 1) := dk_i kdX11_early_0 8 rfl
theorem dX11_early_15 : decode cX11_early 15 = .ok (.aload_n 0, 1) := dk_i kdX11_early_0 9 rfl
theorem dX11_early_16 : decode cX11_early 16 = .ok (.getfield 72, 3) := dk_i kdX11_early_0 10 rfl
theorem dX11_early_19 : decode cX11_early 19 = .ok (.bipush 60, 2) := dk_i kdX11_early_0 11 rfl
theorem dX11_early_21 : decode cX11_early 21 = .ok (.invokevirtual 213, 3) := dk_i kdX11_early_0 12 rfl
theorem dX11_early_24 : decode cX11_early 24 = .ok (.istore_n 2, 1) := dk_i kdX11_early_0 13 rfl
theorem dX11_early_25 : decode cX11_early 25 = .ok (.aload_n 0, 1) := dk_i kdX11_early_0 14 rfl
theorem dX11_early_26 : decode cX11_early 26 = .ok (.getfield 61, 3) := dk_i kdX11_early_0 15 rfl
def ldX11_early_29 : List (Nat × ClassFile.Instr × Nat) := [(29, .aload_n 0, 1), (30, .getfield 19, 3), (33, .iload_n 1, 1), (34, .invokevirtual 251, 3), (37, .iconst 1, 1), (38, .istore_n 3, 1), (39, .iload_n 3, 1), (40, .iload_n 2, 1), (41, .if_icmp .gt 38, 3), (44, .aload_n 0, 1), (45, .getfield 61, 3), (48, .iload_n 1, 1), (49, .iload_n 3, 1), (50, .invokevirtual 255, 3), (53, .ifCond .eq 20, 3), (56, .aload_n 0, 1)]
theorem kdX11_early_29 : dkO cX11_early 29 ldX11_early_29 = true := by decide +kernel
theorem dX11_early_29 : decode cX11_early 29 = .ok (.aload_n 0, 1) := dk_i kdX11_early_29 0 rfl
theorem dX11_early_30 : decode cX11_early 30 = .ok (.getfield 19, 3) := dk_i kdX11_early_29 1 rfl
theorem dX11_early_33 : decode cX11_early 33 = .ok (.iload_n 1, 1) := dk_i kdX11_early_29 2 rfl
theorem dX11_early_34 : decode cX11_early 34 = .ok (.invokevirtual 251, 3) := dk_i kdX11_early_29 3 rfl
theorem dX11_early_37 : decode cX11_early 37 = .ok (.iconst 1, 1) := dk_i kdX11_early_29 4 rfl
theorem dX11_early_38 : decode cX11_early 38 = .ok (.istore_n 3, 1) := dk_i kdX11_early_29 5 rfl
theorem dX11_early_39 : decode cX11_early 39 = .ok (.iload_n 3, 1) := dk_i kdX11_early_29 6 rfl
theorem dX11_early_40 : decode cX11_early 40 = .ok (.iload_n 2, 1) := dk_i kdX11_early_29 7 rfl
theorem dX11_early_41 : decode cX11_early 41 = .ok (.if_icmp .gt 38, 3) := dk_i kdX11_early_29 8 rfl
theorem dX11_early_44 : decode cX11_early 44 = .ok (.aload_n 0, 1) := dk_i kdX11_early_29 9 rfl
theorem dX11_early_45 : decode cX11_early 45 = .ok (.getfield 61, 3) := dk_i kdX11_early_29 10 rfl
theorem dX11_early_48 : decode cX11_early 48 = .ok (.iload_n 1, 1) := dk_i kdX11_early_29 11 rfl
theorem dX11_early_49 : decode cX11_early 49 = .ok (.iload_n 3, 1) := dk_i kdX11_early_29 12 rfl
theorem dX11_early_50 : decode cX11_early 50 = .ok (.invokevirtual 255, 3) := dk_i kdX11_early_29 13 rfl
theorem dX11_early_53 : decode cX11_early 53 = .ok (.ifCond .eq 20, 3) := dk_i kdX11_early_29 14 rfl
theorem dX11_early_56 : decode cX11_early 56 = .ok (.aload_n 0, 1) := dk_i kdX11_early_29 15 rfl
def ldX11_early_57 : List (Nat × ClassFile.Instr × Nat) := [(57, .getfield 72, 3), (60, .iload_n 3, 1), (61, .iaload, 1), (62, .aload_n 0, 1), (63, .getfield 72, 3), (66, .iconst 0, 1), (67, .iaload, 1), (68, .if_icmp .ge 5, 3), (71, .iload_n 3, 1), (72, .ireturn, 1), (73, .iinc 3 1, 3), (76, .goto (-37), 3), (79, .iconst (-1), 1), (80, .ireturn, 1)]
theorem kdX11_early_57 : dkO cX11_early 57 ldX11_early_57 = true := by decide +kernel
theorem dX11_early_57 : decode cX11_early 57 = .ok (.getfield 72, 3) := dk_i kdX11_early_57 0 rfl
theorem dX11_early_60 : decode cX11_early 60 = .ok (.iload_n 3, 1) := dk_i kdX11_early_57 1 rfl
theorem dX11_early_61 : decode cX11_early 61 = .ok (.iaload, 1) := dk_i kdX11_early_57 2 rfl
theorem dX11_early_62 : decode cX11_early 62 = .ok (.aload_n 0, 1) := dk_i kdX11_early_57 3 rfl
theorem dX11_early_63 : decode cX11_early 63 = .ok (.getfield 72, 3) := dk_i kdX11_early_57 4 rfl
theorem dX11_early_66 : decode cX11_early 66 = .ok (.iconst 0, 1) := dk_i kdX11_early_57 5 rfl
theorem dX11_early_67 : decode cX11_early 67 = .ok (.iaload, 1) := dk_i kdX11_early_57 6 rfl
theorem dX11_early_68 : decode cX11_early 68 = .ok (.if_icmp .ge 5, 3) := dk_i kdX11_early_57 7 rfl
theorem dX11_early_71 : decode cX11_early 71 = .ok (.iload_n 3, 1) := dk_i kdX11_early_57 8 rfl
theorem dX11_early_72 : decode cX11_early 72 = .ok (.ireturn, 1) := dk_i kdX11_early_57 9 rfl
theorem dX11_early_73 : decode cX11_early 73 = .ok (.iinc 3 1, 3) := dk_i kdX11_early_57 10 rfl
theorem dX11_early_76 : decode cX11_early 76 = .ok (.goto (-37), 3) := dk_i kdX11_early_57 11 rfl
theorem dX11_early_79 : decode cX11_early 79 = .ok (.iconst (-1), 1) := dk_i kdX11_early_57 12 rfl
theorem dX11_early_80 : decode cX11_early 80 = .ok (.ireturn, 1) := dk_i kdX11_early_57 13 rfl
def ldX11_see_0 : List (Nat × ClassFile.Instr × Nat) := [(0, .aload_n 0, 1), (1, .getfield 68, 3), (4, .aload_n 0, 1), (5, .getfield 12, 3), (8, .aload_n 0, 1), (9, .getfield 19, 3), (12, .invokevirtual 258, 3), (15, .istore_n 1, 1), (16, .aload_n 0, 1), (17, .getfield 12, 3), (20, .iconst 0, 1), (21, .putfield 116, 3), (24, .iload_n 1, 1), (25, .ifCond .eq 13, 3), (28, .aload_n 0, 1), (29, .getfield 68, 3)]
theorem kdX11_see_0 : dkO cX11_see 0 ldX11_see_0 = true := by decide +kernel
theorem dX11_see_0 : decode cX11_see 0 = .ok (.aload_n 0, 1) := dk_i kdX11_see_0 0 rfl
theorem dX11_see_1 : decode cX11_see 1 = .ok (.getfield 68, 3) := dk_i kdX11_see_0 1 rfl
theorem dX11_see_4 : decode cX11_see 4 = .ok (.aload_n 0, 1) := dk_i kdX11_see_0 2 rfl
theorem dX11_see_5 : decode cX11_see 5 = .ok (.getfield 12, 3) := dk_i kdX11_see_0 3 rfl
theorem dX11_see_8 : decode cX11_see 8 = .ok (.aload_n 0, 1) := dk_i kdX11_see_0 4 rfl
theorem dX11_see_9 : decode cX11_see 9 = .ok (.getfield 19, 3) := dk_i kdX11_see_0 5 rfl
theorem dX11_see_12 : decode cX11_see 12 = .ok (.invokevirtual 258, 3) := dk_i kdX11_see_0 6 rfl
theorem dX11_see_15 : decode cX11_see 15 = .ok (.istore_n 1, 1) := dk_i kdX11_see_0 7 rfl
theorem dX11_see_16 : decode cX11_see 16 = .ok (.aload_n 0, 1) := dk_i kdX11_see_0 8 rfl
theorem dX11_see_17 : decode cX11_see 17 = .ok (.getfield 12, 3) := dk_i kdX11_see_0 9 rfl
theorem dX11_see_20 : decode cX11_see 20 = .ok (.iconst 0, 1) := dk_i kdX11_see_0 10 rfl
theorem dX11_see_21 : decode cX11_see 21 = .ok (.putfield 116, 3) := dk_i kdX11_see_0 11 rfl
theorem dX11_see_24 : decode cX11_see 24 = .ok (.iload_n 1, 1) := dk_i kdX11_see_0 12 rfl
theorem dX11_see_25 : decode cX11_see 25 = .ok (.ifCond .eq 13, 3) := dk_i kdX11_see_0 13 rfl
theorem dX11_see_28 : decode cX11_see 28 = .ok (.aload_n 0, 1) := dk_i kdX11_see_0 14 rfl
theorem dX11_see_29 : decode cX11_see 29 = .ok (.getfield 68, 3) := dk_i kdX11_see_0 15 rfl
def ldX11_see_32 : List (Nat × ClassFile.Instr × Nat) := [(32, .getfield 161, 3), (35, .goto 8, 3), (38, .aload_n 0, 1), (39, .iconst 5, 1), (40, .invokevirtual 108, 3), (43, .ireturn, 1)]
theorem kdX11_see_32 : dkO cX11_see 32 ldX11_see_32 = true := by decide +kernel
theorem dX11_see_32 : decode cX11_see 32 = .ok (.getfield 161, 3) := dk_i kdX11_see_32 0 rfl
theorem dX11_see_35 : decode cX11_see 35 = .ok (.goto 8, 3) := dk_i kdX11_see_32 1 rfl
theorem dX11_see_38 : decode cX11_see 38 = .ok (.aload_n 0, 1) := dk_i kdX11_see_32 2 rfl
theorem dX11_see_39 : decode cX11_see 39 = .ok (.iconst 5, 1) := dk_i kdX11_see_32 3 rfl
theorem dX11_see_40 : decode cX11_see 40 = .ok (.invokevirtual 108, 3) := dk_i kdX11_see_32 4 rfl
theorem dX11_see_43 : decode cX11_see 43 = .ok (.ireturn, 1) := dk_i kdX11_see_32 5 rfl
def ldX11_held_0 : List (Nat × ClassFile.Instr × Nat) := [(0, .aload_n 0, 1), (1, .getfield 19, 3), (4, .iload_n 1, 1), (5, .invokevirtual 175, 3), (8, .ifCond .ne 5, 3), (11, .iconst (-1), 1), (12, .ireturn, 1), (13, .aload_n 0, 1), (14, .iload_n 1, 1), (15, .invokevirtual 261, 3), (18, .ireturn, 1)]
theorem kdX11_held_0 : dkO cX11_held 0 ldX11_held_0 = true := by decide +kernel
theorem dX11_held_0 : decode cX11_held 0 = .ok (.aload_n 0, 1) := dk_i kdX11_held_0 0 rfl
theorem dX11_held_1 : decode cX11_held 1 = .ok (.getfield 19, 3) := dk_i kdX11_held_0 1 rfl
theorem dX11_held_4 : decode cX11_held 4 = .ok (.iload_n 1, 1) := dk_i kdX11_held_0 2 rfl
theorem dX11_held_5 : decode cX11_held 5 = .ok (.invokevirtual 175, 3) := dk_i kdX11_held_0 3 rfl
theorem dX11_held_8 : decode cX11_held 8 = .ok (.ifCond .ne 5, 3) := dk_i kdX11_held_0 4 rfl
theorem dX11_held_11 : decode cX11_held 11 = .ok (.iconst (-1), 1) := dk_i kdX11_held_0 5 rfl
theorem dX11_held_12 : decode cX11_held 12 = .ok (.ireturn, 1) := dk_i kdX11_held_0 6 rfl
theorem dX11_held_13 : decode cX11_held 13 = .ok (.aload_n 0, 1) := dk_i kdX11_held_0 7 rfl
theorem dX11_held_14 : decode cX11_held 14 = .ok (.iload_n 1, 1) := dk_i kdX11_held_0 8 rfl
theorem dX11_held_15 : decode cX11_held 15 = .ok (.invokevirtual 261, 3) := dk_i kdX11_held_0 9 rfl
theorem dX11_held_18 : decode cX11_held 18 = .ok (.ireturn, 1) := dk_i kdX11_held_0 10 rfl
def ldX11_tells_0 : List (Nat × ClassFile.Instr × Nat) := [(0, .aload_n 0, 1), (1, .getfield 19, 3), (4, .iload_n 1, 1), (5, .invokevirtual 175, 3), (8, .ifCond .eq 12, 3), (11, .iload_n 2, 1), (12, .ifCond .lt 8, 3), (15, .iload_n 2, 1), (16, .iconst 1, 1), (17, .if_icmp .le 5, 3), (20, .iconst (-1), 1), (21, .ireturn, 1), (22, .aload_n 0, 1), (23, .iload_n 1, 1), (24, .invokevirtual 261, 3), (27, .istore_n 3, 1)]
theorem kdX11_tells_0 : dkO cX11_tells 0 ldX11_tells_0 = true := by decide +kernel
theorem dX11_tells_0 : decode cX11_tells 0 = .ok (.aload_n 0, 1) := dk_i kdX11_tells_0 0 rfl
theorem dX11_tells_1 : decode cX11_tells 1 = .ok (.getfield 19, 3) := dk_i kdX11_tells_0 1 rfl
theorem dX11_tells_4 : decode cX11_tells 4 = .ok (.iload_n 1, 1) := dk_i kdX11_tells_0 2 rfl
theorem dX11_tells_5 : decode cX11_tells 5 = .ok (.invokevirtual 175, 3) := dk_i kdX11_tells_0 3 rfl
theorem dX11_tells_8 : decode cX11_tells 8 = .ok (.ifCond .eq 12, 3) := dk_i kdX11_tells_0 4 rfl
theorem dX11_tells_11 : decode cX11_tells 11 = .ok (.iload_n 2, 1) := dk_i kdX11_tells_0 5 rfl
theorem dX11_tells_12 : decode cX11_tells 12 = .ok (.ifCond .lt 8, 3) := dk_i kdX11_tells_0 6 rfl
theorem dX11_tells_15 : decode cX11_tells 15 = .ok (.iload_n 2, 1) := dk_i kdX11_tells_0 7 rfl
theorem dX11_tells_16 : decode cX11_tells 16 = .ok (.iconst 1, 1) := dk_i kdX11_tells_0 8 rfl
theorem dX11_tells_17 : decode cX11_tells 17 = .ok (.if_icmp .le 5, 3) := dk_i kdX11_tells_0 9 rfl
theorem dX11_tells_20 : decode cX11_tells 20 = .ok (.iconst (-1), 1) := dk_i kdX11_tells_0 10 rfl
theorem dX11_tells_21 : decode cX11_tells 21 = .ok (.ireturn, 1) := dk_i kdX11_tells_0 11 rfl
theorem dX11_tells_22 : decode cX11_tells 22 = .ok (.aload_n 0, 1) := dk_i kdX11_tells_0 12 rfl
theorem dX11_tells_23 : decode cX11_tells 23 = .ok (.iload_n 1, 1) := dk_i kdX11_tells_0 13 rfl
theorem dX11_tells_24 : decode cX11_tells 24 = .ok (.invokevirtual 261, 3) := dk_i kdX11_tells_0 14 rfl
theorem dX11_tells_27 : decode cX11_tells 27 = .ok (.istore_n 3, 1) := dk_i kdX11_tells_0 15 rfl
def ldX11_tells_28 : List (Nat × ClassFile.Instr × Nat) := [(28, .iload_n 3, 1), (29, .ifCond .ne 5, 3), (32, .iconst (-1), 1), (33, .ireturn, 1), (34, .bipush 40, 2), (36, .sipush 9999, 3), (39, .aload_n 0, 1), (40, .getfield 47, 3), (43, .getfield 148, 3), (46, .isub, 1), (47, .invokestatic 264, 3), (50, .istore 4, 2), (52, .iconst 0, 1), (53, .istore 5, 2), (55, .aload_n 0, 1), (56, .getfield 68, 3)]
theorem kdX11_tells_28 : dkO cX11_tells 28 ldX11_tells_28 = true := by decide +kernel
theorem dX11_tells_28 : decode cX11_tells 28 = .ok (.iload_n 3, 1) := dk_i kdX11_tells_28 0 rfl
theorem dX11_tells_29 : decode cX11_tells 29 = .ok (.ifCond .ne 5, 3) := dk_i kdX11_tells_28 1 rfl
theorem dX11_tells_32 : decode cX11_tells 32 = .ok (.iconst (-1), 1) := dk_i kdX11_tells_28 2 rfl
theorem dX11_tells_33 : decode cX11_tells 33 = .ok (.ireturn, 1) := dk_i kdX11_tells_28 3 rfl
theorem dX11_tells_34 : decode cX11_tells 34 = .ok (.bipush 40, 2) := dk_i kdX11_tells_28 4 rfl
theorem dX11_tells_36 : decode cX11_tells 36 = .ok (.sipush 9999, 3) := dk_i kdX11_tells_28 5 rfl
theorem dX11_tells_39 : decode cX11_tells 39 = .ok (.aload_n 0, 1) := dk_i kdX11_tells_28 6 rfl
theorem dX11_tells_40 : decode cX11_tells 40 = .ok (.getfield 47, 3) := dk_i kdX11_tells_28 7 rfl
theorem dX11_tells_43 : decode cX11_tells 43 = .ok (.getfield 148, 3) := dk_i kdX11_tells_28 8 rfl
theorem dX11_tells_46 : decode cX11_tells 46 = .ok (.isub, 1) := dk_i kdX11_tells_28 9 rfl
theorem dX11_tells_47 : decode cX11_tells 47 = .ok (.invokestatic 264, 3) := dk_i kdX11_tells_28 10 rfl
theorem dX11_tells_50 : decode cX11_tells 50 = .ok (.istore 4, 2) := dk_i kdX11_tells_28 11 rfl
theorem dX11_tells_52 : decode cX11_tells 52 = .ok (.iconst 0, 1) := dk_i kdX11_tells_28 12 rfl
theorem dX11_tells_53 : decode cX11_tells 53 = .ok (.istore 5, 2) := dk_i kdX11_tells_28 13 rfl
theorem dX11_tells_55 : decode cX11_tells 55 = .ok (.aload_n 0, 1) := dk_i kdX11_tells_28 14 rfl
theorem dX11_tells_56 : decode cX11_tells 56 = .ok (.getfield 68, 3) := dk_i kdX11_tells_28 15 rfl
def ldX11_tells_59 : List (Nat × ClassFile.Instr × Nat) := [(59, .iload_n 3, 1), (60, .iconst 0, 1), (61, .invokevirtual 269, 3), (64, .istore 6, 2), (66, .iconst 1, 1), (67, .istore 7, 2), (69, .iload 7, 2), (71, .iload 4, 2), (73, .if_icmp .gt 36, 3), (76, .aload_n 0, 1), (77, .getfield 68, 3), (80, .iload_n 3, 1), (81, .iload 7, 2), (83, .invokevirtual 269, 3), (86, .istore 8, 2), (88, .iload 8, 2)]
theorem kdX11_tells_59 : dkO cX11_tells 59 ldX11_tells_59 = true := by decide +kernel
theorem dX11_tells_59 : decode cX11_tells 59 = .ok (.iload_n 3, 1) := dk_i kdX11_tells_59 0 rfl
theorem dX11_tells_60 : decode cX11_tells 60 = .ok (.iconst 0, 1) := dk_i kdX11_tells_59 1 rfl
theorem dX11_tells_61 : decode cX11_tells 61 = .ok (.invokevirtual 269, 3) := dk_i kdX11_tells_59 2 rfl
theorem dX11_tells_64 : decode cX11_tells 64 = .ok (.istore 6, 2) := dk_i kdX11_tells_59 3 rfl
theorem dX11_tells_66 : decode cX11_tells 66 = .ok (.iconst 1, 1) := dk_i kdX11_tells_59 4 rfl
theorem dX11_tells_67 : decode cX11_tells 67 = .ok (.istore 7, 2) := dk_i kdX11_tells_59 5 rfl
theorem dX11_tells_69 : decode cX11_tells 69 = .ok (.iload 7, 2) := dk_i kdX11_tells_59 6 rfl
theorem dX11_tells_71 : decode cX11_tells 71 = .ok (.iload 4, 2) := dk_i kdX11_tells_59 7 rfl
theorem dX11_tells_73 : decode cX11_tells 73 = .ok (.if_icmp .gt 36, 3) := dk_i kdX11_tells_59 8 rfl
theorem dX11_tells_76 : decode cX11_tells 76 = .ok (.aload_n 0, 1) := dk_i kdX11_tells_59 9 rfl
theorem dX11_tells_77 : decode cX11_tells 77 = .ok (.getfield 68, 3) := dk_i kdX11_tells_59 10 rfl
theorem dX11_tells_80 : decode cX11_tells 80 = .ok (.iload_n 3, 1) := dk_i kdX11_tells_59 11 rfl
theorem dX11_tells_81 : decode cX11_tells 81 = .ok (.iload 7, 2) := dk_i kdX11_tells_59 12 rfl
theorem dX11_tells_83 : decode cX11_tells 83 = .ok (.invokevirtual 269, 3) := dk_i kdX11_tells_59 13 rfl
theorem dX11_tells_86 : decode cX11_tells 86 = .ok (.istore 8, 2) := dk_i kdX11_tells_59 14 rfl
theorem dX11_tells_88 : decode cX11_tells 88 = .ok (.iload 8, 2) := dk_i kdX11_tells_59 15 rfl
def ldX11_tells_90 : List (Nat × ClassFile.Instr × Nat) := [(90, .iload 6, 2), (92, .if_icmp .ge 11, 3), (95, .iload 7, 2), (97, .istore 5, 2), (99, .iload 8, 2), (101, .istore 6, 2), (103, .iinc 7 1, 3), (106, .goto (-37), 3), (109, .iload_n 2, 1), (110, .ifCond .ne 8, 3), (113, .iload 5, 2), (115, .goto 5, 3), (118, .iload 6, 2), (120, .ireturn, 1)]
theorem kdX11_tells_90 : dkO cX11_tells 90 ldX11_tells_90 = true := by decide +kernel
theorem dX11_tells_90 : decode cX11_tells 90 = .ok (.iload 6, 2) := dk_i kdX11_tells_90 0 rfl
theorem dX11_tells_92 : decode cX11_tells 92 = .ok (.if_icmp .ge 11, 3) := dk_i kdX11_tells_90 1 rfl
theorem dX11_tells_95 : decode cX11_tells 95 = .ok (.iload 7, 2) := dk_i kdX11_tells_90 2 rfl
theorem dX11_tells_97 : decode cX11_tells 97 = .ok (.istore 5, 2) := dk_i kdX11_tells_90 3 rfl
theorem dX11_tells_99 : decode cX11_tells 99 = .ok (.iload 8, 2) := dk_i kdX11_tells_90 4 rfl
theorem dX11_tells_101 : decode cX11_tells 101 = .ok (.istore 6, 2) := dk_i kdX11_tells_90 5 rfl
theorem dX11_tells_103 : decode cX11_tells 103 = .ok (.iinc 7 1, 3) := dk_i kdX11_tells_90 6 rfl
theorem dX11_tells_106 : decode cX11_tells 106 = .ok (.goto (-37), 3) := dk_i kdX11_tells_90 7 rfl
theorem dX11_tells_109 : decode cX11_tells 109 = .ok (.iload_n 2, 1) := dk_i kdX11_tells_90 8 rfl
theorem dX11_tells_110 : decode cX11_tells 110 = .ok (.ifCond .ne 8, 3) := dk_i kdX11_tells_90 9 rfl
theorem dX11_tells_113 : decode cX11_tells 113 = .ok (.iload 5, 2) := dk_i kdX11_tells_90 10 rfl
theorem dX11_tells_115 : decode cX11_tells 115 = .ok (.goto 5, 3) := dk_i kdX11_tells_90 11 rfl
theorem dX11_tells_118 : decode cX11_tells 118 = .ok (.iload 6, 2) := dk_i kdX11_tells_90 12 rfl
theorem dX11_tells_120 : decode cX11_tells 120 = .ok (.ireturn, 1) := dk_i kdX11_tells_90 13 rfl
def ldX11_minutes_0 : List (Nat × ClassFile.Instr × Nat) := [(0, .iload_n 1, 1), (1, .iconst 1, 1), (2, .if_icmp .lt 17, 3), (5, .iload_n 1, 1), (6, .bipush 100, 2), (8, .if_icmp .gt 11, 3), (11, .aload_n 0, 1), (12, .iload_n 1, 1), (13, .invokevirtual 210, 3), (16, .ifCond .eq 9, 3), (19, .aload_n 0, 1), (20, .iconst 2, 1), (21, .invokevirtual 108, 3), (24, .ireturn, 1), (25, .aload_n 0, 1), (26, .getfield 54, 3)]
theorem kdX11_minutes_0 : dkO cX11_minutes 0 ldX11_minutes_0 = true := by decide +kernel
theorem dX11_minutes_0 : decode cX11_minutes 0 = .ok (.iload_n 1, 1) := dk_i kdX11_minutes_0 0 rfl
theorem dX11_minutes_1 : decode cX11_minutes 1 = .ok (.iconst 1, 1) := dk_i kdX11_minutes_0 1 rfl
theorem dX11_minutes_2 : decode cX11_minutes 2 = .ok (.if_icmp .lt 17, 3) := dk_i kdX11_minutes_0 2 rfl
theorem dX11_minutes_5 : decode cX11_minutes 5 = .ok (.iload_n 1, 1) := dk_i kdX11_minutes_0 3 rfl
theorem dX11_minutes_6 : decode cX11_minutes 6 = .ok (.bipush 100, 2) := dk_i kdX11_minutes_0 4 rfl
theorem dX11_minutes_8 : decode cX11_minutes 8 = .ok (.if_icmp .gt 11, 3) := dk_i kdX11_minutes_0 5 rfl
theorem dX11_minutes_11 : decode cX11_minutes 11 = .ok (.aload_n 0, 1) := dk_i kdX11_minutes_0 6 rfl
theorem dX11_minutes_12 : decode cX11_minutes 12 = .ok (.iload_n 1, 1) := dk_i kdX11_minutes_0 7 rfl
theorem dX11_minutes_13 : decode cX11_minutes 13 = .ok (.invokevirtual 210, 3) := dk_i kdX11_minutes_0 8 rfl
theorem dX11_minutes_16 : decode cX11_minutes 16 = .ok (.ifCond .eq 9, 3) := dk_i kdX11_minutes_0 9 rfl
theorem dX11_minutes_19 : decode cX11_minutes 19 = .ok (.aload_n 0, 1) := dk_i kdX11_minutes_0 10 rfl
theorem dX11_minutes_20 : decode cX11_minutes 20 = .ok (.iconst 2, 1) := dk_i kdX11_minutes_0 11 rfl
theorem dX11_minutes_21 : decode cX11_minutes 21 = .ok (.invokevirtual 108, 3) := dk_i kdX11_minutes_0 12 rfl
theorem dX11_minutes_24 : decode cX11_minutes 24 = .ok (.ireturn, 1) := dk_i kdX11_minutes_0 13 rfl
theorem dX11_minutes_25 : decode cX11_minutes 25 = .ok (.aload_n 0, 1) := dk_i kdX11_minutes_0 14 rfl
theorem dX11_minutes_26 : decode cX11_minutes 26 = .ok (.getfield 54, 3) := dk_i kdX11_minutes_0 15 rfl
def ldX11_minutes_29 : List (Nat × ClassFile.Instr × Nat) := [(29, .aload_n 0, 1), (30, .getfield 47, 3), (33, .invokevirtual 272, 3), (36, .iconst 0, 1), (37, .istore_n 2, 1), (38, .iconst 0, 1), (39, .istore_n 3, 1), (40, .iload_n 3, 1), (41, .iload_n 1, 1), (42, .if_icmp .ge 34, 3), (45, .aload_n 0, 1), (46, .getfield 47, 3), (49, .aload_n 0, 1), (50, .getfield 40, 3), (53, .invokevirtual 276, 3), (56, .iload_n 2, 1)]
theorem kdX11_minutes_29 : dkO cX11_minutes 29 ldX11_minutes_29 = true := by decide +kernel
theorem dX11_minutes_29 : decode cX11_minutes 29 = .ok (.aload_n 0, 1) := dk_i kdX11_minutes_29 0 rfl
theorem dX11_minutes_30 : decode cX11_minutes 30 = .ok (.getfield 47, 3) := dk_i kdX11_minutes_29 1 rfl
theorem dX11_minutes_33 : decode cX11_minutes 33 = .ok (.invokevirtual 272, 3) := dk_i kdX11_minutes_29 2 rfl
theorem dX11_minutes_36 : decode cX11_minutes 36 = .ok (.iconst 0, 1) := dk_i kdX11_minutes_29 3 rfl
theorem dX11_minutes_37 : decode cX11_minutes 37 = .ok (.istore_n 2, 1) := dk_i kdX11_minutes_29 4 rfl
theorem dX11_minutes_38 : decode cX11_minutes 38 = .ok (.iconst 0, 1) := dk_i kdX11_minutes_29 5 rfl
theorem dX11_minutes_39 : decode cX11_minutes 39 = .ok (.istore_n 3, 1) := dk_i kdX11_minutes_29 6 rfl
theorem dX11_minutes_40 : decode cX11_minutes 40 = .ok (.iload_n 3, 1) := dk_i kdX11_minutes_29 7 rfl
theorem dX11_minutes_41 : decode cX11_minutes 41 = .ok (.iload_n 1, 1) := dk_i kdX11_minutes_29 8 rfl
theorem dX11_minutes_42 : decode cX11_minutes 42 = .ok (.if_icmp .ge 34, 3) := dk_i kdX11_minutes_29 9 rfl
theorem dX11_minutes_45 : decode cX11_minutes 45 = .ok (.aload_n 0, 1) := dk_i kdX11_minutes_29 10 rfl
theorem dX11_minutes_46 : decode cX11_minutes 46 = .ok (.getfield 47, 3) := dk_i kdX11_minutes_29 11 rfl
theorem dX11_minutes_49 : decode cX11_minutes 49 = .ok (.aload_n 0, 1) := dk_i kdX11_minutes_29 12 rfl
theorem dX11_minutes_50 : decode cX11_minutes 50 = .ok (.getfield 40, 3) := dk_i kdX11_minutes_29 13 rfl
theorem dX11_minutes_53 : decode cX11_minutes 53 = .ok (.invokevirtual 276, 3) := dk_i kdX11_minutes_29 14 rfl
theorem dX11_minutes_56 : decode cX11_minutes 56 = .ok (.iload_n 2, 1) := dk_i kdX11_minutes_29 15 rfl
def ldX11_minutes_57 : List (Nat × ClassFile.Instr × Nat) := [(57, .aload_n 0, 1), (58, .getfield 47, 3), (61, .aload_n 0, 1), (62, .getfield 40, 3), (65, .invokevirtual 280, 3), (68, .iadd, 1), (69, .istore_n 2, 1), (70, .iinc 3 1, 3), (73, .goto (-33), 3), (76, .iload_n 2, 1), (77, .ireturn, 1)]
theorem kdX11_minutes_57 : dkO cX11_minutes 57 ldX11_minutes_57 = true := by decide +kernel
theorem dX11_minutes_57 : decode cX11_minutes 57 = .ok (.aload_n 0, 1) := dk_i kdX11_minutes_57 0 rfl
theorem dX11_minutes_58 : decode cX11_minutes 58 = .ok (.getfield 47, 3) := dk_i kdX11_minutes_57 1 rfl
theorem dX11_minutes_61 : decode cX11_minutes 61 = .ok (.aload_n 0, 1) := dk_i kdX11_minutes_57 2 rfl
theorem dX11_minutes_62 : decode cX11_minutes 62 = .ok (.getfield 40, 3) := dk_i kdX11_minutes_57 3 rfl
theorem dX11_minutes_65 : decode cX11_minutes 65 = .ok (.invokevirtual 280, 3) := dk_i kdX11_minutes_57 4 rfl
theorem dX11_minutes_68 : decode cX11_minutes 68 = .ok (.iadd, 1) := dk_i kdX11_minutes_57 5 rfl
theorem dX11_minutes_69 : decode cX11_minutes 69 = .ok (.istore_n 2, 1) := dk_i kdX11_minutes_57 6 rfl
theorem dX11_minutes_70 : decode cX11_minutes 70 = .ok (.iinc 3 1, 3) := dk_i kdX11_minutes_57 7 rfl
theorem dX11_minutes_73 : decode cX11_minutes 73 = .ok (.goto (-33), 3) := dk_i kdX11_minutes_57 8 rfl
theorem dX11_minutes_76 : decode cX11_minutes 76 = .ok (.iload_n 2, 1) := dk_i kdX11_minutes_57 9 rfl
theorem dX11_minutes_77 : decode cX11_minutes 77 = .ok (.ireturn, 1) := dk_i kdX11_minutes_57 10 rfl
def ldX11_chance_0 : List (Nat × ClassFile.Instr × Nat) := [(0, .iload_n 1, 1), (1, .iconst 1, 1), (2, .if_icmp .lt 17, 3), (5, .iload_n 1, 1), (6, .bipush 100, 2), (8, .if_icmp .gt 11, 3), (11, .aload_n 0, 1), (12, .iload_n 1, 1), (13, .invokevirtual 210, 3), (16, .ifCond .eq 9, 3), (19, .aload_n 0, 1), (20, .iconst 2, 1), (21, .invokevirtual 108, 3), (24, .ireturn, 1), (25, .aload_n 0, 1), (26, .getfield 54, 3)]
theorem kdX11_chance_0 : dkO cX11_chance 0 ldX11_chance_0 = true := by decide +kernel
theorem dX11_chance_0 : decode cX11_chance 0 = .ok (.iload_n 1, 1) := dk_i kdX11_chance_0 0 rfl
theorem dX11_chance_1 : decode cX11_chance 1 = .ok (.iconst 1, 1) := dk_i kdX11_chance_0 1 rfl
theorem dX11_chance_2 : decode cX11_chance 2 = .ok (.if_icmp .lt 17, 3) := dk_i kdX11_chance_0 2 rfl
theorem dX11_chance_5 : decode cX11_chance 5 = .ok (.iload_n 1, 1) := dk_i kdX11_chance_0 3 rfl
theorem dX11_chance_6 : decode cX11_chance 6 = .ok (.bipush 100, 2) := dk_i kdX11_chance_0 4 rfl
theorem dX11_chance_8 : decode cX11_chance 8 = .ok (.if_icmp .gt 11, 3) := dk_i kdX11_chance_0 5 rfl
theorem dX11_chance_11 : decode cX11_chance 11 = .ok (.aload_n 0, 1) := dk_i kdX11_chance_0 6 rfl
theorem dX11_chance_12 : decode cX11_chance 12 = .ok (.iload_n 1, 1) := dk_i kdX11_chance_0 7 rfl
theorem dX11_chance_13 : decode cX11_chance 13 = .ok (.invokevirtual 210, 3) := dk_i kdX11_chance_0 8 rfl
theorem dX11_chance_16 : decode cX11_chance 16 = .ok (.ifCond .eq 9, 3) := dk_i kdX11_chance_0 9 rfl
theorem dX11_chance_19 : decode cX11_chance 19 = .ok (.aload_n 0, 1) := dk_i kdX11_chance_0 10 rfl
theorem dX11_chance_20 : decode cX11_chance 20 = .ok (.iconst 2, 1) := dk_i kdX11_chance_0 11 rfl
theorem dX11_chance_21 : decode cX11_chance 21 = .ok (.invokevirtual 108, 3) := dk_i kdX11_chance_0 12 rfl
theorem dX11_chance_24 : decode cX11_chance 24 = .ok (.ireturn, 1) := dk_i kdX11_chance_0 13 rfl
theorem dX11_chance_25 : decode cX11_chance 25 = .ok (.aload_n 0, 1) := dk_i kdX11_chance_0 14 rfl
theorem dX11_chance_26 : decode cX11_chance 26 = .ok (.getfield 54, 3) := dk_i kdX11_chance_0 15 rfl
def ldX11_chance_29 : List (Nat × ClassFile.Instr × Nat) := [(29, .aload_n 0, 1), (30, .getfield 47, 3), (33, .invokevirtual 272, 3), (36, .iconst 0, 1), (37, .istore_n 2, 1), (38, .iconst 0, 1), (39, .istore_n 3, 1), (40, .iload_n 3, 1), (41, .iload_n 1, 1), (42, .if_icmp .ge 39, 3), (45, .aload_n 0, 1), (46, .getfield 47, 3), (49, .aload_n 0, 1), (50, .getfield 40, 3), (53, .invokevirtual 276, 3), (56, .iload_n 2, 1)]
theorem kdX11_chance_29 : dkO cX11_chance 29 ldX11_chance_29 = true := by decide +kernel
theorem dX11_chance_29 : decode cX11_chance 29 = .ok (.aload_n 0, 1) := dk_i kdX11_chance_29 0 rfl
theorem dX11_chance_30 : decode cX11_chance 30 = .ok (.getfield 47, 3) := dk_i kdX11_chance_29 1 rfl
theorem dX11_chance_33 : decode cX11_chance 33 = .ok (.invokevirtual 272, 3) := dk_i kdX11_chance_29 2 rfl
theorem dX11_chance_36 : decode cX11_chance 36 = .ok (.iconst 0, 1) := dk_i kdX11_chance_29 3 rfl
theorem dX11_chance_37 : decode cX11_chance 37 = .ok (.istore_n 2, 1) := dk_i kdX11_chance_29 4 rfl
theorem dX11_chance_38 : decode cX11_chance 38 = .ok (.iconst 0, 1) := dk_i kdX11_chance_29 5 rfl
theorem dX11_chance_39 : decode cX11_chance 39 = .ok (.istore_n 3, 1) := dk_i kdX11_chance_29 6 rfl
theorem dX11_chance_40 : decode cX11_chance 40 = .ok (.iload_n 3, 1) := dk_i kdX11_chance_29 7 rfl
theorem dX11_chance_41 : decode cX11_chance 41 = .ok (.iload_n 1, 1) := dk_i kdX11_chance_29 8 rfl
theorem dX11_chance_42 : decode cX11_chance 42 = .ok (.if_icmp .ge 39, 3) := dk_i kdX11_chance_29 9 rfl
theorem dX11_chance_45 : decode cX11_chance 45 = .ok (.aload_n 0, 1) := dk_i kdX11_chance_29 10 rfl
theorem dX11_chance_46 : decode cX11_chance 46 = .ok (.getfield 47, 3) := dk_i kdX11_chance_29 11 rfl
theorem dX11_chance_49 : decode cX11_chance 49 = .ok (.aload_n 0, 1) := dk_i kdX11_chance_29 12 rfl
theorem dX11_chance_50 : decode cX11_chance 50 = .ok (.getfield 40, 3) := dk_i kdX11_chance_29 13 rfl
theorem dX11_chance_53 : decode cX11_chance 53 = .ok (.invokevirtual 276, 3) := dk_i kdX11_chance_29 14 rfl
theorem dX11_chance_56 : decode cX11_chance 56 = .ok (.iload_n 2, 1) := dk_i kdX11_chance_29 15 rfl
def ldX11_chance_57 : List (Nat × ClassFile.Instr × Nat) := [(57, .aload_n 0, 1), (58, .invokevirtual 284, 3), (61, .iadd, 1), (62, .istore_n 2, 1), (63, .aload_n 0, 1), (64, .getfield 47, 3), (67, .aload_n 0, 1), (68, .getfield 40, 3), (71, .invokevirtual 280, 3), (74, .pop, 1), (75, .iinc 3 1, 3), (78, .goto (-38), 3), (81, .iload_n 2, 1), (82, .ireturn, 1)]
theorem kdX11_chance_57 : dkO cX11_chance 57 ldX11_chance_57 = true := by decide +kernel
theorem dX11_chance_57 : decode cX11_chance 57 = .ok (.aload_n 0, 1) := dk_i kdX11_chance_57 0 rfl
theorem dX11_chance_58 : decode cX11_chance 58 = .ok (.invokevirtual 284, 3) := dk_i kdX11_chance_57 1 rfl
theorem dX11_chance_61 : decode cX11_chance 61 = .ok (.iadd, 1) := dk_i kdX11_chance_57 2 rfl
theorem dX11_chance_62 : decode cX11_chance 62 = .ok (.istore_n 2, 1) := dk_i kdX11_chance_57 3 rfl
theorem dX11_chance_63 : decode cX11_chance 63 = .ok (.aload_n 0, 1) := dk_i kdX11_chance_57 4 rfl
theorem dX11_chance_64 : decode cX11_chance 64 = .ok (.getfield 47, 3) := dk_i kdX11_chance_57 5 rfl
theorem dX11_chance_67 : decode cX11_chance 67 = .ok (.aload_n 0, 1) := dk_i kdX11_chance_57 6 rfl
theorem dX11_chance_68 : decode cX11_chance 68 = .ok (.getfield 40, 3) := dk_i kdX11_chance_57 7 rfl
theorem dX11_chance_71 : decode cX11_chance 71 = .ok (.invokevirtual 280, 3) := dk_i kdX11_chance_57 8 rfl
theorem dX11_chance_74 : decode cX11_chance 74 = .ok (.pop, 1) := dk_i kdX11_chance_57 9 rfl
theorem dX11_chance_75 : decode cX11_chance 75 = .ok (.iinc 3 1, 3) := dk_i kdX11_chance_57 10 rfl
theorem dX11_chance_78 : decode cX11_chance 78 = .ok (.goto (-38), 3) := dk_i kdX11_chance_57 11 rfl
theorem dX11_chance_81 : decode cX11_chance 81 = .ok (.iload_n 2, 1) := dk_i kdX11_chance_57 12 rfl
theorem dX11_chance_82 : decode cX11_chance 82 = .ok (.ireturn, 1) := dk_i kdX11_chance_57 13 rfl
def ldX11_give_0 : List (Nat × ClassFile.Instr × Nat) := [(0, .aload_n 0, 1), (1, .getfield 19, 3), (4, .iload_n 1, 1), (5, .invokevirtual 175, 3), (8, .ifCond .eq 14, 3), (11, .aload_n 0, 1), (12, .getfield 19, 3), (15, .iload_n 2, 1), (16, .invokevirtual 165, 3), (19, .ifCond .ne 9, 3), (22, .aload_n 0, 1), (23, .iconst 3, 1), (24, .invokevirtual 108, 3), (27, .ireturn, 1), (28, .aload_n 0, 1), (29, .iload_n 1, 1)]
theorem kdX11_give_0 : dkO cX11_give 0 ldX11_give_0 = true := by decide +kernel
theorem dX11_give_0 : decode cX11_give 0 = .ok (.aload_n 0, 1) := dk_i kdX11_give_0 0 rfl
theorem dX11_give_1 : decode cX11_give 1 = .ok (.getfield 19, 3) := dk_i kdX11_give_0 1 rfl
theorem dX11_give_4 : decode cX11_give 4 = .ok (.iload_n 1, 1) := dk_i kdX11_give_0 2 rfl
theorem dX11_give_5 : decode cX11_give 5 = .ok (.invokevirtual 175, 3) := dk_i kdX11_give_0 3 rfl
theorem dX11_give_8 : decode cX11_give 8 = .ok (.ifCond .eq 14, 3) := dk_i kdX11_give_0 4 rfl
theorem dX11_give_11 : decode cX11_give 11 = .ok (.aload_n 0, 1) := dk_i kdX11_give_0 5 rfl
theorem dX11_give_12 : decode cX11_give 12 = .ok (.getfield 19, 3) := dk_i kdX11_give_0 6 rfl
theorem dX11_give_15 : decode cX11_give 15 = .ok (.iload_n 2, 1) := dk_i kdX11_give_0 7 rfl
theorem dX11_give_16 : decode cX11_give 16 = .ok (.invokevirtual 165, 3) := dk_i kdX11_give_0 8 rfl
theorem dX11_give_19 : decode cX11_give 19 = .ok (.ifCond .ne 9, 3) := dk_i kdX11_give_0 9 rfl
theorem dX11_give_22 : decode cX11_give 22 = .ok (.aload_n 0, 1) := dk_i kdX11_give_0 10 rfl
theorem dX11_give_23 : decode cX11_give 23 = .ok (.iconst 3, 1) := dk_i kdX11_give_0 11 rfl
theorem dX11_give_24 : decode cX11_give 24 = .ok (.invokevirtual 108, 3) := dk_i kdX11_give_0 12 rfl
theorem dX11_give_27 : decode cX11_give 27 = .ok (.ireturn, 1) := dk_i kdX11_give_0 13 rfl
theorem dX11_give_28 : decode cX11_give 28 = .ok (.aload_n 0, 1) := dk_i kdX11_give_0 14 rfl
theorem dX11_give_29 : decode cX11_give 29 = .ok (.iload_n 1, 1) := dk_i kdX11_give_0 15 rfl
def ldX11_give_30 : List (Nat × ClassFile.Instr × Nat) := [(30, .iload_n 2, 1), (31, .invokevirtual 287, 3), (34, .ireturn, 1)]
theorem kdX11_give_30 : dkO cX11_give 30 ldX11_give_30 = true := by decide +kernel
theorem dX11_give_30 : decode cX11_give 30 = .ok (.iload_n 2, 1) := dk_i kdX11_give_30 0 rfl
theorem dX11_give_31 : decode cX11_give 31 = .ok (.invokevirtual 287, 3) := dk_i kdX11_give_30 1 rfl
theorem dX11_give_34 : decode cX11_give 34 = .ok (.ireturn, 1) := dk_i kdX11_give_30 2 rfl
def ldX11_take_0 : List (Nat × ClassFile.Instr × Nat) := [(0, .aload_n 0, 1), (1, .getfield 19, 3), (4, .iload_n 1, 1), (5, .invokevirtual 175, 3), (8, .ifCond .eq 16, 3), (11, .aload_n 0, 1), (12, .getfield 47, 3), (15, .getfield 193, 3), (18, .iload_n 1, 1), (19, .iaload, 1), (20, .iconst (-1), 1), (21, .if_icmp .ne 9, 3), (24, .aload_n 0, 1), (25, .iconst 3, 1), (26, .invokevirtual 108, 3), (29, .ireturn, 1)]
theorem kdX11_take_0 : dkO cX11_take 0 ldX11_take_0 = true := by decide +kernel
theorem dX11_take_0 : decode cX11_take 0 = .ok (.aload_n 0, 1) := dk_i kdX11_take_0 0 rfl
theorem dX11_take_1 : decode cX11_take 1 = .ok (.getfield 19, 3) := dk_i kdX11_take_0 1 rfl
theorem dX11_take_4 : decode cX11_take 4 = .ok (.iload_n 1, 1) := dk_i kdX11_take_0 2 rfl
theorem dX11_take_5 : decode cX11_take 5 = .ok (.invokevirtual 175, 3) := dk_i kdX11_take_0 3 rfl
theorem dX11_take_8 : decode cX11_take 8 = .ok (.ifCond .eq 16, 3) := dk_i kdX11_take_0 4 rfl
theorem dX11_take_11 : decode cX11_take 11 = .ok (.aload_n 0, 1) := dk_i kdX11_take_0 5 rfl
theorem dX11_take_12 : decode cX11_take 12 = .ok (.getfield 47, 3) := dk_i kdX11_take_0 6 rfl
theorem dX11_take_15 : decode cX11_take 15 = .ok (.getfield 193, 3) := dk_i kdX11_take_0 7 rfl
theorem dX11_take_18 : decode cX11_take 18 = .ok (.iload_n 1, 1) := dk_i kdX11_take_0 8 rfl
theorem dX11_take_19 : decode cX11_take 19 = .ok (.iaload, 1) := dk_i kdX11_take_0 9 rfl
theorem dX11_take_20 : decode cX11_take 20 = .ok (.iconst (-1), 1) := dk_i kdX11_take_0 10 rfl
theorem dX11_take_21 : decode cX11_take 21 = .ok (.if_icmp .ne 9, 3) := dk_i kdX11_take_0 11 rfl
theorem dX11_take_24 : decode cX11_take 24 = .ok (.aload_n 0, 1) := dk_i kdX11_take_0 12 rfl
theorem dX11_take_25 : decode cX11_take 25 = .ok (.iconst 3, 1) := dk_i kdX11_take_0 13 rfl
theorem dX11_take_26 : decode cX11_take 26 = .ok (.invokevirtual 108, 3) := dk_i kdX11_take_0 14 rfl
theorem dX11_take_29 : decode cX11_take 29 = .ok (.ireturn, 1) := dk_i kdX11_take_0 15 rfl
def ldX11_take_30 : List (Nat × ClassFile.Instr × Nat) := [(30, .aload_n 0, 1), (31, .iload_n 1, 1), (32, .iconst (-1), 1), (33, .invokevirtual 287, 3), (36, .ireturn, 1)]
theorem kdX11_take_30 : dkO cX11_take 30 ldX11_take_30 = true := by decide +kernel
theorem dX11_take_30 : decode cX11_take 30 = .ok (.aload_n 0, 1) := dk_i kdX11_take_30 0 rfl
theorem dX11_take_31 : decode cX11_take 31 = .ok (.iload_n 1, 1) := dk_i kdX11_take_30 1 rfl
theorem dX11_take_32 : decode cX11_take 32 = .ok (.iconst (-1), 1) := dk_i kdX11_take_30 2 rfl
theorem dX11_take_33 : decode cX11_take 33 = .ok (.invokevirtual 287, 3) := dk_i kdX11_take_30 3 rfl
theorem dX11_take_36 : decode cX11_take 36 = .ok (.ireturn, 1) := dk_i kdX11_take_30 4 rfl
def ldX11_undo_0 : List (Nat × ClassFile.Instr × Nat) := [(0, .aload_n 0, 1), (1, .getfield 54, 3), (4, .aload_n 0, 1), (5, .getfield 47, 3), (8, .invokevirtual 290, 3), (11, .ifCond .ne 11, 3), (14, .aload_n 0, 1), (15, .iconst 4, 1), (16, .invokevirtual 108, 3), (19, .pop, 1), (20, .iconst 0, 1), (21, .ireturn, 1), (22, .iconst 1, 1), (23, .ireturn, 1)]
theorem kdX11_undo_0 : dkO cX11_undo 0 ldX11_undo_0 = true := by decide +kernel
theorem dX11_undo_0 : decode cX11_undo 0 = .ok (.aload_n 0, 1) := dk_i kdX11_undo_0 0 rfl
theorem dX11_undo_1 : decode cX11_undo 1 = .ok (.getfield 54, 3) := dk_i kdX11_undo_0 1 rfl
theorem dX11_undo_4 : decode cX11_undo 4 = .ok (.aload_n 0, 1) := dk_i kdX11_undo_0 2 rfl
theorem dX11_undo_5 : decode cX11_undo 5 = .ok (.getfield 47, 3) := dk_i kdX11_undo_0 3 rfl
theorem dX11_undo_8 : decode cX11_undo 8 = .ok (.invokevirtual 290, 3) := dk_i kdX11_undo_0 4 rfl
theorem dX11_undo_11 : decode cX11_undo 11 = .ok (.ifCond .ne 11, 3) := dk_i kdX11_undo_0 5 rfl
theorem dX11_undo_14 : decode cX11_undo 14 = .ok (.aload_n 0, 1) := dk_i kdX11_undo_0 6 rfl
theorem dX11_undo_15 : decode cX11_undo 15 = .ok (.iconst 4, 1) := dk_i kdX11_undo_0 7 rfl
theorem dX11_undo_16 : decode cX11_undo 16 = .ok (.invokevirtual 108, 3) := dk_i kdX11_undo_0 8 rfl
theorem dX11_undo_19 : decode cX11_undo 19 = .ok (.pop, 1) := dk_i kdX11_undo_0 9 rfl
theorem dX11_undo_20 : decode cX11_undo 20 = .ok (.iconst 0, 1) := dk_i kdX11_undo_0 10 rfl
theorem dX11_undo_21 : decode cX11_undo 21 = .ok (.ireturn, 1) := dk_i kdX11_undo_0 11 rfl
theorem dX11_undo_22 : decode cX11_undo 22 = .ok (.iconst 1, 1) := dk_i kdX11_undo_0 12 rfl
theorem dX11_undo_23 : decode cX11_undo 23 = .ok (.ireturn, 1) := dk_i kdX11_undo_0 13 rfl
def ldX11_seed_0 : List (Nat × ClassFile.Instr × Nat) := [(0, .iload_n 1, 1), (1, .ifCond .ge 11, 3), (4, .aload_n 0, 1), (5, .iconst 5, 1), (6, .invokevirtual 108, 3), (9, .pop, 1), (10, .iconst 0, 1), (11, .ireturn, 1), (12, .aload_n 0, 1), (13, .iload_n 1, 1), (14, .putfield 98, 3), (17, .iconst 1, 1), (18, .ireturn, 1)]
theorem kdX11_seed_0 : dkO cX11_seed 0 ldX11_seed_0 = true := by decide +kernel
theorem dX11_seed_0 : decode cX11_seed 0 = .ok (.iload_n 1, 1) := dk_i kdX11_seed_0 0 rfl
theorem dX11_seed_1 : decode cX11_seed 1 = .ok (.ifCond .ge 11, 3) := dk_i kdX11_seed_0 1 rfl
theorem dX11_seed_4 : decode cX11_seed 4 = .ok (.aload_n 0, 1) := dk_i kdX11_seed_0 2 rfl
theorem dX11_seed_5 : decode cX11_seed 5 = .ok (.iconst 5, 1) := dk_i kdX11_seed_0 3 rfl
theorem dX11_seed_6 : decode cX11_seed 6 = .ok (.invokevirtual 108, 3) := dk_i kdX11_seed_0 4 rfl
theorem dX11_seed_9 : decode cX11_seed 9 = .ok (.pop, 1) := dk_i kdX11_seed_0 5 rfl
theorem dX11_seed_10 : decode cX11_seed 10 = .ok (.iconst 0, 1) := dk_i kdX11_seed_0 6 rfl
theorem dX11_seed_11 : decode cX11_seed 11 = .ok (.ireturn, 1) := dk_i kdX11_seed_0 7 rfl
theorem dX11_seed_12 : decode cX11_seed 12 = .ok (.aload_n 0, 1) := dk_i kdX11_seed_0 8 rfl
theorem dX11_seed_13 : decode cX11_seed 13 = .ok (.iload_n 1, 1) := dk_i kdX11_seed_0 9 rfl
theorem dX11_seed_14 : decode cX11_seed 14 = .ok (.putfield 98, 3) := dk_i kdX11_seed_0 10 rfl
theorem dX11_seed_17 : decode cX11_seed 17 = .ok (.iconst 1, 1) := dk_i kdX11_seed_0 11 rfl
theorem dX11_seed_18 : decode cX11_seed 18 = .ok (.ireturn, 1) := dk_i kdX11_seed_0 12 rfl
def ldX11_kept_0 : List (Nat × ClassFile.Instr × Nat) := [(0, .iload_n 1, 1), (1, .ifCond .lt 14, 3), (4, .iload_n 1, 1), (5, .aload_n 0, 1), (6, .getfield 47, 3), (9, .getfield 158, 3), (12, .if_icmp .lt 5, 3), (15, .iconst (-1), 1), (16, .ireturn, 1), (17, .iload_n 2, 1), (18, .lookupswitch 46 #[(0, 26), (1, 36)], 26), (44, .aload_n 0, 1), (45, .getfield 47, 3), (48, .getfield 294, 3), (51, .iload_n 1, 1), (52, .iaload, 1)]
theorem kdX11_kept_0 : dkO cX11_kept 0 ldX11_kept_0 = true := by decide +kernel
theorem dX11_kept_0 : decode cX11_kept 0 = .ok (.iload_n 1, 1) := dk_i kdX11_kept_0 0 rfl
theorem dX11_kept_1 : decode cX11_kept 1 = .ok (.ifCond .lt 14, 3) := dk_i kdX11_kept_0 1 rfl
theorem dX11_kept_4 : decode cX11_kept 4 = .ok (.iload_n 1, 1) := dk_i kdX11_kept_0 2 rfl
theorem dX11_kept_5 : decode cX11_kept 5 = .ok (.aload_n 0, 1) := dk_i kdX11_kept_0 3 rfl
theorem dX11_kept_6 : decode cX11_kept 6 = .ok (.getfield 47, 3) := dk_i kdX11_kept_0 4 rfl
theorem dX11_kept_9 : decode cX11_kept 9 = .ok (.getfield 158, 3) := dk_i kdX11_kept_0 5 rfl
theorem dX11_kept_12 : decode cX11_kept 12 = .ok (.if_icmp .lt 5, 3) := dk_i kdX11_kept_0 6 rfl
theorem dX11_kept_15 : decode cX11_kept 15 = .ok (.iconst (-1), 1) := dk_i kdX11_kept_0 7 rfl
theorem dX11_kept_16 : decode cX11_kept 16 = .ok (.ireturn, 1) := dk_i kdX11_kept_0 8 rfl
theorem dX11_kept_17 : decode cX11_kept 17 = .ok (.iload_n 2, 1) := dk_i kdX11_kept_0 9 rfl
theorem dX11_kept_18 : decode cX11_kept 18 = .ok (.lookupswitch 46 #[(0, 26), (1, 36)], 26) := dk_i kdX11_kept_0 10 rfl
theorem dX11_kept_44 : decode cX11_kept 44 = .ok (.aload_n 0, 1) := dk_i kdX11_kept_0 11 rfl
theorem dX11_kept_45 : decode cX11_kept 45 = .ok (.getfield 47, 3) := dk_i kdX11_kept_0 12 rfl
theorem dX11_kept_48 : decode cX11_kept 48 = .ok (.getfield 294, 3) := dk_i kdX11_kept_0 13 rfl
theorem dX11_kept_51 : decode cX11_kept 51 = .ok (.iload_n 1, 1) := dk_i kdX11_kept_0 14 rfl
theorem dX11_kept_52 : decode cX11_kept 52 = .ok (.iaload, 1) := dk_i kdX11_kept_0 15 rfl
def ldX11_kept_53 : List (Nat × ClassFile.Instr × Nat) := [(53, .ireturn, 1), (54, .aload_n 0, 1), (55, .getfield 47, 3), (58, .getfield 297, 3), (61, .iload_n 1, 1), (62, .iaload, 1), (63, .ireturn, 1), (64, .iconst (-1), 1), (65, .ireturn, 1)]
theorem kdX11_kept_53 : dkO cX11_kept 53 ldX11_kept_53 = true := by decide +kernel
theorem dX11_kept_53 : decode cX11_kept 53 = .ok (.ireturn, 1) := dk_i kdX11_kept_53 0 rfl
theorem dX11_kept_54 : decode cX11_kept 54 = .ok (.aload_n 0, 1) := dk_i kdX11_kept_53 1 rfl
theorem dX11_kept_55 : decode cX11_kept 55 = .ok (.getfield 47, 3) := dk_i kdX11_kept_53 2 rfl
theorem dX11_kept_58 : decode cX11_kept 58 = .ok (.getfield 297, 3) := dk_i kdX11_kept_53 3 rfl
theorem dX11_kept_61 : decode cX11_kept 61 = .ok (.iload_n 1, 1) := dk_i kdX11_kept_53 4 rfl
theorem dX11_kept_62 : decode cX11_kept 62 = .ok (.iaload, 1) := dk_i kdX11_kept_53 5 rfl
theorem dX11_kept_63 : decode cX11_kept 63 = .ok (.ireturn, 1) := dk_i kdX11_kept_53 6 rfl
theorem dX11_kept_64 : decode cX11_kept 64 = .ok (.iconst (-1), 1) := dk_i kdX11_kept_53 7 rfl
theorem dX11_kept_65 : decode cX11_kept 65 = .ok (.ireturn, 1) := dk_i kdX11_kept_53 8 rfl
def ldX11_image_0 : List (Nat × ClassFile.Instr × Nat) := [(0, .aload_n 0, 1), (1, .aload_n 0, 1), (2, .getfield 47, 3), (5, .aload_n 0, 1), (6, .getfield 82, 3), (9, .invokevirtual 300, 3), (12, .putfield 88, 3), (15, .aload_n 0, 1), (16, .getfield 88, 3), (19, .ireturn, 1)]
theorem kdX11_image_0 : dkO cX11_image 0 ldX11_image_0 = true := by decide +kernel
theorem dX11_image_0 : decode cX11_image 0 = .ok (.aload_n 0, 1) := dk_i kdX11_image_0 0 rfl
theorem dX11_image_1 : decode cX11_image 1 = .ok (.aload_n 0, 1) := dk_i kdX11_image_0 1 rfl
theorem dX11_image_2 : decode cX11_image 2 = .ok (.getfield 47, 3) := dk_i kdX11_image_0 2 rfl
theorem dX11_image_5 : decode cX11_image 5 = .ok (.aload_n 0, 1) := dk_i kdX11_image_0 3 rfl
theorem dX11_image_6 : decode cX11_image 6 = .ok (.getfield 82, 3) := dk_i kdX11_image_0 4 rfl
theorem dX11_image_9 : decode cX11_image 9 = .ok (.invokevirtual 300, 3) := dk_i kdX11_image_0 5 rfl
theorem dX11_image_12 : decode cX11_image 12 = .ok (.putfield 88, 3) := dk_i kdX11_image_0 6 rfl
theorem dX11_image_15 : decode cX11_image 15 = .ok (.aload_n 0, 1) := dk_i kdX11_image_0 7 rfl
theorem dX11_image_16 : decode cX11_image 16 = .ok (.getfield 88, 3) := dk_i kdX11_image_0 8 rfl
theorem dX11_image_19 : decode cX11_image 19 = .ok (.ireturn, 1) := dk_i kdX11_image_0 9 rfl
def ldX11_octet_0 : List (Nat × ClassFile.Instr × Nat) := [(0, .iload_n 1, 1), (1, .ifCond .lt 20, 3), (4, .iload_n 1, 1), (5, .aload_n 0, 1), (6, .getfield 88, 3), (9, .if_icmp .ge 12, 3), (12, .aload_n 0, 1), (13, .getfield 82, 3), (16, .iload_n 1, 1), (17, .iaload, 1), (18, .goto 4, 3), (21, .iconst (-1), 1), (22, .ireturn, 1)]
theorem kdX11_octet_0 : dkO cX11_octet 0 ldX11_octet_0 = true := by decide +kernel
theorem dX11_octet_0 : decode cX11_octet 0 = .ok (.iload_n 1, 1) := dk_i kdX11_octet_0 0 rfl
theorem dX11_octet_1 : decode cX11_octet 1 = .ok (.ifCond .lt 20, 3) := dk_i kdX11_octet_0 1 rfl
theorem dX11_octet_4 : decode cX11_octet 4 = .ok (.iload_n 1, 1) := dk_i kdX11_octet_0 2 rfl
theorem dX11_octet_5 : decode cX11_octet 5 = .ok (.aload_n 0, 1) := dk_i kdX11_octet_0 3 rfl
theorem dX11_octet_6 : decode cX11_octet 6 = .ok (.getfield 88, 3) := dk_i kdX11_octet_0 4 rfl
theorem dX11_octet_9 : decode cX11_octet 9 = .ok (.if_icmp .ge 12, 3) := dk_i kdX11_octet_0 5 rfl
theorem dX11_octet_12 : decode cX11_octet 12 = .ok (.aload_n 0, 1) := dk_i kdX11_octet_0 6 rfl
theorem dX11_octet_13 : decode cX11_octet 13 = .ok (.getfield 82, 3) := dk_i kdX11_octet_0 7 rfl
theorem dX11_octet_16 : decode cX11_octet 16 = .ok (.iload_n 1, 1) := dk_i kdX11_octet_0 8 rfl
theorem dX11_octet_17 : decode cX11_octet 17 = .ok (.iaload, 1) := dk_i kdX11_octet_0 9 rfl
theorem dX11_octet_18 : decode cX11_octet 18 = .ok (.goto 4, 3) := dk_i kdX11_octet_0 10 rfl
theorem dX11_octet_21 : decode cX11_octet 21 = .ok (.iconst (-1), 1) := dk_i kdX11_octet_0 11 rfl
theorem dX11_octet_22 : decode cX11_octet 22 = .ok (.ireturn, 1) := dk_i kdX11_octet_0 12 rfl
def ldX11_on_0 : List (Nat × ClassFile.Instr × Nat) := [(0, .aload_n 0, 1), (1, .getfield 47, 3), (4, .aload_n 0, 1), (5, .getfield 12, 3), (8, .invokevirtual 304, 3), (11, .istore_n 1, 1), (12, .iload_n 1, 1), (13, .ifCond .eq 25, 3), (16, .aload_n 0, 1), (17, .getfield 47, 3), (20, .aload_n 0, 1), (21, .getfield 12, 3), (24, .invokevirtual 308, 3), (27, .aload_n 0, 1), (28, .getfield 54, 3), (31, .iconst 0, 1)]
theorem kdX11_on_0 : dkO cX11_on 0 ldX11_on_0 = true := by decide +kernel
theorem dX11_on_0 : decode cX11_on 0 = .ok (.aload_n 0, 1) := dk_i kdX11_on_0 0 rfl
theorem dX11_on_1 : decode cX11_on 1 = .ok (.getfield 47, 3) := dk_i kdX11_on_0 1 rfl
theorem dX11_on_4 : decode cX11_on 4 = .ok (.aload_n 0, 1) := dk_i kdX11_on_0 2 rfl
theorem dX11_on_5 : decode cX11_on 5 = .ok (.getfield 12, 3) := dk_i kdX11_on_0 3 rfl
theorem dX11_on_8 : decode cX11_on 8 = .ok (.invokevirtual 304, 3) := dk_i kdX11_on_0 4 rfl
theorem dX11_on_11 : decode cX11_on 11 = .ok (.istore_n 1, 1) := dk_i kdX11_on_0 5 rfl
theorem dX11_on_12 : decode cX11_on 12 = .ok (.iload_n 1, 1) := dk_i kdX11_on_0 6 rfl
theorem dX11_on_13 : decode cX11_on 13 = .ok (.ifCond .eq 25, 3) := dk_i kdX11_on_0 7 rfl
theorem dX11_on_16 : decode cX11_on 16 = .ok (.aload_n 0, 1) := dk_i kdX11_on_0 8 rfl
theorem dX11_on_17 : decode cX11_on 17 = .ok (.getfield 47, 3) := dk_i kdX11_on_0 9 rfl
theorem dX11_on_20 : decode cX11_on 20 = .ok (.aload_n 0, 1) := dk_i kdX11_on_0 10 rfl
theorem dX11_on_21 : decode cX11_on 21 = .ok (.getfield 12, 3) := dk_i kdX11_on_0 11 rfl
theorem dX11_on_24 : decode cX11_on 24 = .ok (.invokevirtual 308, 3) := dk_i kdX11_on_0 12 rfl
theorem dX11_on_27 : decode cX11_on 27 = .ok (.aload_n 0, 1) := dk_i kdX11_on_0 13 rfl
theorem dX11_on_28 : decode cX11_on 28 = .ok (.getfield 54, 3) := dk_i kdX11_on_0 14 rfl
theorem dX11_on_31 : decode cX11_on 31 = .ok (.iconst 0, 1) := dk_i kdX11_on_0 15 rfl
def ldX11_on_32 : List (Nat × ClassFile.Instr × Nat) := [(32, .putfield 164, 3), (35, .goto 9, 3), (38, .aload_n 0, 1), (39, .iconst 5, 1), (40, .invokevirtual 108, 3), (43, .pop, 1), (44, .aload_n 0, 1), (45, .getfield 12, 3), (48, .iconst 0, 1), (49, .putfield 116, 3), (52, .iload_n 1, 1), (53, .ireturn, 1)]
theorem kdX11_on_32 : dkO cX11_on 32 ldX11_on_32 = true := by decide +kernel
theorem dX11_on_32 : decode cX11_on 32 = .ok (.putfield 164, 3) := dk_i kdX11_on_32 0 rfl
theorem dX11_on_35 : decode cX11_on 35 = .ok (.goto 9, 3) := dk_i kdX11_on_32 1 rfl
theorem dX11_on_38 : decode cX11_on 38 = .ok (.aload_n 0, 1) := dk_i kdX11_on_32 2 rfl
theorem dX11_on_39 : decode cX11_on 39 = .ok (.iconst 5, 1) := dk_i kdX11_on_32 3 rfl
theorem dX11_on_40 : decode cX11_on 40 = .ok (.invokevirtual 108, 3) := dk_i kdX11_on_32 4 rfl
theorem dX11_on_43 : decode cX11_on 43 = .ok (.pop, 1) := dk_i kdX11_on_32 5 rfl
theorem dX11_on_44 : decode cX11_on 44 = .ok (.aload_n 0, 1) := dk_i kdX11_on_32 6 rfl
theorem dX11_on_45 : decode cX11_on 45 = .ok (.getfield 12, 3) := dk_i kdX11_on_32 7 rfl
theorem dX11_on_48 : decode cX11_on 48 = .ok (.iconst 0, 1) := dk_i kdX11_on_32 8 rfl
theorem dX11_on_49 : decode cX11_on 49 = .ok (.putfield 116, 3) := dk_i kdX11_on_32 9 rfl
theorem dX11_on_52 : decode cX11_on 52 = .ok (.iload_n 1, 1) := dk_i kdX11_on_32 10 rfl
theorem dX11_on_53 : decode cX11_on 53 = .ok (.ireturn, 1) := dk_i kdX11_on_32 11 rfl
def ldX11_status_0 : List (Nat × ClassFile.Instr × Nat) := [(0, .iload_n 1, 1), (1, .ifCond .lt 18, 3), (4, .iload_n 1, 1), (5, .bipush 6, 2), (7, .if_icmp .ge 12, 3), (10, .aload_n 0, 1), (11, .getfield 85, 3), (14, .iload_n 1, 1), (15, .iaload, 1), (16, .goto 4, 3), (19, .iconst (-1), 1), (20, .ireturn, 1)]
theorem kdX11_status_0 : dkO cX11_status 0 ldX11_status_0 = true := by decide +kernel
theorem dX11_status_0 : decode cX11_status 0 = .ok (.iload_n 1, 1) := dk_i kdX11_status_0 0 rfl
theorem dX11_status_1 : decode cX11_status 1 = .ok (.ifCond .lt 18, 3) := dk_i kdX11_status_0 1 rfl
theorem dX11_status_4 : decode cX11_status 4 = .ok (.iload_n 1, 1) := dk_i kdX11_status_0 2 rfl
theorem dX11_status_5 : decode cX11_status 5 = .ok (.bipush 6, 2) := dk_i kdX11_status_0 3 rfl
theorem dX11_status_7 : decode cX11_status 7 = .ok (.if_icmp .ge 12, 3) := dk_i kdX11_status_0 4 rfl
theorem dX11_status_10 : decode cX11_status 10 = .ok (.aload_n 0, 1) := dk_i kdX11_status_0 5 rfl
theorem dX11_status_11 : decode cX11_status 11 = .ok (.getfield 85, 3) := dk_i kdX11_status_0 6 rfl
theorem dX11_status_14 : decode cX11_status 14 = .ok (.iload_n 1, 1) := dk_i kdX11_status_0 7 rfl
theorem dX11_status_15 : decode cX11_status 15 = .ok (.iaload, 1) := dk_i kdX11_status_0 8 rfl
theorem dX11_status_16 : decode cX11_status 16 = .ok (.goto 4, 3) := dk_i kdX11_status_0 9 rfl
theorem dX11_status_19 : decode cX11_status 19 = .ok (.iconst (-1), 1) := dk_i kdX11_status_0 10 rfl
theorem dX11_status_20 : decode cX11_status 20 = .ok (.ireturn, 1) := dk_i kdX11_status_0 11 rfl
def ldX11_refuse_0 : List (Nat × ClassFile.Instr × Nat) := [(0, .iload_n 1, 1), (1, .ifCond .lt 19, 3), (4, .iload_n 1, 1), (5, .bipush 6, 2), (7, .if_icmp .ge 13, 3), (10, .aload_n 0, 1), (11, .getfield 85, 3), (14, .iload_n 1, 1), (15, .dup2, 1), (16, .iaload, 1), (17, .iconst 1, 1), (18, .iadd, 1), (19, .iastore, 1), (20, .iconst (-1), 1), (21, .ireturn, 1)]
theorem kdX11_refuse_0 : dkO cX11_refuse 0 ldX11_refuse_0 = true := by decide +kernel
theorem dX11_refuse_0 : decode cX11_refuse 0 = .ok (.iload_n 1, 1) := dk_i kdX11_refuse_0 0 rfl
theorem dX11_refuse_1 : decode cX11_refuse 1 = .ok (.ifCond .lt 19, 3) := dk_i kdX11_refuse_0 1 rfl
theorem dX11_refuse_4 : decode cX11_refuse 4 = .ok (.iload_n 1, 1) := dk_i kdX11_refuse_0 2 rfl
theorem dX11_refuse_5 : decode cX11_refuse 5 = .ok (.bipush 6, 2) := dk_i kdX11_refuse_0 3 rfl
theorem dX11_refuse_7 : decode cX11_refuse 7 = .ok (.if_icmp .ge 13, 3) := dk_i kdX11_refuse_0 4 rfl
theorem dX11_refuse_10 : decode cX11_refuse 10 = .ok (.aload_n 0, 1) := dk_i kdX11_refuse_0 5 rfl
theorem dX11_refuse_11 : decode cX11_refuse 11 = .ok (.getfield 85, 3) := dk_i kdX11_refuse_0 6 rfl
theorem dX11_refuse_14 : decode cX11_refuse 14 = .ok (.iload_n 1, 1) := dk_i kdX11_refuse_0 7 rfl
theorem dX11_refuse_15 : decode cX11_refuse 15 = .ok (.dup2, 1) := dk_i kdX11_refuse_0 8 rfl
theorem dX11_refuse_16 : decode cX11_refuse 16 = .ok (.iaload, 1) := dk_i kdX11_refuse_0 9 rfl
theorem dX11_refuse_17 : decode cX11_refuse 17 = .ok (.iconst 1, 1) := dk_i kdX11_refuse_0 10 rfl
theorem dX11_refuse_18 : decode cX11_refuse 18 = .ok (.iadd, 1) := dk_i kdX11_refuse_0 11 rfl
theorem dX11_refuse_19 : decode cX11_refuse 19 = .ok (.iastore, 1) := dk_i kdX11_refuse_0 12 rfl
theorem dX11_refuse_20 : decode cX11_refuse 20 = .ok (.iconst (-1), 1) := dk_i kdX11_refuse_0 13 rfl
theorem dX11_refuse_21 : decode cX11_refuse 21 = .ok (.ireturn, 1) := dk_i kdX11_refuse_0 14 rfl
def ldX11_begin_0 : List (Nat × ClassFile.Instr × Nat) := [(0, .aload_n 0, 1), (1, .getfield 40, 3), (4, .aload_n 0, 1), (5, .getfield 19, 3), (8, .putfield 312, 3), (11, .aload_n 0, 1), (12, .getfield 47, 3), (15, .aload_n 0, 1), (16, .getfield 19, 3), (19, .invokevirtual 315, 3), (22, .aload_n 0, 1), (23, .getfield 47, 3), (26, .aload_n 0, 1), (27, .getfield 40, 3), (30, .invokevirtual 280, 3), (33, .pop, 1)]
theorem kdX11_begin_0 : dkO cX11_begin 0 ldX11_begin_0 = true := by decide +kernel
theorem dX11_begin_0 : decode cX11_begin 0 = .ok (.aload_n 0, 1) := dk_i kdX11_begin_0 0 rfl
theorem dX11_begin_1 : decode cX11_begin 1 = .ok (.getfield 40, 3) := dk_i kdX11_begin_0 1 rfl
theorem dX11_begin_4 : decode cX11_begin 4 = .ok (.aload_n 0, 1) := dk_i kdX11_begin_0 2 rfl
theorem dX11_begin_5 : decode cX11_begin 5 = .ok (.getfield 19, 3) := dk_i kdX11_begin_0 3 rfl
theorem dX11_begin_8 : decode cX11_begin 8 = .ok (.putfield 312, 3) := dk_i kdX11_begin_0 4 rfl
theorem dX11_begin_11 : decode cX11_begin 11 = .ok (.aload_n 0, 1) := dk_i kdX11_begin_0 5 rfl
theorem dX11_begin_12 : decode cX11_begin 12 = .ok (.getfield 47, 3) := dk_i kdX11_begin_0 6 rfl
theorem dX11_begin_15 : decode cX11_begin 15 = .ok (.aload_n 0, 1) := dk_i kdX11_begin_0 7 rfl
theorem dX11_begin_16 : decode cX11_begin 16 = .ok (.getfield 19, 3) := dk_i kdX11_begin_0 8 rfl
theorem dX11_begin_19 : decode cX11_begin 19 = .ok (.invokevirtual 315, 3) := dk_i kdX11_begin_0 9 rfl
theorem dX11_begin_22 : decode cX11_begin 22 = .ok (.aload_n 0, 1) := dk_i kdX11_begin_0 10 rfl
theorem dX11_begin_23 : decode cX11_begin 23 = .ok (.getfield 47, 3) := dk_i kdX11_begin_0 11 rfl
theorem dX11_begin_26 : decode cX11_begin 26 = .ok (.aload_n 0, 1) := dk_i kdX11_begin_0 12 rfl
theorem dX11_begin_27 : decode cX11_begin 27 = .ok (.getfield 40, 3) := dk_i kdX11_begin_0 13 rfl
theorem dX11_begin_30 : decode cX11_begin 30 = .ok (.invokevirtual 280, 3) := dk_i kdX11_begin_0 14 rfl
theorem dX11_begin_33 : decode cX11_begin 33 = .ok (.pop, 1) := dk_i kdX11_begin_0 15 rfl
def ldX11_begin_34 : List (Nat × ClassFile.Instr × Nat) := [(34, .aload_n 0, 1), (35, .getfield 54, 3), (38, .iconst 0, 1), (39, .putfield 164, 3), (42, .aload_n 0, 1), (43, .getfield 68, 3), (46, .iconst 0, 1), (47, .putfield 161, 3), (50, .return_, 1)]
theorem kdX11_begin_34 : dkO cX11_begin 34 ldX11_begin_34 = true := by decide +kernel
theorem dX11_begin_34 : decode cX11_begin 34 = .ok (.aload_n 0, 1) := dk_i kdX11_begin_34 0 rfl
theorem dX11_begin_35 : decode cX11_begin 35 = .ok (.getfield 54, 3) := dk_i kdX11_begin_34 1 rfl
theorem dX11_begin_38 : decode cX11_begin 38 = .ok (.iconst 0, 1) := dk_i kdX11_begin_34 2 rfl
theorem dX11_begin_39 : decode cX11_begin 39 = .ok (.putfield 164, 3) := dk_i kdX11_begin_34 3 rfl
theorem dX11_begin_42 : decode cX11_begin 42 = .ok (.aload_n 0, 1) := dk_i kdX11_begin_34 4 rfl
theorem dX11_begin_43 : decode cX11_begin 43 = .ok (.getfield 68, 3) := dk_i kdX11_begin_34 5 rfl
theorem dX11_begin_46 : decode cX11_begin 46 = .ok (.iconst 0, 1) := dk_i kdX11_begin_34 6 rfl
theorem dX11_begin_47 : decode cX11_begin 47 = .ok (.putfield 161, 3) := dk_i kdX11_begin_34 7 rfl
theorem dX11_begin_50 : decode cX11_begin 50 = .ok (.return_, 1) := dk_i kdX11_begin_34 8 rfl
def ldX11_isBeyond_0 : List (Nat × ClassFile.Instr × Nat) := [(0, .iload_n 1, 1), (1, .sipush 9999, 3), (4, .aload_n 0, 1), (5, .getfield 47, 3), (8, .getfield 148, 3), (11, .isub, 1), (12, .if_icmp .le 7, 3), (15, .iconst 1, 1), (16, .goto 4, 3), (19, .iconst 0, 1), (20, .ireturn, 1)]
theorem kdX11_isBeyond_0 : dkO cX11_isBeyond 0 ldX11_isBeyond_0 = true := by decide +kernel
theorem dX11_isBeyond_0 : decode cX11_isBeyond 0 = .ok (.iload_n 1, 1) := dk_i kdX11_isBeyond_0 0 rfl
theorem dX11_isBeyond_1 : decode cX11_isBeyond 1 = .ok (.sipush 9999, 3) := dk_i kdX11_isBeyond_0 1 rfl
theorem dX11_isBeyond_4 : decode cX11_isBeyond 4 = .ok (.aload_n 0, 1) := dk_i kdX11_isBeyond_0 2 rfl
theorem dX11_isBeyond_5 : decode cX11_isBeyond 5 = .ok (.getfield 47, 3) := dk_i kdX11_isBeyond_0 3 rfl
theorem dX11_isBeyond_8 : decode cX11_isBeyond 8 = .ok (.getfield 148, 3) := dk_i kdX11_isBeyond_0 4 rfl
theorem dX11_isBeyond_11 : decode cX11_isBeyond 11 = .ok (.isub, 1) := dk_i kdX11_isBeyond_0 5 rfl
theorem dX11_isBeyond_12 : decode cX11_isBeyond 12 = .ok (.if_icmp .le 7, 3) := dk_i kdX11_isBeyond_0 6 rfl
theorem dX11_isBeyond_15 : decode cX11_isBeyond 15 = .ok (.iconst 1, 1) := dk_i kdX11_isBeyond_0 7 rfl
theorem dX11_isBeyond_16 : decode cX11_isBeyond 16 = .ok (.goto 4, 3) := dk_i kdX11_isBeyond_0 8 rfl
theorem dX11_isBeyond_19 : decode cX11_isBeyond 19 = .ok (.iconst 0, 1) := dk_i kdX11_isBeyond_0 9 rfl
theorem dX11_isBeyond_20 : decode cX11_isBeyond 20 = .ok (.ireturn, 1) := dk_i kdX11_isBeyond_0 10 rfl
def ldX11_lookAt_0 : List (Nat × ClassFile.Instr × Nat) := [(0, .aload_n 0, 1), (1, .getfield 40, 3), (4, .iload_n 1, 1), (5, .aload_n 0, 1), (6, .getfield 47, 3), (9, .getfield 193, 3), (12, .iload_n 1, 1), (13, .iaload, 1), (14, .aload_n 0, 1), (15, .getfield 47, 3), (18, .getfield 195, 3), (21, .iload_n 1, 1), (22, .iaload, 1), (23, .aload_n 0, 1), (24, .getfield 47, 3), (27, .getfield 148, 3)]
theorem kdX11_lookAt_0 : dkO cX11_lookAt 0 ldX11_lookAt_0 = true := by decide +kernel
theorem dX11_lookAt_0 : decode cX11_lookAt 0 = .ok (.aload_n 0, 1) := dk_i kdX11_lookAt_0 0 rfl
theorem dX11_lookAt_1 : decode cX11_lookAt 1 = .ok (.getfield 40, 3) := dk_i kdX11_lookAt_0 1 rfl
theorem dX11_lookAt_4 : decode cX11_lookAt 4 = .ok (.iload_n 1, 1) := dk_i kdX11_lookAt_0 2 rfl
theorem dX11_lookAt_5 : decode cX11_lookAt 5 = .ok (.aload_n 0, 1) := dk_i kdX11_lookAt_0 3 rfl
theorem dX11_lookAt_6 : decode cX11_lookAt 6 = .ok (.getfield 47, 3) := dk_i kdX11_lookAt_0 4 rfl
theorem dX11_lookAt_9 : decode cX11_lookAt 9 = .ok (.getfield 193, 3) := dk_i kdX11_lookAt_0 5 rfl
theorem dX11_lookAt_12 : decode cX11_lookAt 12 = .ok (.iload_n 1, 1) := dk_i kdX11_lookAt_0 6 rfl
theorem dX11_lookAt_13 : decode cX11_lookAt 13 = .ok (.iaload, 1) := dk_i kdX11_lookAt_0 7 rfl
theorem dX11_lookAt_14 : decode cX11_lookAt 14 = .ok (.aload_n 0, 1) := dk_i kdX11_lookAt_0 8 rfl
theorem dX11_lookAt_15 : decode cX11_lookAt 15 = .ok (.getfield 47, 3) := dk_i kdX11_lookAt_0 9 rfl
theorem dX11_lookAt_18 : decode cX11_lookAt 18 = .ok (.getfield 195, 3) := dk_i kdX11_lookAt_0 10 rfl
theorem dX11_lookAt_21 : decode cX11_lookAt 21 = .ok (.iload_n 1, 1) := dk_i kdX11_lookAt_0 11 rfl
theorem dX11_lookAt_22 : decode cX11_lookAt 22 = .ok (.iaload, 1) := dk_i kdX11_lookAt_0 12 rfl
theorem dX11_lookAt_23 : decode cX11_lookAt 23 = .ok (.aload_n 0, 1) := dk_i kdX11_lookAt_0 13 rfl
theorem dX11_lookAt_24 : decode cX11_lookAt 24 = .ok (.getfield 47, 3) := dk_i kdX11_lookAt_0 14 rfl
theorem dX11_lookAt_27 : decode cX11_lookAt 27 = .ok (.getfield 148, 3) := dk_i kdX11_lookAt_0 15 rfl
def ldX11_lookAt_30 : List (Nat × ClassFile.Instr × Nat) := [(30, .invokevirtual 317, 3), (33, .return_, 1)]
theorem kdX11_lookAt_30 : dkO cX11_lookAt 30 ldX11_lookAt_30 = true := by decide +kernel
theorem dX11_lookAt_30 : decode cX11_lookAt 30 = .ok (.invokevirtual 317, 3) := dk_i kdX11_lookAt_30 0 rfl
theorem dX11_lookAt_33 : decode cX11_lookAt 33 = .ok (.return_, 1) := dk_i kdX11_lookAt_30 1 rfl
def ldX11_hourAt_0 : List (Nat × ClassFile.Instr × Nat) := [(0, .aload_n 0, 1), (1, .iload_n 1, 1), (2, .invokevirtual 237, 3), (5, .aload_n 0, 1), (6, .getfield 40, 3), (9, .invokevirtual 321, 3), (12, .ireturn, 1)]
theorem kdX11_hourAt_0 : dkO cX11_hourAt 0 ldX11_hourAt_0 = true := by decide +kernel
theorem dX11_hourAt_0 : decode cX11_hourAt 0 = .ok (.aload_n 0, 1) := dk_i kdX11_hourAt_0 0 rfl
theorem dX11_hourAt_1 : decode cX11_hourAt 1 = .ok (.iload_n 1, 1) := dk_i kdX11_hourAt_0 1 rfl
theorem dX11_hourAt_2 : decode cX11_hourAt 2 = .ok (.invokevirtual 237, 3) := dk_i kdX11_hourAt_0 2 rfl
theorem dX11_hourAt_5 : decode cX11_hourAt 5 = .ok (.aload_n 0, 1) := dk_i kdX11_hourAt_0 3 rfl
theorem dX11_hourAt_6 : decode cX11_hourAt 6 = .ok (.getfield 40, 3) := dk_i kdX11_hourAt_0 4 rfl
theorem dX11_hourAt_9 : decode cX11_hourAt 9 = .ok (.invokevirtual 321, 3) := dk_i kdX11_hourAt_0 5 rfl
theorem dX11_hourAt_12 : decode cX11_hourAt 12 = .ok (.ireturn, 1) := dk_i kdX11_hourAt_0 6 rfl
def ldX11_foresee_0 : List (Nat × ClassFile.Instr × Nat) := [(0, .aload_n 0, 1), (1, .iload_n 1, 1), (2, .invokevirtual 237, 3), (5, .aload_n 0, 1), (6, .getfield 40, 3), (9, .aload_n 2, 1), (10, .iload_n 3, 1), (11, .invokevirtual 324, 3), (14, .ireturn, 1)]
theorem kdX11_foresee_0 : dkO cX11_foresee 0 ldX11_foresee_0 = true := by decide +kernel
theorem dX11_foresee_0 : decode cX11_foresee 0 = .ok (.aload_n 0, 1) := dk_i kdX11_foresee_0 0 rfl
theorem dX11_foresee_1 : decode cX11_foresee 1 = .ok (.iload_n 1, 1) := dk_i kdX11_foresee_0 1 rfl
theorem dX11_foresee_2 : decode cX11_foresee 2 = .ok (.invokevirtual 237, 3) := dk_i kdX11_foresee_0 2 rfl
theorem dX11_foresee_5 : decode cX11_foresee 5 = .ok (.aload_n 0, 1) := dk_i kdX11_foresee_0 3 rfl
theorem dX11_foresee_6 : decode cX11_foresee 6 = .ok (.getfield 40, 3) := dk_i kdX11_foresee_0 4 rfl
theorem dX11_foresee_9 : decode cX11_foresee 9 = .ok (.aload_n 2, 1) := dk_i kdX11_foresee_0 5 rfl
theorem dX11_foresee_10 : decode cX11_foresee 10 = .ok (.iload_n 3, 1) := dk_i kdX11_foresee_0 6 rfl
theorem dX11_foresee_11 : decode cX11_foresee 11 = .ok (.invokevirtual 324, 3) := dk_i kdX11_foresee_0 7 rfl
theorem dX11_foresee_14 : decode cX11_foresee 14 = .ok (.ireturn, 1) := dk_i kdX11_foresee_0 8 rfl
def ldX11_putByAct_0 : List (Nat × ClassFile.Instr × Nat) := [(0, .aload_n 0, 1), (1, .getfield 54, 3), (4, .aload_n 0, 1), (5, .getfield 47, 3), (8, .invokevirtual 272, 3), (11, .aload_n 0, 1), (12, .getfield 47, 3), (15, .iload_n 1, 1), (16, .iload_n 2, 1), (17, .invokevirtual 327, 3), (20, .aload_n 0, 1), (21, .getfield 47, 3), (24, .aload_n 0, 1), (25, .getfield 40, 3), (28, .invokevirtual 280, 3), (31, .pop, 1)]
theorem kdX11_putByAct_0 : dkO cX11_putByAct 0 ldX11_putByAct_0 = true := by decide +kernel
theorem dX11_putByAct_0 : decode cX11_putByAct 0 = .ok (.aload_n 0, 1) := dk_i kdX11_putByAct_0 0 rfl
theorem dX11_putByAct_1 : decode cX11_putByAct 1 = .ok (.getfield 54, 3) := dk_i kdX11_putByAct_0 1 rfl
theorem dX11_putByAct_4 : decode cX11_putByAct 4 = .ok (.aload_n 0, 1) := dk_i kdX11_putByAct_0 2 rfl
theorem dX11_putByAct_5 : decode cX11_putByAct 5 = .ok (.getfield 47, 3) := dk_i kdX11_putByAct_0 3 rfl
theorem dX11_putByAct_8 : decode cX11_putByAct 8 = .ok (.invokevirtual 272, 3) := dk_i kdX11_putByAct_0 4 rfl
theorem dX11_putByAct_11 : decode cX11_putByAct 11 = .ok (.aload_n 0, 1) := dk_i kdX11_putByAct_0 5 rfl
theorem dX11_putByAct_12 : decode cX11_putByAct 12 = .ok (.getfield 47, 3) := dk_i kdX11_putByAct_0 6 rfl
theorem dX11_putByAct_15 : decode cX11_putByAct 15 = .ok (.iload_n 1, 1) := dk_i kdX11_putByAct_0 7 rfl
theorem dX11_putByAct_16 : decode cX11_putByAct 16 = .ok (.iload_n 2, 1) := dk_i kdX11_putByAct_0 8 rfl
theorem dX11_putByAct_17 : decode cX11_putByAct 17 = .ok (.invokevirtual 327, 3) := dk_i kdX11_putByAct_0 9 rfl
theorem dX11_putByAct_20 : decode cX11_putByAct 20 = .ok (.aload_n 0, 1) := dk_i kdX11_putByAct_0 10 rfl
theorem dX11_putByAct_21 : decode cX11_putByAct 21 = .ok (.getfield 47, 3) := dk_i kdX11_putByAct_0 11 rfl
theorem dX11_putByAct_24 : decode cX11_putByAct 24 = .ok (.aload_n 0, 1) := dk_i kdX11_putByAct_0 12 rfl
theorem dX11_putByAct_25 : decode cX11_putByAct 25 = .ok (.getfield 40, 3) := dk_i kdX11_putByAct_0 13 rfl
theorem dX11_putByAct_28 : decode cX11_putByAct 28 = .ok (.invokevirtual 280, 3) := dk_i kdX11_putByAct_0 14 rfl
theorem dX11_putByAct_31 : decode cX11_putByAct 31 = .ok (.pop, 1) := dk_i kdX11_putByAct_0 15 rfl
def ldX11_putByAct_32 : List (Nat × ClassFile.Instr × Nat) := [(32, .aload_n 0, 1), (33, .iload_n 1, 1), (34, .invokevirtual 198, 3), (37, .ireturn, 1)]
theorem kdX11_putByAct_32 : dkO cX11_putByAct 32 ldX11_putByAct_32 = true := by decide +kernel
theorem dX11_putByAct_32 : decode cX11_putByAct 32 = .ok (.aload_n 0, 1) := dk_i kdX11_putByAct_32 0 rfl
theorem dX11_putByAct_33 : decode cX11_putByAct 33 = .ok (.iload_n 1, 1) := dk_i kdX11_putByAct_32 1 rfl
theorem dX11_putByAct_34 : decode cX11_putByAct 34 = .ok (.invokevirtual 198, 3) := dk_i kdX11_putByAct_32 2 rfl
theorem dX11_putByAct_37 : decode cX11_putByAct 37 = .ok (.ireturn, 1) := dk_i kdX11_putByAct_32 3 rfl
def ldX11_countStaying_0 : List (Nat × ClassFile.Instr × Nat) := [(0, .aload_n 0, 1), (1, .getfield 40, 3), (4, .iload_n 1, 1), (5, .iload_n 2, 1), (6, .iconst 0, 1), (7, .aload_n 0, 1), (8, .getfield 47, 3), (11, .getfield 148, 3), (14, .invokevirtual 317, 3), (17, .aload_n 0, 1), (18, .getfield 40, 3), (21, .aload_n 0, 1), (22, .getfield 72, 3), (25, .bipush 60, 2), (27, .invokevirtual 324, 3), (30, .istore_n 3, 1)]
theorem kdX11_countStaying_0 : dkO cX11_countStaying 0 ldX11_countStaying_0 = true := by decide +kernel
theorem dX11_countStaying_0 : decode cX11_countStaying 0 = .ok (.aload_n 0, 1) := dk_i kdX11_countStaying_0 0 rfl
theorem dX11_countStaying_1 : decode cX11_countStaying 1 = .ok (.getfield 40, 3) := dk_i kdX11_countStaying_0 1 rfl
theorem dX11_countStaying_4 : decode cX11_countStaying 4 = .ok (.iload_n 1, 1) := dk_i kdX11_countStaying_0 2 rfl
theorem dX11_countStaying_5 : decode cX11_countStaying 5 = .ok (.iload_n 2, 1) := dk_i kdX11_countStaying_0 3 rfl
theorem dX11_countStaying_6 : decode cX11_countStaying 6 = .ok (.iconst 0, 1) := dk_i kdX11_countStaying_0 4 rfl
theorem dX11_countStaying_7 : decode cX11_countStaying 7 = .ok (.aload_n 0, 1) := dk_i kdX11_countStaying_0 5 rfl
theorem dX11_countStaying_8 : decode cX11_countStaying 8 = .ok (.getfield 47, 3) := dk_i kdX11_countStaying_0 6 rfl
theorem dX11_countStaying_11 : decode cX11_countStaying 11 = .ok (.getfield 148, 3) := dk_i kdX11_countStaying_0 7 rfl
theorem dX11_countStaying_14 : decode cX11_countStaying 14 = .ok (.invokevirtual 317, 3) := dk_i kdX11_countStaying_0 8 rfl
theorem dX11_countStaying_17 : decode cX11_countStaying 17 = .ok (.aload_n 0, 1) := dk_i kdX11_countStaying_0 9 rfl
theorem dX11_countStaying_18 : decode cX11_countStaying 18 = .ok (.getfield 40, 3) := dk_i kdX11_countStaying_0 10 rfl
theorem dX11_countStaying_21 : decode cX11_countStaying 21 = .ok (.aload_n 0, 1) := dk_i kdX11_countStaying_0 11 rfl
theorem dX11_countStaying_22 : decode cX11_countStaying 22 = .ok (.getfield 72, 3) := dk_i kdX11_countStaying_0 12 rfl
theorem dX11_countStaying_25 : decode cX11_countStaying 25 = .ok (.bipush 60, 2) := dk_i kdX11_countStaying_0 13 rfl
theorem dX11_countStaying_27 : decode cX11_countStaying 27 = .ok (.invokevirtual 324, 3) := dk_i kdX11_countStaying_0 14 rfl
theorem dX11_countStaying_30 : decode cX11_countStaying 30 = .ok (.istore_n 3, 1) := dk_i kdX11_countStaying_0 15 rfl
def ldX11_countStaying_31 : List (Nat × ClassFile.Instr × Nat) := [(31, .iconst 1, 1), (32, .istore 4, 2), (34, .iload 4, 2), (36, .iload_n 3, 1), (37, .if_icmp .gt 30, 3), (40, .aload_n 0, 1), (41, .getfield 72, 3), (44, .iload 4, 2), (46, .iaload, 1), (47, .aload_n 0, 1), (48, .getfield 72, 3), (51, .iconst 0, 1), (52, .iaload, 1), (53, .if_icmp .eq 8, 3), (56, .iload 4, 2), (58, .iconst 1, 1)]
theorem kdX11_countStaying_31 : dkO cX11_countStaying 31 ldX11_countStaying_31 = true := by decide +kernel
theorem dX11_countStaying_31 : decode cX11_countStaying 31 = .ok (.iconst 1, 1) := dk_i kdX11_countStaying_31 0 rfl
theorem dX11_countStaying_32 : decode cX11_countStaying 32 = .ok (.istore 4, 2) := dk_i kdX11_countStaying_31 1 rfl
theorem dX11_countStaying_34 : decode cX11_countStaying 34 = .ok (.iload 4, 2) := dk_i kdX11_countStaying_31 2 rfl
theorem dX11_countStaying_36 : decode cX11_countStaying 36 = .ok (.iload_n 3, 1) := dk_i kdX11_countStaying_31 3 rfl
theorem dX11_countStaying_37 : decode cX11_countStaying 37 = .ok (.if_icmp .gt 30, 3) := dk_i kdX11_countStaying_31 4 rfl
theorem dX11_countStaying_40 : decode cX11_countStaying 40 = .ok (.aload_n 0, 1) := dk_i kdX11_countStaying_31 5 rfl
theorem dX11_countStaying_41 : decode cX11_countStaying 41 = .ok (.getfield 72, 3) := dk_i kdX11_countStaying_31 6 rfl
theorem dX11_countStaying_44 : decode cX11_countStaying 44 = .ok (.iload 4, 2) := dk_i kdX11_countStaying_31 7 rfl
theorem dX11_countStaying_46 : decode cX11_countStaying 46 = .ok (.iaload, 1) := dk_i kdX11_countStaying_31 8 rfl
theorem dX11_countStaying_47 : decode cX11_countStaying 47 = .ok (.aload_n 0, 1) := dk_i kdX11_countStaying_31 9 rfl
theorem dX11_countStaying_48 : decode cX11_countStaying 48 = .ok (.getfield 72, 3) := dk_i kdX11_countStaying_31 10 rfl
theorem dX11_countStaying_51 : decode cX11_countStaying 51 = .ok (.iconst 0, 1) := dk_i kdX11_countStaying_31 11 rfl
theorem dX11_countStaying_52 : decode cX11_countStaying 52 = .ok (.iaload, 1) := dk_i kdX11_countStaying_31 12 rfl
theorem dX11_countStaying_53 : decode cX11_countStaying 53 = .ok (.if_icmp .eq 8, 3) := dk_i kdX11_countStaying_31 13 rfl
theorem dX11_countStaying_56 : decode cX11_countStaying 56 = .ok (.iload 4, 2) := dk_i kdX11_countStaying_31 14 rfl
theorem dX11_countStaying_58 : decode cX11_countStaying 58 = .ok (.iconst 1, 1) := dk_i kdX11_countStaying_31 15 rfl
def ldX11_countStaying_59 : List (Nat × ClassFile.Instr × Nat) := [(59, .isub, 1), (60, .ireturn, 1), (61, .iinc 4 1, 3), (64, .goto (-30), 3), (67, .iload_n 3, 1), (68, .ireturn, 1)]
theorem kdX11_countStaying_59 : dkO cX11_countStaying 59 ldX11_countStaying_59 = true := by decide +kernel
theorem dX11_countStaying_59 : decode cX11_countStaying 59 = .ok (.isub, 1) := dk_i kdX11_countStaying_59 0 rfl
theorem dX11_countStaying_60 : decode cX11_countStaying 60 = .ok (.ireturn, 1) := dk_i kdX11_countStaying_59 1 rfl
theorem dX11_countStaying_61 : decode cX11_countStaying 61 = .ok (.iinc 4 1, 3) := dk_i kdX11_countStaying_59 2 rfl
theorem dX11_countStaying_64 : decode cX11_countStaying 64 = .ok (.goto (-30), 3) := dk_i kdX11_countStaying_59 3 rfl
theorem dX11_countStaying_67 : decode cX11_countStaying 67 = .ok (.iload_n 3, 1) := dk_i kdX11_countStaying_59 4 rfl
theorem dX11_countStaying_68 : decode cX11_countStaying 68 = .ok (.ireturn, 1) := dk_i kdX11_countStaying_59 5 rfl
def ldX11_planNothing_0 : List (Nat × ClassFile.Instr × Nat) := [(0, .iconst 0, 1), (1, .istore_n 3, 1), (2, .iload_n 3, 1), (3, .aload_n 0, 1), (4, .getfield 19, 3), (7, .getfield 139, 3), (10, .if_icmp .ge 16, 3), (13, .aload_n 0, 1), (14, .getfield 79, 3), (17, .iload_n 3, 1), (18, .iconst (-1), 1), (19, .iastore, 1), (20, .iinc 3 1, 3), (23, .goto (-21), 3), (26, .iconst 0, 1), (27, .istore_n 3, 1)]
theorem kdX11_planNothing_0 : dkO cX11_planNothing 0 ldX11_planNothing_0 = true := by decide +kernel
theorem dX11_planNothing_0 : decode cX11_planNothing 0 = .ok (.iconst 0, 1) := dk_i kdX11_planNothing_0 0 rfl
theorem dX11_planNothing_1 : decode cX11_planNothing 1 = .ok (.istore_n 3, 1) := dk_i kdX11_planNothing_0 1 rfl
theorem dX11_planNothing_2 : decode cX11_planNothing 2 = .ok (.iload_n 3, 1) := dk_i kdX11_planNothing_0 2 rfl
theorem dX11_planNothing_3 : decode cX11_planNothing 3 = .ok (.aload_n 0, 1) := dk_i kdX11_planNothing_0 3 rfl
theorem dX11_planNothing_4 : decode cX11_planNothing 4 = .ok (.getfield 19, 3) := dk_i kdX11_planNothing_0 4 rfl
theorem dX11_planNothing_7 : decode cX11_planNothing 7 = .ok (.getfield 139, 3) := dk_i kdX11_planNothing_0 5 rfl
theorem dX11_planNothing_10 : decode cX11_planNothing 10 = .ok (.if_icmp .ge 16, 3) := dk_i kdX11_planNothing_0 6 rfl
theorem dX11_planNothing_13 : decode cX11_planNothing 13 = .ok (.aload_n 0, 1) := dk_i kdX11_planNothing_0 7 rfl
theorem dX11_planNothing_14 : decode cX11_planNothing 14 = .ok (.getfield 79, 3) := dk_i kdX11_planNothing_0 8 rfl
theorem dX11_planNothing_17 : decode cX11_planNothing 17 = .ok (.iload_n 3, 1) := dk_i kdX11_planNothing_0 9 rfl
theorem dX11_planNothing_18 : decode cX11_planNothing 18 = .ok (.iconst (-1), 1) := dk_i kdX11_planNothing_0 10 rfl
theorem dX11_planNothing_19 : decode cX11_planNothing 19 = .ok (.iastore, 1) := dk_i kdX11_planNothing_0 11 rfl
theorem dX11_planNothing_20 : decode cX11_planNothing 20 = .ok (.iinc 3 1, 3) := dk_i kdX11_planNothing_0 12 rfl
theorem dX11_planNothing_23 : decode cX11_planNothing 23 = .ok (.goto (-21), 3) := dk_i kdX11_planNothing_0 13 rfl
theorem dX11_planNothing_26 : decode cX11_planNothing 26 = .ok (.iconst 0, 1) := dk_i kdX11_planNothing_0 14 rfl
theorem dX11_planNothing_27 : decode cX11_planNothing 27 = .ok (.istore_n 3, 1) := dk_i kdX11_planNothing_0 15 rfl
def ldX11_planNothing_28 : List (Nat × ClassFile.Instr × Nat) := [(28, .iload_n 3, 1), (29, .aload_n 0, 1), (30, .getfield 19, 3), (33, .getfield 139, 3), (36, .if_icmp .ge 22, 3), (39, .aload_n 0, 1), (40, .iload_n 3, 1), (41, .iload_n 1, 1), (42, .iconst 1, 1), (43, .iload_n 2, 1), (44, .invokevirtual 331, 3), (47, .ifCond .ne 5, 3), (50, .iconst 0, 1), (51, .ireturn, 1), (52, .iinc 3 1, 3), (55, .goto (-27), 3)]
theorem kdX11_planNothing_28 : dkO cX11_planNothing 28 ldX11_planNothing_28 = true := by decide +kernel
theorem dX11_planNothing_28 : decode cX11_planNothing 28 = .ok (.iload_n 3, 1) := dk_i kdX11_planNothing_28 0 rfl
theorem dX11_planNothing_29 : decode cX11_planNothing 29 = .ok (.aload_n 0, 1) := dk_i kdX11_planNothing_28 1 rfl
theorem dX11_planNothing_30 : decode cX11_planNothing 30 = .ok (.getfield 19, 3) := dk_i kdX11_planNothing_28 2 rfl
theorem dX11_planNothing_33 : decode cX11_planNothing 33 = .ok (.getfield 139, 3) := dk_i kdX11_planNothing_28 3 rfl
theorem dX11_planNothing_36 : decode cX11_planNothing 36 = .ok (.if_icmp .ge 22, 3) := dk_i kdX11_planNothing_28 4 rfl
theorem dX11_planNothing_39 : decode cX11_planNothing 39 = .ok (.aload_n 0, 1) := dk_i kdX11_planNothing_28 5 rfl
theorem dX11_planNothing_40 : decode cX11_planNothing 40 = .ok (.iload_n 3, 1) := dk_i kdX11_planNothing_28 6 rfl
theorem dX11_planNothing_41 : decode cX11_planNothing 41 = .ok (.iload_n 1, 1) := dk_i kdX11_planNothing_28 7 rfl
theorem dX11_planNothing_42 : decode cX11_planNothing 42 = .ok (.iconst 1, 1) := dk_i kdX11_planNothing_28 8 rfl
theorem dX11_planNothing_43 : decode cX11_planNothing 43 = .ok (.iload_n 2, 1) := dk_i kdX11_planNothing_28 9 rfl
theorem dX11_planNothing_44 : decode cX11_planNothing 44 = .ok (.invokevirtual 331, 3) := dk_i kdX11_planNothing_28 10 rfl
theorem dX11_planNothing_47 : decode cX11_planNothing 47 = .ok (.ifCond .ne 5, 3) := dk_i kdX11_planNothing_28 11 rfl
theorem dX11_planNothing_50 : decode cX11_planNothing 50 = .ok (.iconst 0, 1) := dk_i kdX11_planNothing_28 12 rfl
theorem dX11_planNothing_51 : decode cX11_planNothing 51 = .ok (.ireturn, 1) := dk_i kdX11_planNothing_28 13 rfl
theorem dX11_planNothing_52 : decode cX11_planNothing 52 = .ok (.iinc 3 1, 3) := dk_i kdX11_planNothing_28 14 rfl
theorem dX11_planNothing_55 : decode cX11_planNothing 55 = .ok (.goto (-27), 3) := dk_i kdX11_planNothing_28 15 rfl
def ldX11_planNothing_58 : List (Nat × ClassFile.Instr × Nat) := [(58, .iconst 1, 1), (59, .ireturn, 1)]
theorem kdX11_planNothing_58 : dkO cX11_planNothing 58 ldX11_planNothing_58 = true := by decide +kernel
theorem dX11_planNothing_58 : decode cX11_planNothing 58 = .ok (.iconst 1, 1) := dk_i kdX11_planNothing_58 0 rfl
theorem dX11_planNothing_59 : decode cX11_planNothing 59 = .ok (.ireturn, 1) := dk_i kdX11_planNothing_58 1 rfl
def ldX11_planNeeded_0 : List (Nat × ClassFile.Instr × Nat) := [(0, .iconst 0, 1), (1, .istore_n 3, 1), (2, .iload_n 3, 1), (3, .aload_n 0, 1), (4, .getfield 19, 3), (7, .getfield 139, 3), (10, .if_icmp .ge 45, 3), (13, .aload_n 0, 1), (14, .iload_n 3, 1), (15, .iload_n 1, 1), (16, .iconst 0, 1), (17, .iload_n 2, 1), (18, .invokevirtual 331, 3), (21, .ifCond .ne 28, 3), (24, .aload_n 0, 1), (25, .getfield 79, 3)]
theorem kdX11_planNeeded_0 : dkO cX11_planNeeded 0 ldX11_planNeeded_0 = true := by decide +kernel
theorem dX11_planNeeded_0 : decode cX11_planNeeded 0 = .ok (.iconst 0, 1) := dk_i kdX11_planNeeded_0 0 rfl
theorem dX11_planNeeded_1 : decode cX11_planNeeded 1 = .ok (.istore_n 3, 1) := dk_i kdX11_planNeeded_0 1 rfl
theorem dX11_planNeeded_2 : decode cX11_planNeeded 2 = .ok (.iload_n 3, 1) := dk_i kdX11_planNeeded_0 2 rfl
theorem dX11_planNeeded_3 : decode cX11_planNeeded 3 = .ok (.aload_n 0, 1) := dk_i kdX11_planNeeded_0 3 rfl
theorem dX11_planNeeded_4 : decode cX11_planNeeded 4 = .ok (.getfield 19, 3) := dk_i kdX11_planNeeded_0 4 rfl
theorem dX11_planNeeded_7 : decode cX11_planNeeded 7 = .ok (.getfield 139, 3) := dk_i kdX11_planNeeded_0 5 rfl
theorem dX11_planNeeded_10 : decode cX11_planNeeded 10 = .ok (.if_icmp .ge 45, 3) := dk_i kdX11_planNeeded_0 6 rfl
theorem dX11_planNeeded_13 : decode cX11_planNeeded 13 = .ok (.aload_n 0, 1) := dk_i kdX11_planNeeded_0 7 rfl
theorem dX11_planNeeded_14 : decode cX11_planNeeded 14 = .ok (.iload_n 3, 1) := dk_i kdX11_planNeeded_0 8 rfl
theorem dX11_planNeeded_15 : decode cX11_planNeeded 15 = .ok (.iload_n 1, 1) := dk_i kdX11_planNeeded_0 9 rfl
theorem dX11_planNeeded_16 : decode cX11_planNeeded 16 = .ok (.iconst 0, 1) := dk_i kdX11_planNeeded_0 10 rfl
theorem dX11_planNeeded_17 : decode cX11_planNeeded 17 = .ok (.iload_n 2, 1) := dk_i kdX11_planNeeded_0 11 rfl
theorem dX11_planNeeded_18 : decode cX11_planNeeded 18 = .ok (.invokevirtual 331, 3) := dk_i kdX11_planNeeded_0 12 rfl
theorem dX11_planNeeded_21 : decode cX11_planNeeded 21 = .ok (.ifCond .ne 28, 3) := dk_i kdX11_planNeeded_0 13 rfl
theorem dX11_planNeeded_24 : decode cX11_planNeeded 24 = .ok (.aload_n 0, 1) := dk_i kdX11_planNeeded_0 14 rfl
theorem dX11_planNeeded_25 : decode cX11_planNeeded 25 = .ok (.getfield 79, 3) := dk_i kdX11_planNeeded_0 15 rfl
def ldX11_planNeeded_28 : List (Nat × ClassFile.Instr × Nat) := [(28, .iload_n 3, 1), (29, .aload_n 0, 1), (30, .iload_n 3, 1), (31, .iload_n 1, 1), (32, .iload_n 2, 1), (33, .invokevirtual 335, 3), (36, .iastore, 1), (37, .aload_n 0, 1), (38, .getfield 79, 3), (41, .iload_n 3, 1), (42, .iaload, 1), (43, .iconst (-1), 1), (44, .if_icmp .ne 5, 3), (47, .iconst 0, 1), (48, .ireturn, 1), (49, .iinc 3 1, 3)]
theorem kdX11_planNeeded_28 : dkO cX11_planNeeded 28 ldX11_planNeeded_28 = true := by decide +kernel
theorem dX11_planNeeded_28 : decode cX11_planNeeded 28 = .ok (.iload_n 3, 1) := dk_i kdX11_planNeeded_28 0 rfl
theorem dX11_planNeeded_29 : decode cX11_planNeeded 29 = .ok (.aload_n 0, 1) := dk_i kdX11_planNeeded_28 1 rfl
theorem dX11_planNeeded_30 : decode cX11_planNeeded 30 = .ok (.iload_n 3, 1) := dk_i kdX11_planNeeded_28 2 rfl
theorem dX11_planNeeded_31 : decode cX11_planNeeded 31 = .ok (.iload_n 1, 1) := dk_i kdX11_planNeeded_28 3 rfl
theorem dX11_planNeeded_32 : decode cX11_planNeeded 32 = .ok (.iload_n 2, 1) := dk_i kdX11_planNeeded_28 4 rfl
theorem dX11_planNeeded_33 : decode cX11_planNeeded 33 = .ok (.invokevirtual 335, 3) := dk_i kdX11_planNeeded_28 5 rfl
theorem dX11_planNeeded_36 : decode cX11_planNeeded 36 = .ok (.iastore, 1) := dk_i kdX11_planNeeded_28 6 rfl
theorem dX11_planNeeded_37 : decode cX11_planNeeded 37 = .ok (.aload_n 0, 1) := dk_i kdX11_planNeeded_28 7 rfl
theorem dX11_planNeeded_38 : decode cX11_planNeeded 38 = .ok (.getfield 79, 3) := dk_i kdX11_planNeeded_28 8 rfl
theorem dX11_planNeeded_41 : decode cX11_planNeeded 41 = .ok (.iload_n 3, 1) := dk_i kdX11_planNeeded_28 9 rfl
theorem dX11_planNeeded_42 : decode cX11_planNeeded 42 = .ok (.iaload, 1) := dk_i kdX11_planNeeded_28 10 rfl
theorem dX11_planNeeded_43 : decode cX11_planNeeded 43 = .ok (.iconst (-1), 1) := dk_i kdX11_planNeeded_28 11 rfl
theorem dX11_planNeeded_44 : decode cX11_planNeeded 44 = .ok (.if_icmp .ne 5, 3) := dk_i kdX11_planNeeded_28 12 rfl
theorem dX11_planNeeded_47 : decode cX11_planNeeded 47 = .ok (.iconst 0, 1) := dk_i kdX11_planNeeded_28 13 rfl
theorem dX11_planNeeded_48 : decode cX11_planNeeded 48 = .ok (.ireturn, 1) := dk_i kdX11_planNeeded_28 14 rfl
theorem dX11_planNeeded_49 : decode cX11_planNeeded 49 = .ok (.iinc 3 1, 3) := dk_i kdX11_planNeeded_28 15 rfl
def ldX11_planNeeded_52 : List (Nat × ClassFile.Instr × Nat) := [(52, .goto (-50), 3), (55, .iconst 1, 1), (56, .ireturn, 1)]
theorem kdX11_planNeeded_52 : dkO cX11_planNeeded 52 ldX11_planNeeded_52 = true := by decide +kernel
theorem dX11_planNeeded_52 : decode cX11_planNeeded 52 = .ok (.goto (-50), 3) := dk_i kdX11_planNeeded_52 0 rfl
theorem dX11_planNeeded_55 : decode cX11_planNeeded 55 = .ok (.iconst 1, 1) := dk_i kdX11_planNeeded_52 1 rfl
theorem dX11_planNeeded_56 : decode cX11_planNeeded 56 = .ok (.ireturn, 1) := dk_i kdX11_planNeeded_52 2 rfl
def ldX11_planAnywhere_0 : List (Nat × ClassFile.Instr × Nat) := [(0, .aload_n 0, 1), (1, .getfield 19, 3), (4, .getfield 139, 3), (7, .iconst 1, 1), (8, .isub, 1), (9, .istore_n 3, 1), (10, .iload_n 3, 1), (11, .ifCond .lt 34, 3), (14, .aload_n 0, 1), (15, .getfield 79, 3), (18, .iload_n 3, 1), (19, .aload_n 0, 1), (20, .iload_n 3, 1), (21, .iload_n 1, 1), (22, .iload_n 2, 1), (23, .invokevirtual 335, 3)]
theorem kdX11_planAnywhere_0 : dkO cX11_planAnywhere 0 ldX11_planAnywhere_0 = true := by decide +kernel
theorem dX11_planAnywhere_0 : decode cX11_planAnywhere 0 = .ok (.aload_n 0, 1) := dk_i kdX11_planAnywhere_0 0 rfl
theorem dX11_planAnywhere_1 : decode cX11_planAnywhere 1 = .ok (.getfield 19, 3) := dk_i kdX11_planAnywhere_0 1 rfl
theorem dX11_planAnywhere_4 : decode cX11_planAnywhere 4 = .ok (.getfield 139, 3) := dk_i kdX11_planAnywhere_0 2 rfl
theorem dX11_planAnywhere_7 : decode cX11_planAnywhere 7 = .ok (.iconst 1, 1) := dk_i kdX11_planAnywhere_0 3 rfl
theorem dX11_planAnywhere_8 : decode cX11_planAnywhere 8 = .ok (.isub, 1) := dk_i kdX11_planAnywhere_0 4 rfl
theorem dX11_planAnywhere_9 : decode cX11_planAnywhere 9 = .ok (.istore_n 3, 1) := dk_i kdX11_planAnywhere_0 5 rfl
theorem dX11_planAnywhere_10 : decode cX11_planAnywhere 10 = .ok (.iload_n 3, 1) := dk_i kdX11_planAnywhere_0 6 rfl
theorem dX11_planAnywhere_11 : decode cX11_planAnywhere 11 = .ok (.ifCond .lt 34, 3) := dk_i kdX11_planAnywhere_0 7 rfl
theorem dX11_planAnywhere_14 : decode cX11_planAnywhere 14 = .ok (.aload_n 0, 1) := dk_i kdX11_planAnywhere_0 8 rfl
theorem dX11_planAnywhere_15 : decode cX11_planAnywhere 15 = .ok (.getfield 79, 3) := dk_i kdX11_planAnywhere_0 9 rfl
theorem dX11_planAnywhere_18 : decode cX11_planAnywhere 18 = .ok (.iload_n 3, 1) := dk_i kdX11_planAnywhere_0 10 rfl
theorem dX11_planAnywhere_19 : decode cX11_planAnywhere 19 = .ok (.aload_n 0, 1) := dk_i kdX11_planAnywhere_0 11 rfl
theorem dX11_planAnywhere_20 : decode cX11_planAnywhere 20 = .ok (.iload_n 3, 1) := dk_i kdX11_planAnywhere_0 12 rfl
theorem dX11_planAnywhere_21 : decode cX11_planAnywhere 21 = .ok (.iload_n 1, 1) := dk_i kdX11_planAnywhere_0 13 rfl
theorem dX11_planAnywhere_22 : decode cX11_planAnywhere 22 = .ok (.iload_n 2, 1) := dk_i kdX11_planAnywhere_0 14 rfl
theorem dX11_planAnywhere_23 : decode cX11_planAnywhere 23 = .ok (.invokevirtual 335, 3) := dk_i kdX11_planAnywhere_0 15 rfl
def ldX11_planAnywhere_26 : List (Nat × ClassFile.Instr × Nat) := [(26, .iastore, 1), (27, .aload_n 0, 1), (28, .getfield 79, 3), (31, .iload_n 3, 1), (32, .iaload, 1), (33, .iconst (-1), 1), (34, .if_icmp .eq 5, 3), (37, .iconst 1, 1), (38, .ireturn, 1), (39, .iinc 3 (-1), 3), (42, .goto (-32), 3), (45, .iconst 0, 1), (46, .ireturn, 1)]
theorem kdX11_planAnywhere_26 : dkO cX11_planAnywhere 26 ldX11_planAnywhere_26 = true := by decide +kernel
theorem dX11_planAnywhere_26 : decode cX11_planAnywhere 26 = .ok (.iastore, 1) := dk_i kdX11_planAnywhere_26 0 rfl
theorem dX11_planAnywhere_27 : decode cX11_planAnywhere 27 = .ok (.aload_n 0, 1) := dk_i kdX11_planAnywhere_26 1 rfl
theorem dX11_planAnywhere_28 : decode cX11_planAnywhere 28 = .ok (.getfield 79, 3) := dk_i kdX11_planAnywhere_26 2 rfl
theorem dX11_planAnywhere_31 : decode cX11_planAnywhere 31 = .ok (.iload_n 3, 1) := dk_i kdX11_planAnywhere_26 3 rfl
theorem dX11_planAnywhere_32 : decode cX11_planAnywhere 32 = .ok (.iaload, 1) := dk_i kdX11_planAnywhere_26 4 rfl
theorem dX11_planAnywhere_33 : decode cX11_planAnywhere 33 = .ok (.iconst (-1), 1) := dk_i kdX11_planAnywhere_26 5 rfl
theorem dX11_planAnywhere_34 : decode cX11_planAnywhere 34 = .ok (.if_icmp .eq 5, 3) := dk_i kdX11_planAnywhere_26 6 rfl
theorem dX11_planAnywhere_37 : decode cX11_planAnywhere 37 = .ok (.iconst 1, 1) := dk_i kdX11_planAnywhere_26 7 rfl
theorem dX11_planAnywhere_38 : decode cX11_planAnywhere 38 = .ok (.ireturn, 1) := dk_i kdX11_planAnywhere_26 8 rfl
theorem dX11_planAnywhere_39 : decode cX11_planAnywhere 39 = .ok (.iinc 3 (-1), 3) := dk_i kdX11_planAnywhere_26 9 rfl
theorem dX11_planAnywhere_42 : decode cX11_planAnywhere 42 = .ok (.goto (-32), 3) := dk_i kdX11_planAnywhere_26 10 rfl
theorem dX11_planAnywhere_45 : decode cX11_planAnywhere 45 = .ok (.iconst 0, 1) := dk_i kdX11_planAnywhere_26 11 rfl
theorem dX11_planAnywhere_46 : decode cX11_planAnywhere 46 = .ok (.ireturn, 1) := dk_i kdX11_planAnywhere_26 12 rfl
def ldX11_findGiving_0 : List (Nat × ClassFile.Instr × Nat) := [(0, .iconst 0, 1), (1, .istore 4, 2), (3, .iload 4, 2), (5, .aload_n 0, 1), (6, .getfield 19, 3), (9, .getfield 136, 3), (12, .if_icmp .ge 52, 3), (15, .aload_n 0, 1), (16, .getfield 40, 3), (19, .iload_n 1, 1), (20, .iload 4, 2), (22, .iconst 0, 1), (23, .aload_n 0, 1), (24, .getfield 47, 3), (27, .getfield 148, 3), (30, .invokevirtual 317, 3)]
theorem kdX11_findGiving_0 : dkO cX11_findGiving 0 ldX11_findGiving_0 = true := by decide +kernel
theorem dX11_findGiving_0 : decode cX11_findGiving 0 = .ok (.iconst 0, 1) := dk_i kdX11_findGiving_0 0 rfl
theorem dX11_findGiving_1 : decode cX11_findGiving 1 = .ok (.istore 4, 2) := dk_i kdX11_findGiving_0 1 rfl
theorem dX11_findGiving_3 : decode cX11_findGiving 3 = .ok (.iload 4, 2) := dk_i kdX11_findGiving_0 2 rfl
theorem dX11_findGiving_5 : decode cX11_findGiving 5 = .ok (.aload_n 0, 1) := dk_i kdX11_findGiving_0 3 rfl
theorem dX11_findGiving_6 : decode cX11_findGiving 6 = .ok (.getfield 19, 3) := dk_i kdX11_findGiving_0 4 rfl
theorem dX11_findGiving_9 : decode cX11_findGiving 9 = .ok (.getfield 136, 3) := dk_i kdX11_findGiving_0 5 rfl
theorem dX11_findGiving_12 : decode cX11_findGiving 12 = .ok (.if_icmp .ge 52, 3) := dk_i kdX11_findGiving_0 6 rfl
theorem dX11_findGiving_15 : decode cX11_findGiving 15 = .ok (.aload_n 0, 1) := dk_i kdX11_findGiving_0 7 rfl
theorem dX11_findGiving_16 : decode cX11_findGiving 16 = .ok (.getfield 40, 3) := dk_i kdX11_findGiving_0 8 rfl
theorem dX11_findGiving_19 : decode cX11_findGiving 19 = .ok (.iload_n 1, 1) := dk_i kdX11_findGiving_0 9 rfl
theorem dX11_findGiving_20 : decode cX11_findGiving 20 = .ok (.iload 4, 2) := dk_i kdX11_findGiving_0 10 rfl
theorem dX11_findGiving_22 : decode cX11_findGiving 22 = .ok (.iconst 0, 1) := dk_i kdX11_findGiving_0 11 rfl
theorem dX11_findGiving_23 : decode cX11_findGiving 23 = .ok (.aload_n 0, 1) := dk_i kdX11_findGiving_0 12 rfl
theorem dX11_findGiving_24 : decode cX11_findGiving 24 = .ok (.getfield 47, 3) := dk_i kdX11_findGiving_0 13 rfl
theorem dX11_findGiving_27 : decode cX11_findGiving 27 = .ok (.getfield 148, 3) := dk_i kdX11_findGiving_0 14 rfl
theorem dX11_findGiving_30 : decode cX11_findGiving 30 = .ok (.invokevirtual 317, 3) := dk_i kdX11_findGiving_0 15 rfl
def ldX11_findGiving_33 : List (Nat × ClassFile.Instr × Nat) := [(33, .aload_n 0, 1), (34, .iload_n 1, 1), (35, .iload_n 2, 1), (36, .iconst 0, 1), (37, .aload_n 0, 1), (38, .getfield 40, 3), (41, .aload_n 0, 1), (42, .getfield 72, 3), (45, .iload_n 3, 1), (46, .invokevirtual 324, 3), (49, .invokevirtual 339, 3), (52, .ifCond .eq 6, 3), (55, .iload 4, 2), (57, .ireturn, 1), (58, .iinc 4 1, 3), (61, .goto (-58), 3)]
theorem kdX11_findGiving_33 : dkO cX11_findGiving 33 ldX11_findGiving_33 = true := by decide +kernel
theorem dX11_findGiving_33 : decode cX11_findGiving 33 = .ok (.aload_n 0, 1) := dk_i kdX11_findGiving_33 0 rfl
theorem dX11_findGiving_34 : decode cX11_findGiving 34 = .ok (.iload_n 1, 1) := dk_i kdX11_findGiving_33 1 rfl
theorem dX11_findGiving_35 : decode cX11_findGiving 35 = .ok (.iload_n 2, 1) := dk_i kdX11_findGiving_33 2 rfl
theorem dX11_findGiving_36 : decode cX11_findGiving 36 = .ok (.iconst 0, 1) := dk_i kdX11_findGiving_33 3 rfl
theorem dX11_findGiving_37 : decode cX11_findGiving 37 = .ok (.aload_n 0, 1) := dk_i kdX11_findGiving_33 4 rfl
theorem dX11_findGiving_38 : decode cX11_findGiving 38 = .ok (.getfield 40, 3) := dk_i kdX11_findGiving_33 5 rfl
theorem dX11_findGiving_41 : decode cX11_findGiving 41 = .ok (.aload_n 0, 1) := dk_i kdX11_findGiving_33 6 rfl
theorem dX11_findGiving_42 : decode cX11_findGiving 42 = .ok (.getfield 72, 3) := dk_i kdX11_findGiving_33 7 rfl
theorem dX11_findGiving_45 : decode cX11_findGiving 45 = .ok (.iload_n 3, 1) := dk_i kdX11_findGiving_33 8 rfl
theorem dX11_findGiving_46 : decode cX11_findGiving 46 = .ok (.invokevirtual 324, 3) := dk_i kdX11_findGiving_33 9 rfl
theorem dX11_findGiving_49 : decode cX11_findGiving 49 = .ok (.invokevirtual 339, 3) := dk_i kdX11_findGiving_33 10 rfl
theorem dX11_findGiving_52 : decode cX11_findGiving 52 = .ok (.ifCond .eq 6, 3) := dk_i kdX11_findGiving_33 11 rfl
theorem dX11_findGiving_55 : decode cX11_findGiving 55 = .ok (.iload 4, 2) := dk_i kdX11_findGiving_33 12 rfl
theorem dX11_findGiving_57 : decode cX11_findGiving 57 = .ok (.ireturn, 1) := dk_i kdX11_findGiving_33 13 rfl
theorem dX11_findGiving_58 : decode cX11_findGiving 58 = .ok (.iinc 4 1, 3) := dk_i kdX11_findGiving_33 14 rfl
theorem dX11_findGiving_61 : decode cX11_findGiving 61 = .ok (.goto (-58), 3) := dk_i kdX11_findGiving_33 15 rfl
def ldX11_findGiving_64 : List (Nat × ClassFile.Instr × Nat) := [(64, .iconst (-1), 1), (65, .ireturn, 1)]
theorem kdX11_findGiving_64 : dkO cX11_findGiving 64 ldX11_findGiving_64 = true := by decide +kernel
theorem dX11_findGiving_64 : decode cX11_findGiving 64 = .ok (.iconst (-1), 1) := dk_i kdX11_findGiving_64 0 rfl
theorem dX11_findGiving_65 : decode cX11_findGiving 65 = .ok (.ireturn, 1) := dk_i kdX11_findGiving_64 1 rfl
def ldX11_doesWithout_0 : List (Nat × ClassFile.Instr × Nat) := [(0, .aload_n 0, 1), (1, .iload_n 1, 1), (2, .invokevirtual 237, 3), (5, .aload_n 0, 1), (6, .iload_n 1, 1), (7, .iload_n 2, 1), (8, .iload_n 3, 1), (9, .aload_n 0, 1), (10, .getfield 40, 3), (13, .aload_n 0, 1), (14, .getfield 72, 3), (17, .iload 4, 2), (19, .invokevirtual 324, 3), (22, .invokevirtual 339, 3), (25, .ireturn, 1)]
theorem kdX11_doesWithout_0 : dkO cX11_doesWithout 0 ldX11_doesWithout_0 = true := by decide +kernel
theorem dX11_doesWithout_0 : decode cX11_doesWithout 0 = .ok (.aload_n 0, 1) := dk_i kdX11_doesWithout_0 0 rfl
theorem dX11_doesWithout_1 : decode cX11_doesWithout 1 = .ok (.iload_n 1, 1) := dk_i kdX11_doesWithout_0 1 rfl
theorem dX11_doesWithout_2 : decode cX11_doesWithout 2 = .ok (.invokevirtual 237, 3) := dk_i kdX11_doesWithout_0 2 rfl
theorem dX11_doesWithout_5 : decode cX11_doesWithout 5 = .ok (.aload_n 0, 1) := dk_i kdX11_doesWithout_0 3 rfl
theorem dX11_doesWithout_6 : decode cX11_doesWithout 6 = .ok (.iload_n 1, 1) := dk_i kdX11_doesWithout_0 4 rfl
theorem dX11_doesWithout_7 : decode cX11_doesWithout 7 = .ok (.iload_n 2, 1) := dk_i kdX11_doesWithout_0 5 rfl
theorem dX11_doesWithout_8 : decode cX11_doesWithout 8 = .ok (.iload_n 3, 1) := dk_i kdX11_doesWithout_0 6 rfl
theorem dX11_doesWithout_9 : decode cX11_doesWithout 9 = .ok (.aload_n 0, 1) := dk_i kdX11_doesWithout_0 7 rfl
theorem dX11_doesWithout_10 : decode cX11_doesWithout 10 = .ok (.getfield 40, 3) := dk_i kdX11_doesWithout_0 8 rfl
theorem dX11_doesWithout_13 : decode cX11_doesWithout 13 = .ok (.aload_n 0, 1) := dk_i kdX11_doesWithout_0 9 rfl
theorem dX11_doesWithout_14 : decode cX11_doesWithout 14 = .ok (.getfield 72, 3) := dk_i kdX11_doesWithout_0 10 rfl
theorem dX11_doesWithout_17 : decode cX11_doesWithout 17 = .ok (.iload 4, 2) := dk_i kdX11_doesWithout_0 11 rfl
theorem dX11_doesWithout_19 : decode cX11_doesWithout 19 = .ok (.invokevirtual 324, 3) := dk_i kdX11_doesWithout_0 12 rfl
theorem dX11_doesWithout_22 : decode cX11_doesWithout 22 = .ok (.invokevirtual 339, 3) := dk_i kdX11_doesWithout_0 13 rfl
theorem dX11_doesWithout_25 : decode cX11_doesWithout 25 = .ok (.ireturn, 1) := dk_i kdX11_doesWithout_0 14 rfl
def ldX11_doesAll_0 : List (Nat × ClassFile.Instr × Nat) := [(0, .iconst 0, 1), (1, .istore 5, 2), (3, .iload 5, 2), (5, .aload_n 0, 1), (6, .getfield 19, 3), (9, .getfield 145, 3), (12, .if_icmp .ge 80, 3), (15, .iload_n 2, 1), (16, .iload 5, 2), (18, .ishr, 1), (19, .iconst 1, 1), (20, .iand, 1), (21, .iconst 1, 1), (22, .if_icmp .ne 21, 3), (25, .aload_n 0, 1), (26, .getfield 19, 3)]
theorem kdX11_doesAll_0 : dkO cX11_doesAll 0 ldX11_doesAll_0 = true := by decide +kernel
theorem dX11_doesAll_0 : decode cX11_doesAll 0 = .ok (.iconst 0, 1) := dk_i kdX11_doesAll_0 0 rfl
theorem dX11_doesAll_1 : decode cX11_doesAll 1 = .ok (.istore 5, 2) := dk_i kdX11_doesAll_0 1 rfl
theorem dX11_doesAll_3 : decode cX11_doesAll 3 = .ok (.iload 5, 2) := dk_i kdX11_doesAll_0 2 rfl
theorem dX11_doesAll_5 : decode cX11_doesAll 5 = .ok (.aload_n 0, 1) := dk_i kdX11_doesAll_0 3 rfl
theorem dX11_doesAll_6 : decode cX11_doesAll 6 = .ok (.getfield 19, 3) := dk_i kdX11_doesAll_0 4 rfl
theorem dX11_doesAll_9 : decode cX11_doesAll 9 = .ok (.getfield 145, 3) := dk_i kdX11_doesAll_0 5 rfl
theorem dX11_doesAll_12 : decode cX11_doesAll 12 = .ok (.if_icmp .ge 80, 3) := dk_i kdX11_doesAll_0 6 rfl
theorem dX11_doesAll_15 : decode cX11_doesAll 15 = .ok (.iload_n 2, 1) := dk_i kdX11_doesAll_0 7 rfl
theorem dX11_doesAll_16 : decode cX11_doesAll 16 = .ok (.iload 5, 2) := dk_i kdX11_doesAll_0 8 rfl
theorem dX11_doesAll_18 : decode cX11_doesAll 18 = .ok (.ishr, 1) := dk_i kdX11_doesAll_0 9 rfl
theorem dX11_doesAll_19 : decode cX11_doesAll 19 = .ok (.iconst 1, 1) := dk_i kdX11_doesAll_0 10 rfl
theorem dX11_doesAll_20 : decode cX11_doesAll 20 = .ok (.iand, 1) := dk_i kdX11_doesAll_0 11 rfl
theorem dX11_doesAll_21 : decode cX11_doesAll 21 = .ok (.iconst 1, 1) := dk_i kdX11_doesAll_0 12 rfl
theorem dX11_doesAll_22 : decode cX11_doesAll 22 = .ok (.if_icmp .ne 21, 3) := dk_i kdX11_doesAll_0 13 rfl
theorem dX11_doesAll_25 : decode cX11_doesAll 25 = .ok (.aload_n 0, 1) := dk_i kdX11_doesAll_0 14 rfl
theorem dX11_doesAll_26 : decode cX11_doesAll 26 = .ok (.getfield 19, 3) := dk_i kdX11_doesAll_0 15 rfl
def ldX11_doesAll_29 : List (Nat × ClassFile.Instr × Nat) := [(29, .getfield 201, 3), (32, .iload 5, 2), (34, .iaload, 1), (35, .iload_n 1, 1), (36, .if_icmp .ne 7, 3), (39, .iconst 1, 1), (40, .goto 4, 3), (43, .iconst 0, 1), (44, .istore 6, 2), (46, .iload 6, 2), (48, .ifCond .eq 38, 3), (51, .aload_n 0, 1), (52, .getfield 47, 3), (55, .getfield 207, 3), (58, .iload 5, 2), (60, .iaload, 1)]
theorem kdX11_doesAll_29 : dkO cX11_doesAll 29 ldX11_doesAll_29 = true := by decide +kernel
theorem dX11_doesAll_29 : decode cX11_doesAll 29 = .ok (.getfield 201, 3) := dk_i kdX11_doesAll_29 0 rfl
theorem dX11_doesAll_32 : decode cX11_doesAll 32 = .ok (.iload 5, 2) := dk_i kdX11_doesAll_29 1 rfl
theorem dX11_doesAll_34 : decode cX11_doesAll 34 = .ok (.iaload, 1) := dk_i kdX11_doesAll_29 2 rfl
theorem dX11_doesAll_35 : decode cX11_doesAll 35 = .ok (.iload_n 1, 1) := dk_i kdX11_doesAll_29 3 rfl
theorem dX11_doesAll_36 : decode cX11_doesAll 36 = .ok (.if_icmp .ne 7, 3) := dk_i kdX11_doesAll_29 4 rfl
theorem dX11_doesAll_39 : decode cX11_doesAll 39 = .ok (.iconst 1, 1) := dk_i kdX11_doesAll_29 5 rfl
theorem dX11_doesAll_40 : decode cX11_doesAll 40 = .ok (.goto 4, 3) := dk_i kdX11_doesAll_29 6 rfl
theorem dX11_doesAll_43 : decode cX11_doesAll 43 = .ok (.iconst 0, 1) := dk_i kdX11_doesAll_29 7 rfl
theorem dX11_doesAll_44 : decode cX11_doesAll 44 = .ok (.istore 6, 2) := dk_i kdX11_doesAll_29 8 rfl
theorem dX11_doesAll_46 : decode cX11_doesAll 46 = .ok (.iload 6, 2) := dk_i kdX11_doesAll_29 9 rfl
theorem dX11_doesAll_48 : decode cX11_doesAll 48 = .ok (.ifCond .eq 38, 3) := dk_i kdX11_doesAll_29 10 rfl
theorem dX11_doesAll_51 : decode cX11_doesAll 51 = .ok (.aload_n 0, 1) := dk_i kdX11_doesAll_29 11 rfl
theorem dX11_doesAll_52 : decode cX11_doesAll 52 = .ok (.getfield 47, 3) := dk_i kdX11_doesAll_29 12 rfl
theorem dX11_doesAll_55 : decode cX11_doesAll 55 = .ok (.getfield 207, 3) := dk_i kdX11_doesAll_29 13 rfl
theorem dX11_doesAll_58 : decode cX11_doesAll 58 = .ok (.iload 5, 2) := dk_i kdX11_doesAll_29 14 rfl
theorem dX11_doesAll_60 : decode cX11_doesAll 60 = .ok (.iaload, 1) := dk_i kdX11_doesAll_29 15 rfl
def ldX11_doesAll_61 : List (Nat × ClassFile.Instr × Nat) := [(61, .ifCond .ne 25, 3), (64, .aload_n 0, 1), (65, .aload_n 0, 1), (66, .getfield 19, 3), (69, .getfield 204, 3), (72, .iload 5, 2), (74, .iaload, 1), (75, .iload_n 3, 1), (76, .iload 4, 2), (78, .invokevirtual 342, 3), (81, .ifCond .ne 5, 3), (84, .iconst 0, 1), (85, .ireturn, 1), (86, .iinc 5 1, 3), (89, .goto (-86), 3), (92, .iconst 1, 1)]
theorem kdX11_doesAll_61 : dkO cX11_doesAll 61 ldX11_doesAll_61 = true := by decide +kernel
theorem dX11_doesAll_61 : decode cX11_doesAll 61 = .ok (.ifCond .ne 25, 3) := dk_i kdX11_doesAll_61 0 rfl
theorem dX11_doesAll_64 : decode cX11_doesAll 64 = .ok (.aload_n 0, 1) := dk_i kdX11_doesAll_61 1 rfl
theorem dX11_doesAll_65 : decode cX11_doesAll 65 = .ok (.aload_n 0, 1) := dk_i kdX11_doesAll_61 2 rfl
theorem dX11_doesAll_66 : decode cX11_doesAll 66 = .ok (.getfield 19, 3) := dk_i kdX11_doesAll_61 3 rfl
theorem dX11_doesAll_69 : decode cX11_doesAll 69 = .ok (.getfield 204, 3) := dk_i kdX11_doesAll_61 4 rfl
theorem dX11_doesAll_72 : decode cX11_doesAll 72 = .ok (.iload 5, 2) := dk_i kdX11_doesAll_61 5 rfl
theorem dX11_doesAll_74 : decode cX11_doesAll 74 = .ok (.iaload, 1) := dk_i kdX11_doesAll_61 6 rfl
theorem dX11_doesAll_75 : decode cX11_doesAll 75 = .ok (.iload_n 3, 1) := dk_i kdX11_doesAll_61 7 rfl
theorem dX11_doesAll_76 : decode cX11_doesAll 76 = .ok (.iload 4, 2) := dk_i kdX11_doesAll_61 8 rfl
theorem dX11_doesAll_78 : decode cX11_doesAll 78 = .ok (.invokevirtual 342, 3) := dk_i kdX11_doesAll_61 9 rfl
theorem dX11_doesAll_81 : decode cX11_doesAll 81 = .ok (.ifCond .ne 5, 3) := dk_i kdX11_doesAll_61 10 rfl
theorem dX11_doesAll_84 : decode cX11_doesAll 84 = .ok (.iconst 0, 1) := dk_i kdX11_doesAll_61 11 rfl
theorem dX11_doesAll_85 : decode cX11_doesAll 85 = .ok (.ireturn, 1) := dk_i kdX11_doesAll_61 12 rfl
theorem dX11_doesAll_86 : decode cX11_doesAll 86 = .ok (.iinc 5 1, 3) := dk_i kdX11_doesAll_61 13 rfl
theorem dX11_doesAll_89 : decode cX11_doesAll 89 = .ok (.goto (-86), 3) := dk_i kdX11_doesAll_61 14 rfl
theorem dX11_doesAll_92 : decode cX11_doesAll 92 = .ok (.iconst 1, 1) := dk_i kdX11_doesAll_61 15 rfl
def ldX11_doesAll_93 : List (Nat × ClassFile.Instr × Nat) := [(93, .ireturn, 1)]
theorem kdX11_doesAll_93 : dkO cX11_doesAll 93 ldX11_doesAll_93 = true := by decide +kernel
theorem dX11_doesAll_93 : decode cX11_doesAll 93 = .ok (.ireturn, 1) := dk_i kdX11_doesAll_93 0 rfl
def ldX11_tellsWithin_0 : List (Nat × ClassFile.Instr × Nat) := [(0, .iload_n 2, 1), (1, .istore 4, 2), (3, .iload 4, 2), (5, .iload_n 3, 1), (6, .if_icmp .gt 22, 3), (9, .aload_n 0, 1), (10, .getfield 72, 3), (13, .iload 4, 2), (15, .iaload, 1), (16, .iload_n 1, 1), (17, .if_icmp .ne 5, 3), (20, .iconst 1, 1), (21, .ireturn, 1), (22, .iinc 4 1, 3), (25, .goto (-22), 3), (28, .iconst 0, 1)]
theorem kdX11_tellsWithin_0 : dkO cX11_tellsWithin 0 ldX11_tellsWithin_0 = true := by decide +kernel
theorem dX11_tellsWithin_0 : decode cX11_tellsWithin 0 = .ok (.iload_n 2, 1) := dk_i kdX11_tellsWithin_0 0 rfl
theorem dX11_tellsWithin_1 : decode cX11_tellsWithin 1 = .ok (.istore 4, 2) := dk_i kdX11_tellsWithin_0 1 rfl
theorem dX11_tellsWithin_3 : decode cX11_tellsWithin 3 = .ok (.iload 4, 2) := dk_i kdX11_tellsWithin_0 2 rfl
theorem dX11_tellsWithin_5 : decode cX11_tellsWithin 5 = .ok (.iload_n 3, 1) := dk_i kdX11_tellsWithin_0 3 rfl
theorem dX11_tellsWithin_6 : decode cX11_tellsWithin 6 = .ok (.if_icmp .gt 22, 3) := dk_i kdX11_tellsWithin_0 4 rfl
theorem dX11_tellsWithin_9 : decode cX11_tellsWithin 9 = .ok (.aload_n 0, 1) := dk_i kdX11_tellsWithin_0 5 rfl
theorem dX11_tellsWithin_10 : decode cX11_tellsWithin 10 = .ok (.getfield 72, 3) := dk_i kdX11_tellsWithin_0 6 rfl
theorem dX11_tellsWithin_13 : decode cX11_tellsWithin 13 = .ok (.iload 4, 2) := dk_i kdX11_tellsWithin_0 7 rfl
theorem dX11_tellsWithin_15 : decode cX11_tellsWithin 15 = .ok (.iaload, 1) := dk_i kdX11_tellsWithin_0 8 rfl
theorem dX11_tellsWithin_16 : decode cX11_tellsWithin 16 = .ok (.iload_n 1, 1) := dk_i kdX11_tellsWithin_0 9 rfl
theorem dX11_tellsWithin_17 : decode cX11_tellsWithin 17 = .ok (.if_icmp .ne 5, 3) := dk_i kdX11_tellsWithin_0 10 rfl
theorem dX11_tellsWithin_20 : decode cX11_tellsWithin 20 = .ok (.iconst 1, 1) := dk_i kdX11_tellsWithin_0 11 rfl
theorem dX11_tellsWithin_21 : decode cX11_tellsWithin 21 = .ok (.ireturn, 1) := dk_i kdX11_tellsWithin_0 12 rfl
theorem dX11_tellsWithin_22 : decode cX11_tellsWithin 22 = .ok (.iinc 4 1, 3) := dk_i kdX11_tellsWithin_0 13 rfl
theorem dX11_tellsWithin_25 : decode cX11_tellsWithin 25 = .ok (.goto (-22), 3) := dk_i kdX11_tellsWithin_0 14 rfl
theorem dX11_tellsWithin_28 : decode cX11_tellsWithin 28 = .ok (.iconst 0, 1) := dk_i kdX11_tellsWithin_0 15 rfl
def ldX11_tellsWithin_29 : List (Nat × ClassFile.Instr × Nat) := [(29, .ireturn, 1)]
theorem kdX11_tellsWithin_29 : dkO cX11_tellsWithin 29 ldX11_tellsWithin_29 = true := by decide +kernel
theorem dX11_tellsWithin_29 : decode cX11_tellsWithin 29 = .ok (.ireturn, 1) := dk_i kdX11_tellsWithin_29 0 rfl
def ldX11_countPlanned_0 : List (Nat × ClassFile.Instr × Nat) := [(0, .iconst 0, 1), (1, .istore_n 1, 1), (2, .iconst 0, 1), (3, .istore_n 2, 1), (4, .iload_n 2, 1), (5, .aload_n 0, 1), (6, .getfield 19, 3), (9, .getfield 139, 3), (12, .if_icmp .ge 22, 3), (15, .aload_n 0, 1), (16, .getfield 79, 3), (19, .iload_n 2, 1), (20, .iaload, 1), (21, .iconst (-1), 1), (22, .if_icmp .eq 6, 3), (25, .iinc 1 1, 3)]
theorem kdX11_countPlanned_0 : dkO cX11_countPlanned 0 ldX11_countPlanned_0 = true := by decide +kernel
theorem dX11_countPlanned_0 : decode cX11_countPlanned 0 = .ok (.iconst 0, 1) := dk_i kdX11_countPlanned_0 0 rfl
theorem dX11_countPlanned_1 : decode cX11_countPlanned 1 = .ok (.istore_n 1, 1) := dk_i kdX11_countPlanned_0 1 rfl
theorem dX11_countPlanned_2 : decode cX11_countPlanned 2 = .ok (.iconst 0, 1) := dk_i kdX11_countPlanned_0 2 rfl
theorem dX11_countPlanned_3 : decode cX11_countPlanned 3 = .ok (.istore_n 2, 1) := dk_i kdX11_countPlanned_0 3 rfl
theorem dX11_countPlanned_4 : decode cX11_countPlanned 4 = .ok (.iload_n 2, 1) := dk_i kdX11_countPlanned_0 4 rfl
theorem dX11_countPlanned_5 : decode cX11_countPlanned 5 = .ok (.aload_n 0, 1) := dk_i kdX11_countPlanned_0 5 rfl
theorem dX11_countPlanned_6 : decode cX11_countPlanned 6 = .ok (.getfield 19, 3) := dk_i kdX11_countPlanned_0 6 rfl
theorem dX11_countPlanned_9 : decode cX11_countPlanned 9 = .ok (.getfield 139, 3) := dk_i kdX11_countPlanned_0 7 rfl
theorem dX11_countPlanned_12 : decode cX11_countPlanned 12 = .ok (.if_icmp .ge 22, 3) := dk_i kdX11_countPlanned_0 8 rfl
theorem dX11_countPlanned_15 : decode cX11_countPlanned 15 = .ok (.aload_n 0, 1) := dk_i kdX11_countPlanned_0 9 rfl
theorem dX11_countPlanned_16 : decode cX11_countPlanned 16 = .ok (.getfield 79, 3) := dk_i kdX11_countPlanned_0 10 rfl
theorem dX11_countPlanned_19 : decode cX11_countPlanned 19 = .ok (.iload_n 2, 1) := dk_i kdX11_countPlanned_0 11 rfl
theorem dX11_countPlanned_20 : decode cX11_countPlanned 20 = .ok (.iaload, 1) := dk_i kdX11_countPlanned_0 12 rfl
theorem dX11_countPlanned_21 : decode cX11_countPlanned 21 = .ok (.iconst (-1), 1) := dk_i kdX11_countPlanned_0 13 rfl
theorem dX11_countPlanned_22 : decode cX11_countPlanned 22 = .ok (.if_icmp .eq 6, 3) := dk_i kdX11_countPlanned_0 14 rfl
theorem dX11_countPlanned_25 : decode cX11_countPlanned 25 = .ok (.iinc 1 1, 3) := dk_i kdX11_countPlanned_0 15 rfl
def ldX11_countPlanned_28 : List (Nat × ClassFile.Instr × Nat) := [(28, .iinc 2 1, 3), (31, .goto (-27), 3), (34, .iload_n 1, 1), (35, .ireturn, 1)]
theorem kdX11_countPlanned_28 : dkO cX11_countPlanned 28 ldX11_countPlanned_28 = true := by decide +kernel
theorem dX11_countPlanned_28 : decode cX11_countPlanned 28 = .ok (.iinc 2 1, 3) := dk_i kdX11_countPlanned_28 0 rfl
theorem dX11_countPlanned_31 : decode cX11_countPlanned 31 = .ok (.goto (-27), 3) := dk_i kdX11_countPlanned_28 1 rfl
theorem dX11_countPlanned_34 : decode cX11_countPlanned 34 = .ok (.iload_n 1, 1) := dk_i kdX11_countPlanned_28 2 rfl
theorem dX11_countPlanned_35 : decode cX11_countPlanned 35 = .ok (.ireturn, 1) := dk_i kdX11_countPlanned_28 3 rfl
def ldX11_countRowsWithout_0 : List (Nat × ClassFile.Instr × Nat) := [(0, .bipush 100, 2), (2, .aload_n 0, 1), (3, .getfield 19, 3), (6, .getfield 346, 3), (9, .isub, 1), (10, .i2l, 1), (11, .aload_n 0, 1), (12, .getfield 19, 3), (15, .getfield 139, 3), (18, .i2l, 1), (19, .lmul, 1), (20, .aload_n 0, 1), (21, .getfield 19, 3), (24, .getfield 136, 3), (27, .i2l, 1), (28, .lmul, 1)]
theorem kdX11_countRowsWithout_0 : dkO cX11_countRowsWithout 0 ldX11_countRowsWithout_0 = true := by decide +kernel
theorem dX11_countRowsWithout_0 : decode cX11_countRowsWithout 0 = .ok (.bipush 100, 2) := dk_i kdX11_countRowsWithout_0 0 rfl
theorem dX11_countRowsWithout_2 : decode cX11_countRowsWithout 2 = .ok (.aload_n 0, 1) := dk_i kdX11_countRowsWithout_0 1 rfl
theorem dX11_countRowsWithout_3 : decode cX11_countRowsWithout 3 = .ok (.getfield 19, 3) := dk_i kdX11_countRowsWithout_0 2 rfl
theorem dX11_countRowsWithout_6 : decode cX11_countRowsWithout 6 = .ok (.getfield 346, 3) := dk_i kdX11_countRowsWithout_0 3 rfl
theorem dX11_countRowsWithout_9 : decode cX11_countRowsWithout 9 = .ok (.isub, 1) := dk_i kdX11_countRowsWithout_0 4 rfl
theorem dX11_countRowsWithout_10 : decode cX11_countRowsWithout 10 = .ok (.i2l, 1) := dk_i kdX11_countRowsWithout_0 5 rfl
theorem dX11_countRowsWithout_11 : decode cX11_countRowsWithout 11 = .ok (.aload_n 0, 1) := dk_i kdX11_countRowsWithout_0 6 rfl
theorem dX11_countRowsWithout_12 : decode cX11_countRowsWithout 12 = .ok (.getfield 19, 3) := dk_i kdX11_countRowsWithout_0 7 rfl
theorem dX11_countRowsWithout_15 : decode cX11_countRowsWithout 15 = .ok (.getfield 139, 3) := dk_i kdX11_countRowsWithout_0 8 rfl
theorem dX11_countRowsWithout_18 : decode cX11_countRowsWithout 18 = .ok (.i2l, 1) := dk_i kdX11_countRowsWithout_0 9 rfl
theorem dX11_countRowsWithout_19 : decode cX11_countRowsWithout 19 = .ok (.lmul, 1) := dk_i kdX11_countRowsWithout_0 10 rfl
theorem dX11_countRowsWithout_20 : decode cX11_countRowsWithout 20 = .ok (.aload_n 0, 1) := dk_i kdX11_countRowsWithout_0 11 rfl
theorem dX11_countRowsWithout_21 : decode cX11_countRowsWithout 21 = .ok (.getfield 19, 3) := dk_i kdX11_countRowsWithout_0 12 rfl
theorem dX11_countRowsWithout_24 : decode cX11_countRowsWithout 24 = .ok (.getfield 136, 3) := dk_i kdX11_countRowsWithout_0 13 rfl
theorem dX11_countRowsWithout_27 : decode cX11_countRowsWithout 27 = .ok (.i2l, 1) := dk_i kdX11_countRowsWithout_0 14 rfl
theorem dX11_countRowsWithout_28 : decode cX11_countRowsWithout 28 = .ok (.lmul, 1) := dk_i kdX11_countRowsWithout_0 15 rfl
def ldX11_countRowsWithout_29 : List (Nat × ClassFile.Instr × Nat) := [(29, .lstore_n 1, 1), (30, .lload_n 1, 1), (31, .aload_n 0, 1), (32, .getfield 19, 3), (35, .getfield 346, 3), (38, .i2l, 1), (39, .aload_n 0, 1), (40, .getfield 19, 3), (43, .getfield 139, 3), (46, .iconst 1, 1), (47, .isub, 1), (48, .i2l, 1), (49, .lmul, 1), (50, .aload_n 0, 1), (51, .getfield 19, 3), (54, .getfield 136, 3)]
theorem kdX11_countRowsWithout_29 : dkO cX11_countRowsWithout 29 ldX11_countRowsWithout_29 = true := by decide +kernel
theorem dX11_countRowsWithout_29 : decode cX11_countRowsWithout 29 = .ok (.lstore_n 1, 1) := dk_i kdX11_countRowsWithout_29 0 rfl
theorem dX11_countRowsWithout_30 : decode cX11_countRowsWithout 30 = .ok (.lload_n 1, 1) := dk_i kdX11_countRowsWithout_29 1 rfl
theorem dX11_countRowsWithout_31 : decode cX11_countRowsWithout 31 = .ok (.aload_n 0, 1) := dk_i kdX11_countRowsWithout_29 2 rfl
theorem dX11_countRowsWithout_32 : decode cX11_countRowsWithout 32 = .ok (.getfield 19, 3) := dk_i kdX11_countRowsWithout_29 3 rfl
theorem dX11_countRowsWithout_35 : decode cX11_countRowsWithout 35 = .ok (.getfield 346, 3) := dk_i kdX11_countRowsWithout_29 4 rfl
theorem dX11_countRowsWithout_38 : decode cX11_countRowsWithout 38 = .ok (.i2l, 1) := dk_i kdX11_countRowsWithout_29 5 rfl
theorem dX11_countRowsWithout_39 : decode cX11_countRowsWithout 39 = .ok (.aload_n 0, 1) := dk_i kdX11_countRowsWithout_29 6 rfl
theorem dX11_countRowsWithout_40 : decode cX11_countRowsWithout 40 = .ok (.getfield 19, 3) := dk_i kdX11_countRowsWithout_29 7 rfl
theorem dX11_countRowsWithout_43 : decode cX11_countRowsWithout 43 = .ok (.getfield 139, 3) := dk_i kdX11_countRowsWithout_29 8 rfl
theorem dX11_countRowsWithout_46 : decode cX11_countRowsWithout 46 = .ok (.iconst 1, 1) := dk_i kdX11_countRowsWithout_29 9 rfl
theorem dX11_countRowsWithout_47 : decode cX11_countRowsWithout 47 = .ok (.isub, 1) := dk_i kdX11_countRowsWithout_29 10 rfl
theorem dX11_countRowsWithout_48 : decode cX11_countRowsWithout 48 = .ok (.i2l, 1) := dk_i kdX11_countRowsWithout_29 11 rfl
theorem dX11_countRowsWithout_49 : decode cX11_countRowsWithout 49 = .ok (.lmul, 1) := dk_i kdX11_countRowsWithout_29 12 rfl
theorem dX11_countRowsWithout_50 : decode cX11_countRowsWithout 50 = .ok (.aload_n 0, 1) := dk_i kdX11_countRowsWithout_29 13 rfl
theorem dX11_countRowsWithout_51 : decode cX11_countRowsWithout 51 = .ok (.getfield 19, 3) := dk_i kdX11_countRowsWithout_29 14 rfl
theorem dX11_countRowsWithout_54 : decode cX11_countRowsWithout 54 = .ok (.getfield 136, 3) := dk_i kdX11_countRowsWithout_29 15 rfl
def ldX11_countRowsWithout_57 : List (Nat × ClassFile.Instr × Nat) := [(57, .i2l, 1), (58, .lmul, 1), (59, .ladd, 1), (60, .lreturn, 1)]
theorem kdX11_countRowsWithout_57 : dkO cX11_countRowsWithout 57 ldX11_countRowsWithout_57 = true := by decide +kernel
theorem dX11_countRowsWithout_57 : decode cX11_countRowsWithout 57 = .ok (.i2l, 1) := dk_i kdX11_countRowsWithout_57 0 rfl
theorem dX11_countRowsWithout_58 : decode cX11_countRowsWithout 58 = .ok (.lmul, 1) := dk_i kdX11_countRowsWithout_57 1 rfl
theorem dX11_countRowsWithout_59 : decode cX11_countRowsWithout 59 = .ok (.ladd, 1) := dk_i kdX11_countRowsWithout_57 2 rfl
theorem dX11_countRowsWithout_60 : decode cX11_countRowsWithout 60 = .ok (.lreturn, 1) := dk_i kdX11_countRowsWithout_57 3 rfl
def ldX11_countRowsOfOne_0 : List (Nat × ClassFile.Instr × Nat) := [(0, .aload_n 0, 1), (1, .getfield 40, 3), (4, .invokevirtual 349, 3), (7, .aload_n 0, 1), (8, .getfield 40, 3), (11, .invokevirtual 321, 3), (14, .iload_n 1, 1), (15, .if_icmp .ne 10, 3), (18, .aload_n 0, 1), (19, .invokevirtual 351, 3), (22, .goto 4, 3), (25, .lconst 0, 1), (26, .lstore_n 2, 1), (27, .iconst 0, 1), (28, .istore 4, 2), (30, .iload 4, 2)]
theorem kdX11_countRowsOfOne_0 : dkO cX11_countRowsOfOne 0 ldX11_countRowsOfOne_0 = true := by decide +kernel
theorem dX11_countRowsOfOne_0 : decode cX11_countRowsOfOne 0 = .ok (.aload_n 0, 1) := dk_i kdX11_countRowsOfOne_0 0 rfl
theorem dX11_countRowsOfOne_1 : decode cX11_countRowsOfOne 1 = .ok (.getfield 40, 3) := dk_i kdX11_countRowsOfOne_0 1 rfl
theorem dX11_countRowsOfOne_4 : decode cX11_countRowsOfOne 4 = .ok (.invokevirtual 349, 3) := dk_i kdX11_countRowsOfOne_0 2 rfl
theorem dX11_countRowsOfOne_7 : decode cX11_countRowsOfOne 7 = .ok (.aload_n 0, 1) := dk_i kdX11_countRowsOfOne_0 3 rfl
theorem dX11_countRowsOfOne_8 : decode cX11_countRowsOfOne 8 = .ok (.getfield 40, 3) := dk_i kdX11_countRowsOfOne_0 4 rfl
theorem dX11_countRowsOfOne_11 : decode cX11_countRowsOfOne 11 = .ok (.invokevirtual 321, 3) := dk_i kdX11_countRowsOfOne_0 5 rfl
theorem dX11_countRowsOfOne_14 : decode cX11_countRowsOfOne 14 = .ok (.iload_n 1, 1) := dk_i kdX11_countRowsOfOne_0 6 rfl
theorem dX11_countRowsOfOne_15 : decode cX11_countRowsOfOne 15 = .ok (.if_icmp .ne 10, 3) := dk_i kdX11_countRowsOfOne_0 7 rfl
theorem dX11_countRowsOfOne_18 : decode cX11_countRowsOfOne 18 = .ok (.aload_n 0, 1) := dk_i kdX11_countRowsOfOne_0 8 rfl
theorem dX11_countRowsOfOne_19 : decode cX11_countRowsOfOne 19 = .ok (.invokevirtual 351, 3) := dk_i kdX11_countRowsOfOne_0 9 rfl
theorem dX11_countRowsOfOne_22 : decode cX11_countRowsOfOne 22 = .ok (.goto 4, 3) := dk_i kdX11_countRowsOfOne_0 10 rfl
theorem dX11_countRowsOfOne_25 : decode cX11_countRowsOfOne 25 = .ok (.lconst 0, 1) := dk_i kdX11_countRowsOfOne_0 11 rfl
theorem dX11_countRowsOfOne_26 : decode cX11_countRowsOfOne 26 = .ok (.lstore_n 2, 1) := dk_i kdX11_countRowsOfOne_0 12 rfl
theorem dX11_countRowsOfOne_27 : decode cX11_countRowsOfOne 27 = .ok (.iconst 0, 1) := dk_i kdX11_countRowsOfOne_0 13 rfl
theorem dX11_countRowsOfOne_28 : decode cX11_countRowsOfOne 28 = .ok (.istore 4, 2) := dk_i kdX11_countRowsOfOne_0 14 rfl
theorem dX11_countRowsOfOne_30 : decode cX11_countRowsOfOne 30 = .ok (.iload 4, 2) := dk_i kdX11_countRowsOfOne_0 15 rfl
def ldX11_countRowsOfOne_32 : List (Nat × ClassFile.Instr × Nat) := [(32, .aload_n 0, 1), (33, .getfield 19, 3), (36, .getfield 136, 3), (39, .if_icmp .ge 55, 3), (42, .aload_n 0, 1), (43, .getfield 40, 3), (46, .aload_n 0, 1), (47, .getfield 40, 3), (50, .getfield 355, 3), (53, .iload 4, 2), (55, .iconst 0, 1), (56, .aload_n 0, 1), (57, .getfield 40, 3), (60, .getfield 358, 3), (63, .invokevirtual 317, 3), (66, .aload_n 0, 1)]
theorem kdX11_countRowsOfOne_32 : dkO cX11_countRowsOfOne 32 ldX11_countRowsOfOne_32 = true := by decide +kernel
theorem dX11_countRowsOfOne_32 : decode cX11_countRowsOfOne 32 = .ok (.aload_n 0, 1) := dk_i kdX11_countRowsOfOne_32 0 rfl
theorem dX11_countRowsOfOne_33 : decode cX11_countRowsOfOne 33 = .ok (.getfield 19, 3) := dk_i kdX11_countRowsOfOne_32 1 rfl
theorem dX11_countRowsOfOne_36 : decode cX11_countRowsOfOne 36 = .ok (.getfield 136, 3) := dk_i kdX11_countRowsOfOne_32 2 rfl
theorem dX11_countRowsOfOne_39 : decode cX11_countRowsOfOne 39 = .ok (.if_icmp .ge 55, 3) := dk_i kdX11_countRowsOfOne_32 3 rfl
theorem dX11_countRowsOfOne_42 : decode cX11_countRowsOfOne 42 = .ok (.aload_n 0, 1) := dk_i kdX11_countRowsOfOne_32 4 rfl
theorem dX11_countRowsOfOne_43 : decode cX11_countRowsOfOne 43 = .ok (.getfield 40, 3) := dk_i kdX11_countRowsOfOne_32 5 rfl
theorem dX11_countRowsOfOne_46 : decode cX11_countRowsOfOne 46 = .ok (.aload_n 0, 1) := dk_i kdX11_countRowsOfOne_32 6 rfl
theorem dX11_countRowsOfOne_47 : decode cX11_countRowsOfOne 47 = .ok (.getfield 40, 3) := dk_i kdX11_countRowsOfOne_32 7 rfl
theorem dX11_countRowsOfOne_50 : decode cX11_countRowsOfOne 50 = .ok (.getfield 355, 3) := dk_i kdX11_countRowsOfOne_32 8 rfl
theorem dX11_countRowsOfOne_53 : decode cX11_countRowsOfOne 53 = .ok (.iload 4, 2) := dk_i kdX11_countRowsOfOne_32 9 rfl
theorem dX11_countRowsOfOne_55 : decode cX11_countRowsOfOne 55 = .ok (.iconst 0, 1) := dk_i kdX11_countRowsOfOne_32 10 rfl
theorem dX11_countRowsOfOne_56 : decode cX11_countRowsOfOne 56 = .ok (.aload_n 0, 1) := dk_i kdX11_countRowsOfOne_32 11 rfl
theorem dX11_countRowsOfOne_57 : decode cX11_countRowsOfOne 57 = .ok (.getfield 40, 3) := dk_i kdX11_countRowsOfOne_32 12 rfl
theorem dX11_countRowsOfOne_60 : decode cX11_countRowsOfOne 60 = .ok (.getfield 358, 3) := dk_i kdX11_countRowsOfOne_32 13 rfl
theorem dX11_countRowsOfOne_63 : decode cX11_countRowsOfOne 63 = .ok (.invokevirtual 317, 3) := dk_i kdX11_countRowsOfOne_32 14 rfl
theorem dX11_countRowsOfOne_66 : decode cX11_countRowsOfOne 66 = .ok (.aload_n 0, 1) := dk_i kdX11_countRowsOfOne_32 15 rfl
def ldX11_countRowsOfOne_67 : List (Nat × ClassFile.Instr × Nat) := [(67, .getfield 40, 3), (70, .invokevirtual 321, 3), (73, .iload_n 1, 1), (74, .if_icmp .ne 14, 3), (77, .lload_n 2, 1), (78, .aload_n 0, 1), (79, .getfield 19, 3), (82, .getfield 346, 3), (85, .i2l, 1), (86, .ladd, 1), (87, .lstore_n 2, 1), (88, .iinc 4 1, 3), (91, .goto (-61), 3), (94, .lload_n 2, 1), (95, .lreturn, 1)]
theorem kdX11_countRowsOfOne_67 : dkO cX11_countRowsOfOne 67 ldX11_countRowsOfOne_67 = true := by decide +kernel
theorem dX11_countRowsOfOne_67 : decode cX11_countRowsOfOne 67 = .ok (.getfield 40, 3) := dk_i kdX11_countRowsOfOne_67 0 rfl
theorem dX11_countRowsOfOne_70 : decode cX11_countRowsOfOne 70 = .ok (.invokevirtual 321, 3) := dk_i kdX11_countRowsOfOne_67 1 rfl
theorem dX11_countRowsOfOne_73 : decode cX11_countRowsOfOne 73 = .ok (.iload_n 1, 1) := dk_i kdX11_countRowsOfOne_67 2 rfl
theorem dX11_countRowsOfOne_74 : decode cX11_countRowsOfOne 74 = .ok (.if_icmp .ne 14, 3) := dk_i kdX11_countRowsOfOne_67 3 rfl
theorem dX11_countRowsOfOne_77 : decode cX11_countRowsOfOne 77 = .ok (.lload_n 2, 1) := dk_i kdX11_countRowsOfOne_67 4 rfl
theorem dX11_countRowsOfOne_78 : decode cX11_countRowsOfOne 78 = .ok (.aload_n 0, 1) := dk_i kdX11_countRowsOfOne_67 5 rfl
theorem dX11_countRowsOfOne_79 : decode cX11_countRowsOfOne 79 = .ok (.getfield 19, 3) := dk_i kdX11_countRowsOfOne_67 6 rfl
theorem dX11_countRowsOfOne_82 : decode cX11_countRowsOfOne 82 = .ok (.getfield 346, 3) := dk_i kdX11_countRowsOfOne_67 7 rfl
theorem dX11_countRowsOfOne_85 : decode cX11_countRowsOfOne 85 = .ok (.i2l, 1) := dk_i kdX11_countRowsOfOne_67 8 rfl
theorem dX11_countRowsOfOne_86 : decode cX11_countRowsOfOne 86 = .ok (.ladd, 1) := dk_i kdX11_countRowsOfOne_67 9 rfl
theorem dX11_countRowsOfOne_87 : decode cX11_countRowsOfOne 87 = .ok (.lstore_n 2, 1) := dk_i kdX11_countRowsOfOne_67 10 rfl
theorem dX11_countRowsOfOne_88 : decode cX11_countRowsOfOne 88 = .ok (.iinc 4 1, 3) := dk_i kdX11_countRowsOfOne_67 11 rfl
theorem dX11_countRowsOfOne_91 : decode cX11_countRowsOfOne 91 = .ok (.goto (-61), 3) := dk_i kdX11_countRowsOfOne_67 12 rfl
theorem dX11_countRowsOfOne_94 : decode cX11_countRowsOfOne 94 = .ok (.lload_n 2, 1) := dk_i kdX11_countRowsOfOne_67 13 rfl
theorem dX11_countRowsOfOne_95 : decode cX11_countRowsOfOne 95 = .ok (.lreturn, 1) := dk_i kdX11_countRowsOfOne_67 14 rfl
def ldX11_countRowsOfTwo_0 : List (Nat × ClassFile.Instr × Nat) := [(0, .aload_n 0, 1), (1, .getfield 40, 3), (4, .getfield 355, 3), (7, .istore_n 2, 1), (8, .aload_n 0, 1), (9, .getfield 40, 3), (12, .invokevirtual 349, 3), (15, .aload_n 0, 1), (16, .getfield 40, 3), (19, .getfield 358, 3), (22, .istore_n 3, 1), (23, .aload_n 0, 1), (24, .invokevirtual 351, 3), (27, .aload_n 0, 1), (28, .iload_n 1, 1), (29, .invokevirtual 240, 3)]
theorem kdX11_countRowsOfTwo_0 : dkO cX11_countRowsOfTwo 0 ldX11_countRowsOfTwo_0 = true := by decide +kernel
theorem dX11_countRowsOfTwo_0 : decode cX11_countRowsOfTwo 0 = .ok (.aload_n 0, 1) := dk_i kdX11_countRowsOfTwo_0 0 rfl
theorem dX11_countRowsOfTwo_1 : decode cX11_countRowsOfTwo 1 = .ok (.getfield 40, 3) := dk_i kdX11_countRowsOfTwo_0 1 rfl
theorem dX11_countRowsOfTwo_4 : decode cX11_countRowsOfTwo 4 = .ok (.getfield 355, 3) := dk_i kdX11_countRowsOfTwo_0 2 rfl
theorem dX11_countRowsOfTwo_7 : decode cX11_countRowsOfTwo 7 = .ok (.istore_n 2, 1) := dk_i kdX11_countRowsOfTwo_0 3 rfl
theorem dX11_countRowsOfTwo_8 : decode cX11_countRowsOfTwo 8 = .ok (.aload_n 0, 1) := dk_i kdX11_countRowsOfTwo_0 4 rfl
theorem dX11_countRowsOfTwo_9 : decode cX11_countRowsOfTwo 9 = .ok (.getfield 40, 3) := dk_i kdX11_countRowsOfTwo_0 5 rfl
theorem dX11_countRowsOfTwo_12 : decode cX11_countRowsOfTwo 12 = .ok (.invokevirtual 349, 3) := dk_i kdX11_countRowsOfTwo_0 6 rfl
theorem dX11_countRowsOfTwo_15 : decode cX11_countRowsOfTwo 15 = .ok (.aload_n 0, 1) := dk_i kdX11_countRowsOfTwo_0 7 rfl
theorem dX11_countRowsOfTwo_16 : decode cX11_countRowsOfTwo 16 = .ok (.getfield 40, 3) := dk_i kdX11_countRowsOfTwo_0 8 rfl
theorem dX11_countRowsOfTwo_19 : decode cX11_countRowsOfTwo 19 = .ok (.getfield 358, 3) := dk_i kdX11_countRowsOfTwo_0 9 rfl
theorem dX11_countRowsOfTwo_22 : decode cX11_countRowsOfTwo 22 = .ok (.istore_n 3, 1) := dk_i kdX11_countRowsOfTwo_0 10 rfl
theorem dX11_countRowsOfTwo_23 : decode cX11_countRowsOfTwo 23 = .ok (.aload_n 0, 1) := dk_i kdX11_countRowsOfTwo_0 11 rfl
theorem dX11_countRowsOfTwo_24 : decode cX11_countRowsOfTwo 24 = .ok (.invokevirtual 351, 3) := dk_i kdX11_countRowsOfTwo_0 12 rfl
theorem dX11_countRowsOfTwo_27 : decode cX11_countRowsOfTwo 27 = .ok (.aload_n 0, 1) := dk_i kdX11_countRowsOfTwo_0 13 rfl
theorem dX11_countRowsOfTwo_28 : decode cX11_countRowsOfTwo 28 = .ok (.iload_n 1, 1) := dk_i kdX11_countRowsOfTwo_0 14 rfl
theorem dX11_countRowsOfTwo_29 : decode cX11_countRowsOfTwo 29 = .ok (.invokevirtual 240, 3) := dk_i kdX11_countRowsOfTwo_0 15 rfl
def ldX11_countRowsOfTwo_32 : List (Nat × ClassFile.Instr × Nat) := [(32, .lmul, 1), (33, .lstore 4, 2), (35, .iconst 0, 1), (36, .istore 6, 2), (38, .iload 6, 2), (40, .aload_n 0, 1), (41, .getfield 19, 3), (44, .getfield 136, 3), (47, .if_icmp .ge 40, 3), (50, .aload_n 0, 1), (51, .getfield 40, 3), (54, .iload_n 2, 1), (55, .iload 6, 2), (57, .iconst 0, 1), (58, .iload_n 3, 1), (59, .invokevirtual 317, 3)]
theorem kdX11_countRowsOfTwo_32 : dkO cX11_countRowsOfTwo 32 ldX11_countRowsOfTwo_32 = true := by decide +kernel
theorem dX11_countRowsOfTwo_32 : decode cX11_countRowsOfTwo 32 = .ok (.lmul, 1) := dk_i kdX11_countRowsOfTwo_32 0 rfl
theorem dX11_countRowsOfTwo_33 : decode cX11_countRowsOfTwo 33 = .ok (.lstore 4, 2) := dk_i kdX11_countRowsOfTwo_32 1 rfl
theorem dX11_countRowsOfTwo_35 : decode cX11_countRowsOfTwo 35 = .ok (.iconst 0, 1) := dk_i kdX11_countRowsOfTwo_32 2 rfl
theorem dX11_countRowsOfTwo_36 : decode cX11_countRowsOfTwo 36 = .ok (.istore 6, 2) := dk_i kdX11_countRowsOfTwo_32 3 rfl
theorem dX11_countRowsOfTwo_38 : decode cX11_countRowsOfTwo 38 = .ok (.iload 6, 2) := dk_i kdX11_countRowsOfTwo_32 4 rfl
theorem dX11_countRowsOfTwo_40 : decode cX11_countRowsOfTwo 40 = .ok (.aload_n 0, 1) := dk_i kdX11_countRowsOfTwo_32 5 rfl
theorem dX11_countRowsOfTwo_41 : decode cX11_countRowsOfTwo 41 = .ok (.getfield 19, 3) := dk_i kdX11_countRowsOfTwo_32 6 rfl
theorem dX11_countRowsOfTwo_44 : decode cX11_countRowsOfTwo 44 = .ok (.getfield 136, 3) := dk_i kdX11_countRowsOfTwo_32 7 rfl
theorem dX11_countRowsOfTwo_47 : decode cX11_countRowsOfTwo 47 = .ok (.if_icmp .ge 40, 3) := dk_i kdX11_countRowsOfTwo_32 8 rfl
theorem dX11_countRowsOfTwo_50 : decode cX11_countRowsOfTwo 50 = .ok (.aload_n 0, 1) := dk_i kdX11_countRowsOfTwo_32 9 rfl
theorem dX11_countRowsOfTwo_51 : decode cX11_countRowsOfTwo 51 = .ok (.getfield 40, 3) := dk_i kdX11_countRowsOfTwo_32 10 rfl
theorem dX11_countRowsOfTwo_54 : decode cX11_countRowsOfTwo 54 = .ok (.iload_n 2, 1) := dk_i kdX11_countRowsOfTwo_32 11 rfl
theorem dX11_countRowsOfTwo_55 : decode cX11_countRowsOfTwo 55 = .ok (.iload 6, 2) := dk_i kdX11_countRowsOfTwo_32 12 rfl
theorem dX11_countRowsOfTwo_57 : decode cX11_countRowsOfTwo 57 = .ok (.iconst 0, 1) := dk_i kdX11_countRowsOfTwo_32 13 rfl
theorem dX11_countRowsOfTwo_58 : decode cX11_countRowsOfTwo 58 = .ok (.iload_n 3, 1) := dk_i kdX11_countRowsOfTwo_32 14 rfl
theorem dX11_countRowsOfTwo_59 : decode cX11_countRowsOfTwo 59 = .ok (.invokevirtual 317, 3) := dk_i kdX11_countRowsOfTwo_32 15 rfl
def ldX11_countRowsOfTwo_62 : List (Nat × ClassFile.Instr × Nat) := [(62, .lload 4, 2), (64, .aload_n 0, 1), (65, .getfield 19, 3), (68, .getfield 346, 3), (71, .i2l, 1), (72, .aload_n 0, 1), (73, .iload_n 1, 1), (74, .invokevirtual 240, 3), (77, .lmul, 1), (78, .ladd, 1), (79, .lstore 4, 2), (81, .iinc 6 1, 3), (84, .goto (-46), 3), (87, .lload 4, 2), (89, .lreturn, 1)]
theorem kdX11_countRowsOfTwo_62 : dkO cX11_countRowsOfTwo 62 ldX11_countRowsOfTwo_62 = true := by decide +kernel
theorem dX11_countRowsOfTwo_62 : decode cX11_countRowsOfTwo 62 = .ok (.lload 4, 2) := dk_i kdX11_countRowsOfTwo_62 0 rfl
theorem dX11_countRowsOfTwo_64 : decode cX11_countRowsOfTwo 64 = .ok (.aload_n 0, 1) := dk_i kdX11_countRowsOfTwo_62 1 rfl
theorem dX11_countRowsOfTwo_65 : decode cX11_countRowsOfTwo 65 = .ok (.getfield 19, 3) := dk_i kdX11_countRowsOfTwo_62 2 rfl
theorem dX11_countRowsOfTwo_68 : decode cX11_countRowsOfTwo 68 = .ok (.getfield 346, 3) := dk_i kdX11_countRowsOfTwo_62 3 rfl
theorem dX11_countRowsOfTwo_71 : decode cX11_countRowsOfTwo 71 = .ok (.i2l, 1) := dk_i kdX11_countRowsOfTwo_62 4 rfl
theorem dX11_countRowsOfTwo_72 : decode cX11_countRowsOfTwo 72 = .ok (.aload_n 0, 1) := dk_i kdX11_countRowsOfTwo_62 5 rfl
theorem dX11_countRowsOfTwo_73 : decode cX11_countRowsOfTwo 73 = .ok (.iload_n 1, 1) := dk_i kdX11_countRowsOfTwo_62 6 rfl
theorem dX11_countRowsOfTwo_74 : decode cX11_countRowsOfTwo 74 = .ok (.invokevirtual 240, 3) := dk_i kdX11_countRowsOfTwo_62 7 rfl
theorem dX11_countRowsOfTwo_77 : decode cX11_countRowsOfTwo 77 = .ok (.lmul, 1) := dk_i kdX11_countRowsOfTwo_62 8 rfl
theorem dX11_countRowsOfTwo_78 : decode cX11_countRowsOfTwo 78 = .ok (.ladd, 1) := dk_i kdX11_countRowsOfTwo_62 9 rfl
theorem dX11_countRowsOfTwo_79 : decode cX11_countRowsOfTwo 79 = .ok (.lstore 4, 2) := dk_i kdX11_countRowsOfTwo_62 10 rfl
theorem dX11_countRowsOfTwo_81 : decode cX11_countRowsOfTwo 81 = .ok (.iinc 6 1, 3) := dk_i kdX11_countRowsOfTwo_62 11 rfl
theorem dX11_countRowsOfTwo_84 : decode cX11_countRowsOfTwo 84 = .ok (.goto (-46), 3) := dk_i kdX11_countRowsOfTwo_62 12 rfl
theorem dX11_countRowsOfTwo_87 : decode cX11_countRowsOfTwo 87 = .ok (.lload 4, 2) := dk_i kdX11_countRowsOfTwo_62 13 rfl
theorem dX11_countRowsOfTwo_89 : decode cX11_countRowsOfTwo 89 = .ok (.lreturn, 1) := dk_i kdX11_countRowsOfTwo_62 14 rfl
def ldX11_findHeld_0 : List (Nat × ClassFile.Instr × Nat) := [(0, .iconst 0, 1), (1, .istore_n 2, 1), (2, .iload_n 2, 1), (3, .aload_n 0, 1), (4, .getfield 19, 3), (7, .getfield 139, 3), (10, .if_icmp .ge 55, 3), (13, .iload_n 2, 1), (14, .iload_n 1, 1), (15, .if_icmp .eq 44, 3), (18, .aload_n 0, 1), (19, .getfield 68, 3), (22, .iload_n 2, 1), (23, .invokevirtual 359, 3), (26, .ifCond .eq 33, 3), (29, .aload_n 0, 1)]
theorem kdX11_findHeld_0 : dkO cX11_findHeld 0 ldX11_findHeld_0 = true := by decide +kernel
theorem dX11_findHeld_0 : decode cX11_findHeld 0 = .ok (.iconst 0, 1) := dk_i kdX11_findHeld_0 0 rfl
theorem dX11_findHeld_1 : decode cX11_findHeld 1 = .ok (.istore_n 2, 1) := dk_i kdX11_findHeld_0 1 rfl
theorem dX11_findHeld_2 : decode cX11_findHeld 2 = .ok (.iload_n 2, 1) := dk_i kdX11_findHeld_0 2 rfl
theorem dX11_findHeld_3 : decode cX11_findHeld 3 = .ok (.aload_n 0, 1) := dk_i kdX11_findHeld_0 3 rfl
theorem dX11_findHeld_4 : decode cX11_findHeld 4 = .ok (.getfield 19, 3) := dk_i kdX11_findHeld_0 4 rfl
theorem dX11_findHeld_7 : decode cX11_findHeld 7 = .ok (.getfield 139, 3) := dk_i kdX11_findHeld_0 5 rfl
theorem dX11_findHeld_10 : decode cX11_findHeld 10 = .ok (.if_icmp .ge 55, 3) := dk_i kdX11_findHeld_0 6 rfl
theorem dX11_findHeld_13 : decode cX11_findHeld 13 = .ok (.iload_n 2, 1) := dk_i kdX11_findHeld_0 7 rfl
theorem dX11_findHeld_14 : decode cX11_findHeld 14 = .ok (.iload_n 1, 1) := dk_i kdX11_findHeld_0 8 rfl
theorem dX11_findHeld_15 : decode cX11_findHeld 15 = .ok (.if_icmp .eq 44, 3) := dk_i kdX11_findHeld_0 9 rfl
theorem dX11_findHeld_18 : decode cX11_findHeld 18 = .ok (.aload_n 0, 1) := dk_i kdX11_findHeld_0 10 rfl
theorem dX11_findHeld_19 : decode cX11_findHeld 19 = .ok (.getfield 68, 3) := dk_i kdX11_findHeld_0 11 rfl
theorem dX11_findHeld_22 : decode cX11_findHeld 22 = .ok (.iload_n 2, 1) := dk_i kdX11_findHeld_0 12 rfl
theorem dX11_findHeld_23 : decode cX11_findHeld 23 = .ok (.invokevirtual 359, 3) := dk_i kdX11_findHeld_0 13 rfl
theorem dX11_findHeld_26 : decode cX11_findHeld 26 = .ok (.ifCond .eq 33, 3) := dk_i kdX11_findHeld_0 14 rfl
theorem dX11_findHeld_29 : decode cX11_findHeld 29 = .ok (.aload_n 0, 1) := dk_i kdX11_findHeld_0 15 rfl
def ldX11_findHeld_30 : List (Nat × ClassFile.Instr × Nat) := [(30, .iload_n 2, 1), (31, .aload_n 0, 1), (32, .getfield 72, 3), (35, .bipush 40, 2), (37, .invokevirtual 213, 3), (40, .istore_n 3, 1), (41, .aload_n 0, 1), (42, .getfield 68, 3), (45, .iload_n 2, 1), (46, .aload_n 0, 1), (47, .getfield 72, 3), (50, .iload_n 3, 1), (51, .invokevirtual 362, 3), (54, .ifCond .ne 5, 3), (57, .iconst 0, 1), (58, .ireturn, 1)]
theorem kdX11_findHeld_30 : dkO cX11_findHeld 30 ldX11_findHeld_30 = true := by decide +kernel
theorem dX11_findHeld_30 : decode cX11_findHeld 30 = .ok (.iload_n 2, 1) := dk_i kdX11_findHeld_30 0 rfl
theorem dX11_findHeld_31 : decode cX11_findHeld 31 = .ok (.aload_n 0, 1) := dk_i kdX11_findHeld_30 1 rfl
theorem dX11_findHeld_32 : decode cX11_findHeld 32 = .ok (.getfield 72, 3) := dk_i kdX11_findHeld_30 2 rfl
theorem dX11_findHeld_35 : decode cX11_findHeld 35 = .ok (.bipush 40, 2) := dk_i kdX11_findHeld_30 3 rfl
theorem dX11_findHeld_37 : decode cX11_findHeld 37 = .ok (.invokevirtual 213, 3) := dk_i kdX11_findHeld_30 4 rfl
theorem dX11_findHeld_40 : decode cX11_findHeld 40 = .ok (.istore_n 3, 1) := dk_i kdX11_findHeld_30 5 rfl
theorem dX11_findHeld_41 : decode cX11_findHeld 41 = .ok (.aload_n 0, 1) := dk_i kdX11_findHeld_30 6 rfl
theorem dX11_findHeld_42 : decode cX11_findHeld 42 = .ok (.getfield 68, 3) := dk_i kdX11_findHeld_30 7 rfl
theorem dX11_findHeld_45 : decode cX11_findHeld 45 = .ok (.iload_n 2, 1) := dk_i kdX11_findHeld_30 8 rfl
theorem dX11_findHeld_46 : decode cX11_findHeld 46 = .ok (.aload_n 0, 1) := dk_i kdX11_findHeld_30 9 rfl
theorem dX11_findHeld_47 : decode cX11_findHeld 47 = .ok (.getfield 72, 3) := dk_i kdX11_findHeld_30 10 rfl
theorem dX11_findHeld_50 : decode cX11_findHeld 50 = .ok (.iload_n 3, 1) := dk_i kdX11_findHeld_30 11 rfl
theorem dX11_findHeld_51 : decode cX11_findHeld 51 = .ok (.invokevirtual 362, 3) := dk_i kdX11_findHeld_30 12 rfl
theorem dX11_findHeld_54 : decode cX11_findHeld 54 = .ok (.ifCond .ne 5, 3) := dk_i kdX11_findHeld_30 13 rfl
theorem dX11_findHeld_57 : decode cX11_findHeld 57 = .ok (.iconst 0, 1) := dk_i kdX11_findHeld_30 14 rfl
theorem dX11_findHeld_58 : decode cX11_findHeld 58 = .ok (.ireturn, 1) := dk_i kdX11_findHeld_30 15 rfl
def ldX11_findHeld_59 : List (Nat × ClassFile.Instr × Nat) := [(59, .iinc 2 1, 3), (62, .goto (-60), 3), (65, .iconst 0, 1), (66, .istore_n 2, 1), (67, .iconst (-1), 1), (68, .istore_n 3, 1), (69, .iload_n 3, 1), (70, .aload_n 0, 1), (71, .getfield 19, 3), (74, .getfield 136, 3), (77, .if_icmp .ge 82, 3), (80, .aload_n 0, 1), (81, .getfield 40, 3), (84, .iload_n 1, 1), (85, .iload_n 3, 1), (86, .iconst 0, 1)]
theorem kdX11_findHeld_59 : dkO cX11_findHeld 59 ldX11_findHeld_59 = true := by decide +kernel
theorem dX11_findHeld_59 : decode cX11_findHeld 59 = .ok (.iinc 2 1, 3) := dk_i kdX11_findHeld_59 0 rfl
theorem dX11_findHeld_62 : decode cX11_findHeld 62 = .ok (.goto (-60), 3) := dk_i kdX11_findHeld_59 1 rfl
theorem dX11_findHeld_65 : decode cX11_findHeld 65 = .ok (.iconst 0, 1) := dk_i kdX11_findHeld_59 2 rfl
theorem dX11_findHeld_66 : decode cX11_findHeld 66 = .ok (.istore_n 2, 1) := dk_i kdX11_findHeld_59 3 rfl
theorem dX11_findHeld_67 : decode cX11_findHeld 67 = .ok (.iconst (-1), 1) := dk_i kdX11_findHeld_59 4 rfl
theorem dX11_findHeld_68 : decode cX11_findHeld 68 = .ok (.istore_n 3, 1) := dk_i kdX11_findHeld_59 5 rfl
theorem dX11_findHeld_69 : decode cX11_findHeld 69 = .ok (.iload_n 3, 1) := dk_i kdX11_findHeld_59 6 rfl
theorem dX11_findHeld_70 : decode cX11_findHeld 70 = .ok (.aload_n 0, 1) := dk_i kdX11_findHeld_59 7 rfl
theorem dX11_findHeld_71 : decode cX11_findHeld 71 = .ok (.getfield 19, 3) := dk_i kdX11_findHeld_59 8 rfl
theorem dX11_findHeld_74 : decode cX11_findHeld 74 = .ok (.getfield 136, 3) := dk_i kdX11_findHeld_59 9 rfl
theorem dX11_findHeld_77 : decode cX11_findHeld 77 = .ok (.if_icmp .ge 82, 3) := dk_i kdX11_findHeld_59 10 rfl
theorem dX11_findHeld_80 : decode cX11_findHeld 80 = .ok (.aload_n 0, 1) := dk_i kdX11_findHeld_59 11 rfl
theorem dX11_findHeld_81 : decode cX11_findHeld 81 = .ok (.getfield 40, 3) := dk_i kdX11_findHeld_59 12 rfl
theorem dX11_findHeld_84 : decode cX11_findHeld 84 = .ok (.iload_n 1, 1) := dk_i kdX11_findHeld_59 13 rfl
theorem dX11_findHeld_85 : decode cX11_findHeld 85 = .ok (.iload_n 3, 1) := dk_i kdX11_findHeld_59 14 rfl
theorem dX11_findHeld_86 : decode cX11_findHeld 86 = .ok (.iconst 0, 1) := dk_i kdX11_findHeld_59 15 rfl
def ldX11_findHeld_87 : List (Nat × ClassFile.Instr × Nat) := [(87, .aload_n 0, 1), (88, .getfield 47, 3), (91, .getfield 148, 3), (94, .invokevirtual 317, 3), (97, .aload_n 0, 1), (98, .getfield 40, 3), (101, .aload_n 0, 1), (102, .getfield 72, 3), (105, .bipush 40, 2), (107, .invokevirtual 324, 3), (110, .istore 4, 2), (112, .aload_n 0, 1), (113, .getfield 68, 3), (116, .iload_n 3, 1), (117, .iconst 1, 1), (118, .iadd, 1)]
theorem kdX11_findHeld_87 : dkO cX11_findHeld 87 ldX11_findHeld_87 = true := by decide +kernel
theorem dX11_findHeld_87 : decode cX11_findHeld 87 = .ok (.aload_n 0, 1) := dk_i kdX11_findHeld_87 0 rfl
theorem dX11_findHeld_88 : decode cX11_findHeld 88 = .ok (.getfield 47, 3) := dk_i kdX11_findHeld_87 1 rfl
theorem dX11_findHeld_91 : decode cX11_findHeld 91 = .ok (.getfield 148, 3) := dk_i kdX11_findHeld_87 2 rfl
theorem dX11_findHeld_94 : decode cX11_findHeld 94 = .ok (.invokevirtual 317, 3) := dk_i kdX11_findHeld_87 3 rfl
theorem dX11_findHeld_97 : decode cX11_findHeld 97 = .ok (.aload_n 0, 1) := dk_i kdX11_findHeld_87 4 rfl
theorem dX11_findHeld_98 : decode cX11_findHeld 98 = .ok (.getfield 40, 3) := dk_i kdX11_findHeld_87 5 rfl
theorem dX11_findHeld_101 : decode cX11_findHeld 101 = .ok (.aload_n 0, 1) := dk_i kdX11_findHeld_87 6 rfl
theorem dX11_findHeld_102 : decode cX11_findHeld 102 = .ok (.getfield 72, 3) := dk_i kdX11_findHeld_87 7 rfl
theorem dX11_findHeld_105 : decode cX11_findHeld 105 = .ok (.bipush 40, 2) := dk_i kdX11_findHeld_87 8 rfl
theorem dX11_findHeld_107 : decode cX11_findHeld 107 = .ok (.invokevirtual 324, 3) := dk_i kdX11_findHeld_87 9 rfl
theorem dX11_findHeld_110 : decode cX11_findHeld 110 = .ok (.istore 4, 2) := dk_i kdX11_findHeld_87 10 rfl
theorem dX11_findHeld_112 : decode cX11_findHeld 112 = .ok (.aload_n 0, 1) := dk_i kdX11_findHeld_87 11 rfl
theorem dX11_findHeld_113 : decode cX11_findHeld 113 = .ok (.getfield 68, 3) := dk_i kdX11_findHeld_87 12 rfl
theorem dX11_findHeld_116 : decode cX11_findHeld 116 = .ok (.iload_n 3, 1) := dk_i kdX11_findHeld_87 13 rfl
theorem dX11_findHeld_117 : decode cX11_findHeld 117 = .ok (.iconst 1, 1) := dk_i kdX11_findHeld_87 14 rfl
theorem dX11_findHeld_118 : decode cX11_findHeld 118 = .ok (.iadd, 1) := dk_i kdX11_findHeld_87 15 rfl
def ldX11_findHeld_119 : List (Nat × ClassFile.Instr × Nat) := [(119, .aload_n 0, 1), (120, .getfield 72, 3), (123, .iload 4, 2), (125, .invokevirtual 366, 3), (128, .aload_n 0, 1), (129, .getfield 68, 3), (132, .iload_n 1, 1), (133, .aload_n 0, 1), (134, .getfield 72, 3), (137, .iload 4, 2), (139, .invokevirtual 362, 3), (142, .ifCond .eq 11, 3), (145, .iload_n 2, 1), (146, .iconst 1, 1), (147, .iload_n 3, 1), (148, .iconst 1, 1)]
theorem kdX11_findHeld_119 : dkO cX11_findHeld 119 ldX11_findHeld_119 = true := by decide +kernel
theorem dX11_findHeld_119 : decode cX11_findHeld 119 = .ok (.aload_n 0, 1) := dk_i kdX11_findHeld_119 0 rfl
theorem dX11_findHeld_120 : decode cX11_findHeld 120 = .ok (.getfield 72, 3) := dk_i kdX11_findHeld_119 1 rfl
theorem dX11_findHeld_123 : decode cX11_findHeld 123 = .ok (.iload 4, 2) := dk_i kdX11_findHeld_119 2 rfl
theorem dX11_findHeld_125 : decode cX11_findHeld 125 = .ok (.invokevirtual 366, 3) := dk_i kdX11_findHeld_119 3 rfl
theorem dX11_findHeld_128 : decode cX11_findHeld 128 = .ok (.aload_n 0, 1) := dk_i kdX11_findHeld_119 4 rfl
theorem dX11_findHeld_129 : decode cX11_findHeld 129 = .ok (.getfield 68, 3) := dk_i kdX11_findHeld_119 5 rfl
theorem dX11_findHeld_132 : decode cX11_findHeld 132 = .ok (.iload_n 1, 1) := dk_i kdX11_findHeld_119 6 rfl
theorem dX11_findHeld_133 : decode cX11_findHeld 133 = .ok (.aload_n 0, 1) := dk_i kdX11_findHeld_119 7 rfl
theorem dX11_findHeld_134 : decode cX11_findHeld 134 = .ok (.getfield 72, 3) := dk_i kdX11_findHeld_119 8 rfl
theorem dX11_findHeld_137 : decode cX11_findHeld 137 = .ok (.iload 4, 2) := dk_i kdX11_findHeld_119 9 rfl
theorem dX11_findHeld_139 : decode cX11_findHeld 139 = .ok (.invokevirtual 362, 3) := dk_i kdX11_findHeld_119 10 rfl
theorem dX11_findHeld_142 : decode cX11_findHeld 142 = .ok (.ifCond .eq 11, 3) := dk_i kdX11_findHeld_119 11 rfl
theorem dX11_findHeld_145 : decode cX11_findHeld 145 = .ok (.iload_n 2, 1) := dk_i kdX11_findHeld_119 12 rfl
theorem dX11_findHeld_146 : decode cX11_findHeld 146 = .ok (.iconst 1, 1) := dk_i kdX11_findHeld_119 13 rfl
theorem dX11_findHeld_147 : decode cX11_findHeld 147 = .ok (.iload_n 3, 1) := dk_i kdX11_findHeld_119 14 rfl
theorem dX11_findHeld_148 : decode cX11_findHeld 148 = .ok (.iconst 1, 1) := dk_i kdX11_findHeld_119 15 rfl
def ldX11_findHeld_149 : List (Nat × ClassFile.Instr × Nat) := [(149, .iadd, 1), (150, .ishl, 1), (151, .ior, 1), (152, .istore_n 2, 1), (153, .iinc 3 1, 3), (156, .goto (-87), 3), (159, .iload_n 2, 1), (160, .ireturn, 1)]
theorem kdX11_findHeld_149 : dkO cX11_findHeld 149 ldX11_findHeld_149 = true := by decide +kernel
theorem dX11_findHeld_149 : decode cX11_findHeld 149 = .ok (.iadd, 1) := dk_i kdX11_findHeld_149 0 rfl
theorem dX11_findHeld_150 : decode cX11_findHeld 150 = .ok (.ishl, 1) := dk_i kdX11_findHeld_149 1 rfl
theorem dX11_findHeld_151 : decode cX11_findHeld 151 = .ok (.ior, 1) := dk_i kdX11_findHeld_149 2 rfl
theorem dX11_findHeld_152 : decode cX11_findHeld 152 = .ok (.istore_n 2, 1) := dk_i kdX11_findHeld_149 3 rfl
theorem dX11_findHeld_153 : decode cX11_findHeld 153 = .ok (.iinc 3 1, 3) := dk_i kdX11_findHeld_149 4 rfl
theorem dX11_findHeld_156 : decode cX11_findHeld 156 = .ok (.goto (-87), 3) := dk_i kdX11_findHeld_149 5 rfl
theorem dX11_findHeld_159 : decode cX11_findHeld 159 = .ok (.iload_n 2, 1) := dk_i kdX11_findHeld_149 6 rfl
theorem dX11_findHeld_160 : decode cX11_findHeld 160 = .ok (.ireturn, 1) := dk_i kdX11_findHeld_149 7 rfl
def ldX11_draw_0 : List (Nat × ClassFile.Instr × Nat) := [(0, .aload_n 0, 1), (1, .ldc2_w 370, 3), (4, .aload_n 0, 1), (5, .getfield 98, 3), (8, .i2l, 1), (9, .lmul, 1), (10, .ldc2_w 372, 3), (13, .ladd, 1), (14, .ldc2_w 374, 3), (17, .land, 1), (18, .l2i, 1), (19, .putfield 98, 3), (22, .iload_n 1, 1), (23, .ifCond .le 15, 3), (26, .aload_n 0, 1), (27, .getfield 98, 3)]
theorem kdX11_draw_0 : dkO cX11_draw 0 ldX11_draw_0 = true := by decide +kernel
theorem dX11_draw_0 : decode cX11_draw 0 = .ok (.aload_n 0, 1) := dk_i kdX11_draw_0 0 rfl
theorem dX11_draw_1 : decode cX11_draw 1 = .ok (.ldc2_w 370, 3) := dk_i kdX11_draw_0 1 rfl
theorem dX11_draw_4 : decode cX11_draw 4 = .ok (.aload_n 0, 1) := dk_i kdX11_draw_0 2 rfl
theorem dX11_draw_5 : decode cX11_draw 5 = .ok (.getfield 98, 3) := dk_i kdX11_draw_0 3 rfl
theorem dX11_draw_8 : decode cX11_draw 8 = .ok (.i2l, 1) := dk_i kdX11_draw_0 4 rfl
theorem dX11_draw_9 : decode cX11_draw 9 = .ok (.lmul, 1) := dk_i kdX11_draw_0 5 rfl
theorem dX11_draw_10 : decode cX11_draw 10 = .ok (.ldc2_w 372, 3) := dk_i kdX11_draw_0 6 rfl
theorem dX11_draw_13 : decode cX11_draw 13 = .ok (.ladd, 1) := dk_i kdX11_draw_0 7 rfl
theorem dX11_draw_14 : decode cX11_draw 14 = .ok (.ldc2_w 374, 3) := dk_i kdX11_draw_0 8 rfl
theorem dX11_draw_17 : decode cX11_draw 17 = .ok (.land, 1) := dk_i kdX11_draw_0 9 rfl
theorem dX11_draw_18 : decode cX11_draw 18 = .ok (.l2i, 1) := dk_i kdX11_draw_0 10 rfl
theorem dX11_draw_19 : decode cX11_draw 19 = .ok (.putfield 98, 3) := dk_i kdX11_draw_0 11 rfl
theorem dX11_draw_22 : decode cX11_draw 22 = .ok (.iload_n 1, 1) := dk_i kdX11_draw_0 12 rfl
theorem dX11_draw_23 : decode cX11_draw 23 = .ok (.ifCond .le 15, 3) := dk_i kdX11_draw_0 13 rfl
theorem dX11_draw_26 : decode cX11_draw 26 = .ok (.aload_n 0, 1) := dk_i kdX11_draw_0 14 rfl
theorem dX11_draw_27 : decode cX11_draw 27 = .ok (.getfield 98, 3) := dk_i kdX11_draw_0 15 rfl
def ldX11_draw_30 : List (Nat × ClassFile.Instr × Nat) := [(30, .bipush 64, 2), (32, .idiv, 1), (33, .iload_n 1, 1), (34, .irem, 1), (35, .goto 4, 3), (38, .iconst 0, 1), (39, .ireturn, 1)]
theorem kdX11_draw_30 : dkO cX11_draw 30 ldX11_draw_30 = true := by decide +kernel
theorem dX11_draw_30 : decode cX11_draw 30 = .ok (.bipush 64, 2) := dk_i kdX11_draw_30 0 rfl
theorem dX11_draw_32 : decode cX11_draw 32 = .ok (.idiv, 1) := dk_i kdX11_draw_30 1 rfl
theorem dX11_draw_33 : decode cX11_draw 33 = .ok (.iload_n 1, 1) := dk_i kdX11_draw_30 2 rfl
theorem dX11_draw_34 : decode cX11_draw 34 = .ok (.irem, 1) := dk_i kdX11_draw_30 3 rfl
theorem dX11_draw_35 : decode cX11_draw 35 = .ok (.goto 4, 3) := dk_i kdX11_draw_30 4 rfl
theorem dX11_draw_38 : decode cX11_draw 38 = .ok (.iconst 0, 1) := dk_i kdX11_draw_30 5 rfl
theorem dX11_draw_39 : decode cX11_draw 39 = .ok (.ireturn, 1) := dk_i kdX11_draw_30 6 rfl
def ldX11_letPass_0 : List (Nat × ClassFile.Instr × Nat) := [(0, .aload_n 0, 1), (1, .bipush 100, 2), (3, .invokevirtual 376, 3), (6, .aload_n 0, 1), (7, .getfield 19, 3), (10, .getfield 346, 3), (13, .if_icmp .ge 23, 3), (16, .aload_n 0, 1), (17, .getfield 19, 3), (20, .getfield 139, 3), (23, .ifCond .eq 13, 3), (26, .aload_n 0, 1), (27, .getfield 19, 3), (30, .getfield 136, 3), (33, .ifCond .ne 5, 3), (36, .iconst 0, 1)]
theorem kdX11_letPass_0 : dkO cX11_letPass 0 ldX11_letPass_0 = true := by decide +kernel
theorem dX11_letPass_0 : decode cX11_letPass 0 = .ok (.aload_n 0, 1) := dk_i kdX11_letPass_0 0 rfl
theorem dX11_letPass_1 : decode cX11_letPass 1 = .ok (.bipush 100, 2) := dk_i kdX11_letPass_0 1 rfl
theorem dX11_letPass_3 : decode cX11_letPass 3 = .ok (.invokevirtual 376, 3) := dk_i kdX11_letPass_0 2 rfl
theorem dX11_letPass_6 : decode cX11_letPass 6 = .ok (.aload_n 0, 1) := dk_i kdX11_letPass_0 3 rfl
theorem dX11_letPass_7 : decode cX11_letPass 7 = .ok (.getfield 19, 3) := dk_i kdX11_letPass_0 4 rfl
theorem dX11_letPass_10 : decode cX11_letPass 10 = .ok (.getfield 346, 3) := dk_i kdX11_letPass_0 5 rfl
theorem dX11_letPass_13 : decode cX11_letPass 13 = .ok (.if_icmp .ge 23, 3) := dk_i kdX11_letPass_0 6 rfl
theorem dX11_letPass_16 : decode cX11_letPass 16 = .ok (.aload_n 0, 1) := dk_i kdX11_letPass_0 7 rfl
theorem dX11_letPass_17 : decode cX11_letPass 17 = .ok (.getfield 19, 3) := dk_i kdX11_letPass_0 8 rfl
theorem dX11_letPass_20 : decode cX11_letPass 20 = .ok (.getfield 139, 3) := dk_i kdX11_letPass_0 9 rfl
theorem dX11_letPass_23 : decode cX11_letPass 23 = .ok (.ifCond .eq 13, 3) := dk_i kdX11_letPass_0 10 rfl
theorem dX11_letPass_26 : decode cX11_letPass 26 = .ok (.aload_n 0, 1) := dk_i kdX11_letPass_0 11 rfl
theorem dX11_letPass_27 : decode cX11_letPass 27 = .ok (.getfield 19, 3) := dk_i kdX11_letPass_0 12 rfl
theorem dX11_letPass_30 : decode cX11_letPass 30 = .ok (.getfield 136, 3) := dk_i kdX11_letPass_0 13 rfl
theorem dX11_letPass_33 : decode cX11_letPass 33 = .ok (.ifCond .ne 5, 3) := dk_i kdX11_letPass_0 14 rfl
theorem dX11_letPass_36 : decode cX11_letPass 36 = .ok (.iconst 0, 1) := dk_i kdX11_letPass_0 15 rfl
def ldX11_letPass_37 : List (Nat × ClassFile.Instr × Nat) := [(37, .ireturn, 1), (38, .aload_n 0, 1), (39, .aload_n 0, 1), (40, .getfield 19, 3), (43, .getfield 139, 3), (46, .invokevirtual 376, 3), (49, .istore_n 1, 1), (50, .aload_n 0, 1), (51, .getfield 47, 3), (54, .iload_n 1, 1), (55, .aload_n 0, 1), (56, .aload_n 0, 1), (57, .getfield 19, 3), (60, .getfield 136, 3), (63, .invokevirtual 376, 3), (66, .invokevirtual 327, 3)]
theorem kdX11_letPass_37 : dkO cX11_letPass 37 ldX11_letPass_37 = true := by decide +kernel
theorem dX11_letPass_37 : decode cX11_letPass 37 = .ok (.ireturn, 1) := dk_i kdX11_letPass_37 0 rfl
theorem dX11_letPass_38 : decode cX11_letPass 38 = .ok (.aload_n 0, 1) := dk_i kdX11_letPass_37 1 rfl
theorem dX11_letPass_39 : decode cX11_letPass 39 = .ok (.aload_n 0, 1) := dk_i kdX11_letPass_37 2 rfl
theorem dX11_letPass_40 : decode cX11_letPass 40 = .ok (.getfield 19, 3) := dk_i kdX11_letPass_37 3 rfl
theorem dX11_letPass_43 : decode cX11_letPass 43 = .ok (.getfield 139, 3) := dk_i kdX11_letPass_37 4 rfl
theorem dX11_letPass_46 : decode cX11_letPass 46 = .ok (.invokevirtual 376, 3) := dk_i kdX11_letPass_37 5 rfl
theorem dX11_letPass_49 : decode cX11_letPass 49 = .ok (.istore_n 1, 1) := dk_i kdX11_letPass_37 6 rfl
theorem dX11_letPass_50 : decode cX11_letPass 50 = .ok (.aload_n 0, 1) := dk_i kdX11_letPass_37 7 rfl
theorem dX11_letPass_51 : decode cX11_letPass 51 = .ok (.getfield 47, 3) := dk_i kdX11_letPass_37 8 rfl
theorem dX11_letPass_54 : decode cX11_letPass 54 = .ok (.iload_n 1, 1) := dk_i kdX11_letPass_37 9 rfl
theorem dX11_letPass_55 : decode cX11_letPass 55 = .ok (.aload_n 0, 1) := dk_i kdX11_letPass_37 10 rfl
theorem dX11_letPass_56 : decode cX11_letPass 56 = .ok (.aload_n 0, 1) := dk_i kdX11_letPass_37 11 rfl
theorem dX11_letPass_57 : decode cX11_letPass 57 = .ok (.getfield 19, 3) := dk_i kdX11_letPass_37 12 rfl
theorem dX11_letPass_60 : decode cX11_letPass 60 = .ok (.getfield 136, 3) := dk_i kdX11_letPass_37 13 rfl
theorem dX11_letPass_63 : decode cX11_letPass 63 = .ok (.invokevirtual 376, 3) := dk_i kdX11_letPass_37 14 rfl
theorem dX11_letPass_66 : decode cX11_letPass 66 = .ok (.invokevirtual 327, 3) := dk_i kdX11_letPass_37 15 rfl
def ldX11_letPass_69 : List (Nat × ClassFile.Instr × Nat) := [(69, .iconst 1, 1), (70, .ireturn, 1)]
theorem kdX11_letPass_69 : dkO cX11_letPass 69 ldX11_letPass_69 = true := by decide +kernel
theorem dX11_letPass_69 : decode cX11_letPass 69 = .ok (.iconst 1, 1) := dk_i kdX11_letPass_69 0 rfl
theorem dX11_letPass_70 : decode cX11_letPass 70 = .ok (.ireturn, 1) := dk_i kdX11_letPass_69 1 rfl
