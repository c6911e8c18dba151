def ldX12_init_0 : List (Nat × ClassFile.Instr × Nat) := [(0, .aload_n 0, 1), (1, .invokespecial 1, 3), (4, .aload_n 0, 1), (5, .sipush 1800, 3), (8, .newarray .int, 2), (10, .putfield 7, 3), (13, .aload_n 0, 1), (14, .iconst 0, 1), (15, .putfield 13, 3), (18, .aload_n 0, 1), (19, .iconst 0, 1), (20, .putfield 17, 3), (23, .aload_n 0, 1), (24, .iconst 0, 1), (25, .putfield 20, 3), (28, .aload_n 0, 1)]
theorem kdX12_init_0 : dkO cX12_init 0 ldX12_init_0 = true := by decide +kernel
theorem dX12_init_0 : decode cX12_init 0 = .ok (.aload_n 0, 1) := dk_i kdX12_init_0 0 rfl
theorem dX12_init_1 : decode cX12_init 1 = .ok (.invokespecial 1, 3) := dk_i kdX12_init_0 1 rfl
theorem dX12_init_4 : decode cX12_init 4 = .ok (.aload_n 0, 1) := dk_i kdX12_init_0 2 rfl
theorem dX12_init_5 : decode cX12_init 5 = .ok (.sipush 1800, 3) := dk_i kdX12_init_0 3 rfl
theorem dX12_init_8 : decode cX12_init 8 = .ok (.newarray .int, 2) := dk_i kdX12_init_0 4 rfl
theorem dX12_init_10 : decode cX12_init 10 = .ok (.putfield 7, 3) := dk_i kdX12_init_0 5 rfl
theorem dX12_init_13 : decode cX12_init 13 = .ok (.aload_n 0, 1) := dk_i kdX12_init_0 6 rfl
theorem dX12_init_14 : decode cX12_init 14 = .ok (.iconst 0, 1) := dk_i kdX12_init_0 7 rfl
theorem dX12_init_15 : decode cX12_init 15 = .ok (.putfield 13, 3) := dk_i kdX12_init_0 8 rfl
theorem dX12_init_18 : decode cX12_init 18 = .ok (.aload_n 0, 1) := dk_i kdX12_init_0 9 rfl
theorem dX12_init_19 : decode cX12_init 19 = .ok (.iconst 0, 1) := dk_i kdX12_init_0 10 rfl
theorem dX12_init_20 : decode cX12_init 20 = .ok (.putfield 17, 3) := dk_i kdX12_init_0 11 rfl
theorem dX12_init_23 : decode cX12_init 23 = .ok (.aload_n 0, 1) := dk_i kdX12_init_0 12 rfl
theorem dX12_init_24 : decode cX12_init 24 = .ok (.iconst 0, 1) := dk_i kdX12_init_0 13 rfl
theorem dX12_init_25 : decode cX12_init 25 = .ok (.putfield 20, 3) := dk_i kdX12_init_0 14 rfl
theorem dX12_init_28 : decode cX12_init 28 = .ok (.aload_n 0, 1) := dk_i kdX12_init_0 15 rfl
def ldX12_init_29 : List (Nat × ClassFile.Instr × Nat) := [(29, .iconst 0, 1), (30, .putfield 23, 3), (33, .aload_n 0, 1), (34, .iconst 0, 1), (35, .putfield 26, 3), (38, .aload_n 0, 1), (39, .iconst 0, 1), (40, .putfield 29, 3), (43, .aload_n 0, 1), (44, .lconst 0, 1), (45, .putfield 32, 3), (48, .aload_n 0, 1), (49, .iconst 0, 1), (50, .putfield 36, 3), (53, .aload_n 0, 1), (54, .iconst (-1), 1)]
theorem kdX12_init_29 : dkO cX12_init 29 ldX12_init_29 = true := by decide +kernel
theorem dX12_init_29 : decode cX12_init 29 = .ok (.iconst 0, 1) := dk_i kdX12_init_29 0 rfl
theorem dX12_init_30 : decode cX12_init 30 = .ok (.putfield 23, 3) := dk_i kdX12_init_29 1 rfl
theorem dX12_init_33 : decode cX12_init 33 = .ok (.aload_n 0, 1) := dk_i kdX12_init_29 2 rfl
theorem dX12_init_34 : decode cX12_init 34 = .ok (.iconst 0, 1) := dk_i kdX12_init_29 3 rfl
theorem dX12_init_35 : decode cX12_init 35 = .ok (.putfield 26, 3) := dk_i kdX12_init_29 4 rfl
theorem dX12_init_38 : decode cX12_init 38 = .ok (.aload_n 0, 1) := dk_i kdX12_init_29 5 rfl
theorem dX12_init_39 : decode cX12_init 39 = .ok (.iconst 0, 1) := dk_i kdX12_init_29 6 rfl
theorem dX12_init_40 : decode cX12_init 40 = .ok (.putfield 29, 3) := dk_i kdX12_init_29 7 rfl
theorem dX12_init_43 : decode cX12_init 43 = .ok (.aload_n 0, 1) := dk_i kdX12_init_29 8 rfl
theorem dX12_init_44 : decode cX12_init 44 = .ok (.lconst 0, 1) := dk_i kdX12_init_29 9 rfl
theorem dX12_init_45 : decode cX12_init 45 = .ok (.putfield 32, 3) := dk_i kdX12_init_29 10 rfl
theorem dX12_init_48 : decode cX12_init 48 = .ok (.aload_n 0, 1) := dk_i kdX12_init_29 11 rfl
theorem dX12_init_49 : decode cX12_init 49 = .ok (.iconst 0, 1) := dk_i kdX12_init_29 12 rfl
theorem dX12_init_50 : decode cX12_init 50 = .ok (.putfield 36, 3) := dk_i kdX12_init_29 13 rfl
theorem dX12_init_53 : decode cX12_init 53 = .ok (.aload_n 0, 1) := dk_i kdX12_init_29 14 rfl
theorem dX12_init_54 : decode cX12_init 54 = .ok (.iconst (-1), 1) := dk_i kdX12_init_29 15 rfl
def ldX12_init_55 : List (Nat × ClassFile.Instr × Nat) := [(55, .putfield 39, 3), (58, .aload_n 0, 1), (59, .iconst 0, 1), (60, .putfield 42, 3), (63, .aload_n 0, 1), (64, .iconst (-1), 1), (65, .putfield 45, 3), (68, .aload_n 0, 1), (69, .iconst (-1), 1), (70, .putfield 48, 3), (73, .aload_n 0, 1), (74, .iconst 0, 1), (75, .putfield 51, 3), (78, .aload_n 0, 1), (79, .iconst 2, 1), (80, .newarray .int, 2)]
theorem kdX12_init_55 : dkO cX12_init 55 ldX12_init_55 = true := by decide +kernel
theorem dX12_init_55 : decode cX12_init 55 = .ok (.putfield 39, 3) := dk_i kdX12_init_55 0 rfl
theorem dX12_init_58 : decode cX12_init 58 = .ok (.aload_n 0, 1) := dk_i kdX12_init_55 1 rfl
theorem dX12_init_59 : decode cX12_init 59 = .ok (.iconst 0, 1) := dk_i kdX12_init_55 2 rfl
theorem dX12_init_60 : decode cX12_init 60 = .ok (.putfield 42, 3) := dk_i kdX12_init_55 3 rfl
theorem dX12_init_63 : decode cX12_init 63 = .ok (.aload_n 0, 1) := dk_i kdX12_init_55 4 rfl
theorem dX12_init_64 : decode cX12_init 64 = .ok (.iconst (-1), 1) := dk_i kdX12_init_55 5 rfl
theorem dX12_init_65 : decode cX12_init 65 = .ok (.putfield 45, 3) := dk_i kdX12_init_55 6 rfl
theorem dX12_init_68 : decode cX12_init 68 = .ok (.aload_n 0, 1) := dk_i kdX12_init_55 7 rfl
theorem dX12_init_69 : decode cX12_init 69 = .ok (.iconst (-1), 1) := dk_i kdX12_init_55 8 rfl
theorem dX12_init_70 : decode cX12_init 70 = .ok (.putfield 48, 3) := dk_i kdX12_init_55 9 rfl
theorem dX12_init_73 : decode cX12_init 73 = .ok (.aload_n 0, 1) := dk_i kdX12_init_55 10 rfl
theorem dX12_init_74 : decode cX12_init 74 = .ok (.iconst 0, 1) := dk_i kdX12_init_55 11 rfl
theorem dX12_init_75 : decode cX12_init 75 = .ok (.putfield 51, 3) := dk_i kdX12_init_55 12 rfl
theorem dX12_init_78 : decode cX12_init 78 = .ok (.aload_n 0, 1) := dk_i kdX12_init_55 13 rfl
theorem dX12_init_79 : decode cX12_init 79 = .ok (.iconst 2, 1) := dk_i kdX12_init_55 14 rfl
theorem dX12_init_80 : decode cX12_init 80 = .ok (.newarray .int, 2) := dk_i kdX12_init_55 15 rfl
def ldX12_init_82 : List (Nat × ClassFile.Instr × Nat) := [(82, .putfield 54, 3), (85, .aload_n 0, 1), (86, .bipush 12, 2), (88, .newarray .int, 2), (90, .putfield 57, 3), (93, .aload_n 0, 1), (94, .bipush 12, 2), (96, .newarray .int, 2), (98, .putfield 60, 3), (101, .aload_n 0, 1), (102, .iconst 2, 1), (103, .newarray .int, 2), (105, .putfield 63, 3), (108, .aload_n 0, 1), (109, .bipush 10, 2), (111, .newarray .int, 2)]
theorem kdX12_init_82 : dkO cX12_init 82 ldX12_init_82 = true := by decide +kernel
theorem dX12_init_82 : decode cX12_init 82 = .ok (.putfield 54, 3) := dk_i kdX12_init_82 0 rfl
theorem dX12_init_85 : decode cX12_init 85 = .ok (.aload_n 0, 1) := dk_i kdX12_init_82 1 rfl
theorem dX12_init_86 : decode cX12_init 86 = .ok (.bipush 12, 2) := dk_i kdX12_init_82 2 rfl
theorem dX12_init_88 : decode cX12_init 88 = .ok (.newarray .int, 2) := dk_i kdX12_init_82 3 rfl
theorem dX12_init_90 : decode cX12_init 90 = .ok (.putfield 57, 3) := dk_i kdX12_init_82 4 rfl
theorem dX12_init_93 : decode cX12_init 93 = .ok (.aload_n 0, 1) := dk_i kdX12_init_82 5 rfl
theorem dX12_init_94 : decode cX12_init 94 = .ok (.bipush 12, 2) := dk_i kdX12_init_82 6 rfl
theorem dX12_init_96 : decode cX12_init 96 = .ok (.newarray .int, 2) := dk_i kdX12_init_82 7 rfl
theorem dX12_init_98 : decode cX12_init 98 = .ok (.putfield 60, 3) := dk_i kdX12_init_82 8 rfl
theorem dX12_init_101 : decode cX12_init 101 = .ok (.aload_n 0, 1) := dk_i kdX12_init_82 9 rfl
theorem dX12_init_102 : decode cX12_init 102 = .ok (.iconst 2, 1) := dk_i kdX12_init_82 10 rfl
theorem dX12_init_103 : decode cX12_init 103 = .ok (.newarray .int, 2) := dk_i kdX12_init_82 11 rfl
theorem dX12_init_105 : decode cX12_init 105 = .ok (.putfield 63, 3) := dk_i kdX12_init_82 12 rfl
theorem dX12_init_108 : decode cX12_init 108 = .ok (.aload_n 0, 1) := dk_i kdX12_init_82 13 rfl
theorem dX12_init_109 : decode cX12_init 109 = .ok (.bipush 10, 2) := dk_i kdX12_init_82 14 rfl
theorem dX12_init_111 : decode cX12_init 111 = .ok (.newarray .int, 2) := dk_i kdX12_init_82 15 rfl
def ldX12_init_113 : List (Nat × ClassFile.Instr × Nat) := [(113, .putfield 66, 3), (116, .aload_n 0, 1), (117, .iconst 2, 1), (118, .newarray .int, 2), (120, .putfield 69, 3), (123, .aload_n 0, 1), (124, .bipush 50, 2), (126, .newarray .int, 2), (128, .putfield 72, 3), (131, .aload_n 0, 1), (132, .bipush 50, 2), (134, .newarray .int, 2), (136, .putfield 75, 3), (139, .aload_n 0, 1), (140, .iconst 2, 1), (141, .newarray .int, 2)]
theorem kdX12_init_113 : dkO cX12_init 113 ldX12_init_113 = true := by decide +kernel
theorem dX12_init_113 : decode cX12_init 113 = .ok (.putfield 66, 3) := dk_i kdX12_init_113 0 rfl
theorem dX12_init_116 : decode cX12_init 116 = .ok (.aload_n 0, 1) := dk_i kdX12_init_113 1 rfl
theorem dX12_init_117 : decode cX12_init 117 = .ok (.iconst 2, 1) := dk_i kdX12_init_113 2 rfl
theorem dX12_init_118 : decode cX12_init 118 = .ok (.newarray .int, 2) := dk_i kdX12_init_113 3 rfl
theorem dX12_init_120 : decode cX12_init 120 = .ok (.putfield 69, 3) := dk_i kdX12_init_113 4 rfl
theorem dX12_init_123 : decode cX12_init 123 = .ok (.aload_n 0, 1) := dk_i kdX12_init_113 5 rfl
theorem dX12_init_124 : decode cX12_init 124 = .ok (.bipush 50, 2) := dk_i kdX12_init_113 6 rfl
theorem dX12_init_126 : decode cX12_init 126 = .ok (.newarray .int, 2) := dk_i kdX12_init_113 7 rfl
theorem dX12_init_128 : decode cX12_init 128 = .ok (.putfield 72, 3) := dk_i kdX12_init_113 8 rfl
theorem dX12_init_131 : decode cX12_init 131 = .ok (.aload_n 0, 1) := dk_i kdX12_init_113 9 rfl
theorem dX12_init_132 : decode cX12_init 132 = .ok (.bipush 50, 2) := dk_i kdX12_init_113 10 rfl
theorem dX12_init_134 : decode cX12_init 134 = .ok (.newarray .int, 2) := dk_i kdX12_init_113 11 rfl
theorem dX12_init_136 : decode cX12_init 136 = .ok (.putfield 75, 3) := dk_i kdX12_init_113 12 rfl
theorem dX12_init_139 : decode cX12_init 139 = .ok (.aload_n 0, 1) := dk_i kdX12_init_113 13 rfl
theorem dX12_init_140 : decode cX12_init 140 = .ok (.iconst 2, 1) := dk_i kdX12_init_113 14 rfl
theorem dX12_init_141 : decode cX12_init 141 = .ok (.newarray .int, 2) := dk_i kdX12_init_113 15 rfl
def ldX12_init_143 : List (Nat × ClassFile.Instr × Nat) := [(143, .putfield 78, 3), (146, .aload_n 0, 1), (147, .bipush 12, 2), (149, .newarray .int, 2), (151, .putfield 81, 3), (154, .aload_n 0, 1), (155, .bipush 12, 2), (157, .newarray .int, 2), (159, .putfield 84, 3), (162, .aload_n 0, 1), (163, .iconst 2, 1), (164, .newarray .int, 2), (166, .putfield 87, 3), (169, .aload_n 0, 1), (170, .iconst 4, 1), (171, .newarray .int, 2)]
theorem kdX12_init_143 : dkO cX12_init 143 ldX12_init_143 = true := by decide +kernel
theorem dX12_init_143 : decode cX12_init 143 = .ok (.putfield 78, 3) := dk_i kdX12_init_143 0 rfl
theorem dX12_init_146 : decode cX12_init 146 = .ok (.aload_n 0, 1) := dk_i kdX12_init_143 1 rfl
theorem dX12_init_147 : decode cX12_init 147 = .ok (.bipush 12, 2) := dk_i kdX12_init_143 2 rfl
theorem dX12_init_149 : decode cX12_init 149 = .ok (.newarray .int, 2) := dk_i kdX12_init_143 3 rfl
theorem dX12_init_151 : decode cX12_init 151 = .ok (.putfield 81, 3) := dk_i kdX12_init_143 4 rfl
theorem dX12_init_154 : decode cX12_init 154 = .ok (.aload_n 0, 1) := dk_i kdX12_init_143 5 rfl
theorem dX12_init_155 : decode cX12_init 155 = .ok (.bipush 12, 2) := dk_i kdX12_init_143 6 rfl
theorem dX12_init_157 : decode cX12_init 157 = .ok (.newarray .int, 2) := dk_i kdX12_init_143 7 rfl
theorem dX12_init_159 : decode cX12_init 159 = .ok (.putfield 84, 3) := dk_i kdX12_init_143 8 rfl
theorem dX12_init_162 : decode cX12_init 162 = .ok (.aload_n 0, 1) := dk_i kdX12_init_143 9 rfl
theorem dX12_init_163 : decode cX12_init 163 = .ok (.iconst 2, 1) := dk_i kdX12_init_143 10 rfl
theorem dX12_init_164 : decode cX12_init 164 = .ok (.newarray .int, 2) := dk_i kdX12_init_143 11 rfl
theorem dX12_init_166 : decode cX12_init 166 = .ok (.putfield 87, 3) := dk_i kdX12_init_143 12 rfl
theorem dX12_init_169 : decode cX12_init 169 = .ok (.aload_n 0, 1) := dk_i kdX12_init_143 13 rfl
theorem dX12_init_170 : decode cX12_init 170 = .ok (.iconst 4, 1) := dk_i kdX12_init_143 14 rfl
theorem dX12_init_171 : decode cX12_init 171 = .ok (.newarray .int, 2) := dk_i kdX12_init_143 15 rfl
def ldX12_init_173 : List (Nat × ClassFile.Instr × Nat) := [(173, .putfield 90, 3), (176, .aload_n 0, 1), (177, .iconst 4, 1), (178, .newarray .int, 2), (180, .putfield 93, 3), (183, .aload_n 0, 1), (184, .sipush 3200, 3), (187, .newarray .int, 2), (189, .putfield 96, 3), (192, .aload_n 0, 1), (193, .sipush 3200, 3), (196, .newarray .int, 2), (198, .putfield 99, 3), (201, .aload_n 0, 1), (202, .bipush 12, 2), (204, .newarray .long, 2)]
theorem kdX12_init_173 : dkO cX12_init 173 ldX12_init_173 = true := by decide +kernel
theorem dX12_init_173 : decode cX12_init 173 = .ok (.putfield 90, 3) := dk_i kdX12_init_173 0 rfl
theorem dX12_init_176 : decode cX12_init 176 = .ok (.aload_n 0, 1) := dk_i kdX12_init_173 1 rfl
theorem dX12_init_177 : decode cX12_init 177 = .ok (.iconst 4, 1) := dk_i kdX12_init_173 2 rfl
theorem dX12_init_178 : decode cX12_init 178 = .ok (.newarray .int, 2) := dk_i kdX12_init_173 3 rfl
theorem dX12_init_180 : decode cX12_init 180 = .ok (.putfield 93, 3) := dk_i kdX12_init_173 4 rfl
theorem dX12_init_183 : decode cX12_init 183 = .ok (.aload_n 0, 1) := dk_i kdX12_init_173 5 rfl
theorem dX12_init_184 : decode cX12_init 184 = .ok (.sipush 3200, 3) := dk_i kdX12_init_173 6 rfl
theorem dX12_init_187 : decode cX12_init 187 = .ok (.newarray .int, 2) := dk_i kdX12_init_173 7 rfl
theorem dX12_init_189 : decode cX12_init 189 = .ok (.putfield 96, 3) := dk_i kdX12_init_173 8 rfl
theorem dX12_init_192 : decode cX12_init 192 = .ok (.aload_n 0, 1) := dk_i kdX12_init_173 9 rfl
theorem dX12_init_193 : decode cX12_init 193 = .ok (.sipush 3200, 3) := dk_i kdX12_init_173 10 rfl
theorem dX12_init_196 : decode cX12_init 196 = .ok (.newarray .int, 2) := dk_i kdX12_init_173 11 rfl
theorem dX12_init_198 : decode cX12_init 198 = .ok (.putfield 99, 3) := dk_i kdX12_init_173 12 rfl
theorem dX12_init_201 : decode cX12_init 201 = .ok (.aload_n 0, 1) := dk_i kdX12_init_173 13 rfl
theorem dX12_init_202 : decode cX12_init 202 = .ok (.bipush 12, 2) := dk_i kdX12_init_173 14 rfl
theorem dX12_init_204 : decode cX12_init 204 = .ok (.newarray .long, 2) := dk_i kdX12_init_173 15 rfl
def ldX12_init_206 : List (Nat × ClassFile.Instr × Nat) := [(206, .putfield 102, 3), (209, .aload_n 0, 1), (210, .bipush 10, 2), (212, .newarray .long, 2), (214, .putfield 106, 3), (217, .aload_n 0, 1), (218, .bipush 12, 2), (220, .newarray .long, 2), (222, .putfield 109, 3), (225, .aload_n 0, 1), (226, .iconst 0, 1), (227, .putfield 112, 3), (230, .aload_n 0, 1), (231, .iconst 1, 1), (232, .putfield 115, 3), (235, .aload_n 0, 1)]
theorem kdX12_init_206 : dkO cX12_init 206 ldX12_init_206 = true := by decide +kernel
theorem dX12_init_206 : decode cX12_init 206 = .ok (.putfield 102, 3) := dk_i kdX12_init_206 0 rfl
theorem dX12_init_209 : decode cX12_init 209 = .ok (.aload_n 0, 1) := dk_i kdX12_init_206 1 rfl
theorem dX12_init_210 : decode cX12_init 210 = .ok (.bipush 10, 2) := dk_i kdX12_init_206 2 rfl
theorem dX12_init_212 : decode cX12_init 212 = .ok (.newarray .long, 2) := dk_i kdX12_init_206 3 rfl
theorem dX12_init_214 : decode cX12_init 214 = .ok (.putfield 106, 3) := dk_i kdX12_init_206 4 rfl
theorem dX12_init_217 : decode cX12_init 217 = .ok (.aload_n 0, 1) := dk_i kdX12_init_206 5 rfl
theorem dX12_init_218 : decode cX12_init 218 = .ok (.bipush 12, 2) := dk_i kdX12_init_206 6 rfl
theorem dX12_init_220 : decode cX12_init 220 = .ok (.newarray .long, 2) := dk_i kdX12_init_206 7 rfl
theorem dX12_init_222 : decode cX12_init 222 = .ok (.putfield 109, 3) := dk_i kdX12_init_206 8 rfl
theorem dX12_init_225 : decode cX12_init 225 = .ok (.aload_n 0, 1) := dk_i kdX12_init_206 9 rfl
theorem dX12_init_226 : decode cX12_init 226 = .ok (.iconst 0, 1) := dk_i kdX12_init_206 10 rfl
theorem dX12_init_227 : decode cX12_init 227 = .ok (.putfield 112, 3) := dk_i kdX12_init_206 11 rfl
theorem dX12_init_230 : decode cX12_init 230 = .ok (.aload_n 0, 1) := dk_i kdX12_init_206 12 rfl
theorem dX12_init_231 : decode cX12_init 231 = .ok (.iconst 1, 1) := dk_i kdX12_init_206 13 rfl
theorem dX12_init_232 : decode cX12_init 232 = .ok (.putfield 115, 3) := dk_i kdX12_init_206 14 rfl
theorem dX12_init_235 : decode cX12_init 235 = .ok (.aload_n 0, 1) := dk_i kdX12_init_206 15 rfl
def ldX12_init_236 : List (Nat × ClassFile.Instr × Nat) := [(236, .iconst 0, 1), (237, .putfield 118, 3), (240, .aload_n 0, 1), (241, .bipush 20, 2), (243, .newarray .int, 2), (245, .putfield 122, 3), (248, .aload_n 0, 1), (249, .bipush 20, 2), (251, .newarray .int, 2), (253, .putfield 125, 3), (256, .aload_n 0, 1), (257, .bipush 20, 2), (259, .newarray .boolean, 2), (261, .putfield 128, 3), (264, .aload_n 0, 1), (265, .bipush 20, 2)]
theorem kdX12_init_236 : dkO cX12_init 236 ldX12_init_236 = true := by decide +kernel
theorem dX12_init_236 : decode cX12_init 236 = .ok (.iconst 0, 1) := dk_i kdX12_init_236 0 rfl
theorem dX12_init_237 : decode cX12_init 237 = .ok (.putfield 118, 3) := dk_i kdX12_init_236 1 rfl
theorem dX12_init_240 : decode cX12_init 240 = .ok (.aload_n 0, 1) := dk_i kdX12_init_236 2 rfl
theorem dX12_init_241 : decode cX12_init 241 = .ok (.bipush 20, 2) := dk_i kdX12_init_236 3 rfl
theorem dX12_init_243 : decode cX12_init 243 = .ok (.newarray .int, 2) := dk_i kdX12_init_236 4 rfl
theorem dX12_init_245 : decode cX12_init 245 = .ok (.putfield 122, 3) := dk_i kdX12_init_236 5 rfl
theorem dX12_init_248 : decode cX12_init 248 = .ok (.aload_n 0, 1) := dk_i kdX12_init_236 6 rfl
theorem dX12_init_249 : decode cX12_init 249 = .ok (.bipush 20, 2) := dk_i kdX12_init_236 7 rfl
theorem dX12_init_251 : decode cX12_init 251 = .ok (.newarray .int, 2) := dk_i kdX12_init_236 8 rfl
theorem dX12_init_253 : decode cX12_init 253 = .ok (.putfield 125, 3) := dk_i kdX12_init_236 9 rfl
theorem dX12_init_256 : decode cX12_init 256 = .ok (.aload_n 0, 1) := dk_i kdX12_init_236 10 rfl
theorem dX12_init_257 : decode cX12_init 257 = .ok (.bipush 20, 2) := dk_i kdX12_init_236 11 rfl
theorem dX12_init_259 : decode cX12_init 259 = .ok (.newarray .boolean, 2) := dk_i kdX12_init_236 12 rfl
theorem dX12_init_261 : decode cX12_init 261 = .ok (.putfield 128, 3) := dk_i kdX12_init_236 13 rfl
theorem dX12_init_264 : decode cX12_init 264 = .ok (.aload_n 0, 1) := dk_i kdX12_init_236 14 rfl
theorem dX12_init_265 : decode cX12_init 265 = .ok (.bipush 20, 2) := dk_i kdX12_init_236 15 rfl
def ldX12_init_267 : List (Nat × ClassFile.Instr × Nat) := [(267, .newarray .int, 2), (269, .putfield 132, 3), (272, .aload_n 0, 1), (273, .bipush 20, 2), (275, .newarray .int, 2), (277, .putfield 135, 3), (280, .aload_n 0, 1), (281, .iconst 0, 1), (282, .putfield 138, 3), (285, .aload_n 0, 1), (286, .iconst 0, 1), (287, .putfield 141, 3), (290, .aload_n 0, 1), (291, .sipush 500, 3), (294, .newarray .int, 2), (296, .putfield 144, 3)]
theorem kdX12_init_267 : dkO cX12_init 267 ldX12_init_267 = true := by decide +kernel
theorem dX12_init_267 : decode cX12_init 267 = .ok (.newarray .int, 2) := dk_i kdX12_init_267 0 rfl
theorem dX12_init_269 : decode cX12_init 269 = .ok (.putfield 132, 3) := dk_i kdX12_init_267 1 rfl
theorem dX12_init_272 : decode cX12_init 272 = .ok (.aload_n 0, 1) := dk_i kdX12_init_267 2 rfl
theorem dX12_init_273 : decode cX12_init 273 = .ok (.bipush 20, 2) := dk_i kdX12_init_267 3 rfl
theorem dX12_init_275 : decode cX12_init 275 = .ok (.newarray .int, 2) := dk_i kdX12_init_267 4 rfl
theorem dX12_init_277 : decode cX12_init 277 = .ok (.putfield 135, 3) := dk_i kdX12_init_267 5 rfl
theorem dX12_init_280 : decode cX12_init 280 = .ok (.aload_n 0, 1) := dk_i kdX12_init_267 6 rfl
theorem dX12_init_281 : decode cX12_init 281 = .ok (.iconst 0, 1) := dk_i kdX12_init_267 7 rfl
theorem dX12_init_282 : decode cX12_init 282 = .ok (.putfield 138, 3) := dk_i kdX12_init_267 8 rfl
theorem dX12_init_285 : decode cX12_init 285 = .ok (.aload_n 0, 1) := dk_i kdX12_init_267 9 rfl
theorem dX12_init_286 : decode cX12_init 286 = .ok (.iconst 0, 1) := dk_i kdX12_init_267 10 rfl
theorem dX12_init_287 : decode cX12_init 287 = .ok (.putfield 141, 3) := dk_i kdX12_init_267 11 rfl
theorem dX12_init_290 : decode cX12_init 290 = .ok (.aload_n 0, 1) := dk_i kdX12_init_267 12 rfl
theorem dX12_init_291 : decode cX12_init 291 = .ok (.sipush 500, 3) := dk_i kdX12_init_267 13 rfl
theorem dX12_init_294 : decode cX12_init 294 = .ok (.newarray .int, 2) := dk_i kdX12_init_267 14 rfl
theorem dX12_init_296 : decode cX12_init 296 = .ok (.putfield 144, 3) := dk_i kdX12_init_267 15 rfl
def ldX12_init_299 : List (Nat × ClassFile.Instr × Nat) := [(299, .aload_n 0, 1), (300, .iconst 0, 1), (301, .putfield 147, 3), (304, .aload_n 0, 1), (305, .iconst 0, 1), (306, .putfield 150, 3), (309, .aload_n 0, 1), (310, .bipush 6, 2), (312, .newarray .int, 2), (314, .putfield 153, 3), (317, .aload_n 0, 1), (318, .bipush 22, 2), (320, .newarray .int, 2), (322, .putfield 156, 3), (325, .aload_n 0, 1), (326, .bipush 110, 2)]
theorem kdX12_init_299 : dkO cX12_init 299 ldX12_init_299 = true := by decide +kernel
theorem dX12_init_299 : decode cX12_init 299 = .ok (.aload_n 0, 1) := dk_i kdX12_init_299 0 rfl
theorem dX12_init_300 : decode cX12_init 300 = .ok (.iconst 0, 1) := dk_i kdX12_init_299 1 rfl
theorem dX12_init_301 : decode cX12_init 301 = .ok (.putfield 147, 3) := dk_i kdX12_init_299 2 rfl
theorem dX12_init_304 : decode cX12_init 304 = .ok (.aload_n 0, 1) := dk_i kdX12_init_299 3 rfl
theorem dX12_init_305 : decode cX12_init 305 = .ok (.iconst 0, 1) := dk_i kdX12_init_299 4 rfl
theorem dX12_init_306 : decode cX12_init 306 = .ok (.putfield 150, 3) := dk_i kdX12_init_299 5 rfl
theorem dX12_init_309 : decode cX12_init 309 = .ok (.aload_n 0, 1) := dk_i kdX12_init_299 6 rfl
theorem dX12_init_310 : decode cX12_init 310 = .ok (.bipush 6, 2) := dk_i kdX12_init_299 7 rfl
theorem dX12_init_312 : decode cX12_init 312 = .ok (.newarray .int, 2) := dk_i kdX12_init_299 8 rfl
theorem dX12_init_314 : decode cX12_init 314 = .ok (.putfield 153, 3) := dk_i kdX12_init_299 9 rfl
theorem dX12_init_317 : decode cX12_init 317 = .ok (.aload_n 0, 1) := dk_i kdX12_init_299 10 rfl
theorem dX12_init_318 : decode cX12_init 318 = .ok (.bipush 22, 2) := dk_i kdX12_init_299 11 rfl
theorem dX12_init_320 : decode cX12_init 320 = .ok (.newarray .int, 2) := dk_i kdX12_init_299 12 rfl
theorem dX12_init_322 : decode cX12_init 322 = .ok (.putfield 156, 3) := dk_i kdX12_init_299 13 rfl
theorem dX12_init_325 : decode cX12_init 325 = .ok (.aload_n 0, 1) := dk_i kdX12_init_299 14 rfl
theorem dX12_init_326 : decode cX12_init 326 = .ok (.bipush 110, 2) := dk_i kdX12_init_299 15 rfl
def ldX12_init_328 : List (Nat × ClassFile.Instr × Nat) := [(328, .newarray .int, 2), (330, .putfield 159, 3), (333, .aload_n 0, 1), (334, .bipush 110, 2), (336, .newarray .int, 2), (338, .putfield 162, 3), (341, .aload_n 0, 1), (342, .bipush 22, 2), (344, .newarray .int, 2), (346, .putfield 165, 3), (349, .aload_n 0, 1), (350, .bipush 22, 2), (352, .newarray .int, 2), (354, .putfield 168, 3), (357, .aload_n 0, 1), (358, .sipush 1760, 3)]
theorem kdX12_init_328 : dkO cX12_init 328 ldX12_init_328 = true := by decide +kernel
theorem dX12_init_328 : decode cX12_init 328 = .ok (.newarray .int, 2) := dk_i kdX12_init_328 0 rfl
theorem dX12_init_330 : decode cX12_init 330 = .ok (.putfield 159, 3) := dk_i kdX12_init_328 1 rfl
theorem dX12_init_333 : decode cX12_init 333 = .ok (.aload_n 0, 1) := dk_i kdX12_init_328 2 rfl
theorem dX12_init_334 : decode cX12_init 334 = .ok (.bipush 110, 2) := dk_i kdX12_init_328 3 rfl
theorem dX12_init_336 : decode cX12_init 336 = .ok (.newarray .int, 2) := dk_i kdX12_init_328 4 rfl
theorem dX12_init_338 : decode cX12_init 338 = .ok (.putfield 162, 3) := dk_i kdX12_init_328 5 rfl
theorem dX12_init_341 : decode cX12_init 341 = .ok (.aload_n 0, 1) := dk_i kdX12_init_328 6 rfl
theorem dX12_init_342 : decode cX12_init 342 = .ok (.bipush 22, 2) := dk_i kdX12_init_328 7 rfl
theorem dX12_init_344 : decode cX12_init 344 = .ok (.newarray .int, 2) := dk_i kdX12_init_328 8 rfl
theorem dX12_init_346 : decode cX12_init 346 = .ok (.putfield 165, 3) := dk_i kdX12_init_328 9 rfl
theorem dX12_init_349 : decode cX12_init 349 = .ok (.aload_n 0, 1) := dk_i kdX12_init_328 10 rfl
theorem dX12_init_350 : decode cX12_init 350 = .ok (.bipush 22, 2) := dk_i kdX12_init_328 11 rfl
theorem dX12_init_352 : decode cX12_init 352 = .ok (.newarray .int, 2) := dk_i kdX12_init_328 12 rfl
theorem dX12_init_354 : decode cX12_init 354 = .ok (.putfield 168, 3) := dk_i kdX12_init_328 13 rfl
theorem dX12_init_357 : decode cX12_init 357 = .ok (.aload_n 0, 1) := dk_i kdX12_init_328 14 rfl
theorem dX12_init_358 : decode cX12_init 358 = .ok (.sipush 1760, 3) := dk_i kdX12_init_328 15 rfl
def ldX12_init_361 : List (Nat × ClassFile.Instr × Nat) := [(361, .newarray .int, 2), (363, .putfield 171, 3), (366, .aload_n 0, 1), (367, .iconst 0, 1), (368, .putfield 174, 3), (371, .aload_n 0, 1), (372, .iconst 0, 1), (373, .putfield 177, 3), (376, .aload_n 0, 1), (377, .lconst 1, 1), (378, .putfield 180, 3), (381, .aload_n 0, 1), (382, .sipush 500, 3), (385, .newarray .long, 2), (387, .putfield 183, 3), (390, .aload_n 0, 1)]
theorem kdX12_init_361 : dkO cX12_init 361 ldX12_init_361 = true := by decide +kernel
theorem dX12_init_361 : decode cX12_init 361 = .ok (.newarray .int, 2) := dk_i kdX12_init_361 0 rfl
theorem dX12_init_363 : decode cX12_init 363 = .ok (.putfield 171, 3) := dk_i kdX12_init_361 1 rfl
theorem dX12_init_366 : decode cX12_init 366 = .ok (.aload_n 0, 1) := dk_i kdX12_init_361 2 rfl
theorem dX12_init_367 : decode cX12_init 367 = .ok (.iconst 0, 1) := dk_i kdX12_init_361 3 rfl
theorem dX12_init_368 : decode cX12_init 368 = .ok (.putfield 174, 3) := dk_i kdX12_init_361 4 rfl
theorem dX12_init_371 : decode cX12_init 371 = .ok (.aload_n 0, 1) := dk_i kdX12_init_361 5 rfl
theorem dX12_init_372 : decode cX12_init 372 = .ok (.iconst 0, 1) := dk_i kdX12_init_361 6 rfl
theorem dX12_init_373 : decode cX12_init 373 = .ok (.putfield 177, 3) := dk_i kdX12_init_361 7 rfl
theorem dX12_init_376 : decode cX12_init 376 = .ok (.aload_n 0, 1) := dk_i kdX12_init_361 8 rfl
theorem dX12_init_377 : decode cX12_init 377 = .ok (.lconst 1, 1) := dk_i kdX12_init_361 9 rfl
theorem dX12_init_378 : decode cX12_init 378 = .ok (.putfield 180, 3) := dk_i kdX12_init_361 10 rfl
theorem dX12_init_381 : decode cX12_init 381 = .ok (.aload_n 0, 1) := dk_i kdX12_init_361 11 rfl
theorem dX12_init_382 : decode cX12_init 382 = .ok (.sipush 500, 3) := dk_i kdX12_init_361 12 rfl
theorem dX12_init_385 : decode cX12_init 385 = .ok (.newarray .long, 2) := dk_i kdX12_init_361 13 rfl
theorem dX12_init_387 : decode cX12_init 387 = .ok (.putfield 183, 3) := dk_i kdX12_init_361 14 rfl
theorem dX12_init_390 : decode cX12_init 390 = .ok (.aload_n 0, 1) := dk_i kdX12_init_361 15 rfl
def ldX12_init_391 : List (Nat × ClassFile.Instr × Nat) := [(391, .bipush 10, 2), (393, .newarray .int, 2), (395, .putfield 186, 3), (398, .aload_n 0, 1), (399, .iconst 5, 1), (400, .newarray .int, 2), (402, .putfield 189, 3), (405, .aload_n 0, 1), (406, .iconst 5, 1), (407, .newarray .int, 2), (409, .putfield 192, 3), (412, .aload_n 0, 1), (413, .bipush 61, 2), (415, .newarray .int, 2), (417, .putfield 195, 3), (420, .aload_n 0, 1)]
theorem kdX12_init_391 : dkO cX12_init 391 ldX12_init_391 = true := by decide +kernel
theorem dX12_init_391 : decode cX12_init 391 = .ok (.bipush 10, 2) := dk_i kdX12_init_391 0 rfl
theorem dX12_init_393 : decode cX12_init 393 = .ok (.newarray .int, 2) := dk_i kdX12_init_391 1 rfl
theorem dX12_init_395 : decode cX12_init 395 = .ok (.putfield 186, 3) := dk_i kdX12_init_391 2 rfl
theorem dX12_init_398 : decode cX12_init 398 = .ok (.aload_n 0, 1) := dk_i kdX12_init_391 3 rfl
theorem dX12_init_399 : decode cX12_init 399 = .ok (.iconst 5, 1) := dk_i kdX12_init_391 4 rfl
theorem dX12_init_400 : decode cX12_init 400 = .ok (.newarray .int, 2) := dk_i kdX12_init_391 5 rfl
theorem dX12_init_402 : decode cX12_init 402 = .ok (.putfield 189, 3) := dk_i kdX12_init_391 6 rfl
theorem dX12_init_405 : decode cX12_init 405 = .ok (.aload_n 0, 1) := dk_i kdX12_init_391 7 rfl
theorem dX12_init_406 : decode cX12_init 406 = .ok (.iconst 5, 1) := dk_i kdX12_init_391 8 rfl
theorem dX12_init_407 : decode cX12_init 407 = .ok (.newarray .int, 2) := dk_i kdX12_init_391 9 rfl
theorem dX12_init_409 : decode cX12_init 409 = .ok (.putfield 192, 3) := dk_i kdX12_init_391 10 rfl
theorem dX12_init_412 : decode cX12_init 412 = .ok (.aload_n 0, 1) := dk_i kdX12_init_391 11 rfl
theorem dX12_init_413 : decode cX12_init 413 = .ok (.bipush 61, 2) := dk_i kdX12_init_391 12 rfl
theorem dX12_init_415 : decode cX12_init 415 = .ok (.newarray .int, 2) := dk_i kdX12_init_391 13 rfl
theorem dX12_init_417 : decode cX12_init 417 = .ok (.putfield 195, 3) := dk_i kdX12_init_391 14 rfl
theorem dX12_init_420 : decode cX12_init 420 = .ok (.aload_n 0, 1) := dk_i kdX12_init_391 15 rfl
def ldX12_init_421 : List (Nat × ClassFile.Instr × Nat) := [(421, .iconst 0, 1), (422, .putfield 198, 3), (425, .aload_n 0, 1), (426, .bipush 16, 2), (428, .newarray .int, 2), (430, .putfield 201, 3), (433, .aload_n 0, 1), (434, .bipush 16, 2), (436, .newarray .int, 2), (438, .putfield 204, 3), (441, .aload_n 0, 1), (442, .bipush 16, 2), (444, .newarray .int, 2), (446, .putfield 207, 3), (449, .aload_n 0, 1), (450, .sipush 287, 3)]
theorem kdX12_init_421 : dkO cX12_init 421 ldX12_init_421 = true := by decide +kernel
theorem dX12_init_421 : decode cX12_init 421 = .ok (.iconst 0, 1) := dk_i kdX12_init_421 0 rfl
theorem dX12_init_422 : decode cX12_init 422 = .ok (.putfield 198, 3) := dk_i kdX12_init_421 1 rfl
theorem dX12_init_425 : decode cX12_init 425 = .ok (.aload_n 0, 1) := dk_i kdX12_init_421 2 rfl
theorem dX12_init_426 : decode cX12_init 426 = .ok (.bipush 16, 2) := dk_i kdX12_init_421 3 rfl
theorem dX12_init_428 : decode cX12_init 428 = .ok (.newarray .int, 2) := dk_i kdX12_init_421 4 rfl
theorem dX12_init_430 : decode cX12_init 430 = .ok (.putfield 201, 3) := dk_i kdX12_init_421 5 rfl
theorem dX12_init_433 : decode cX12_init 433 = .ok (.aload_n 0, 1) := dk_i kdX12_init_421 6 rfl
theorem dX12_init_434 : decode cX12_init 434 = .ok (.bipush 16, 2) := dk_i kdX12_init_421 7 rfl
theorem dX12_init_436 : decode cX12_init 436 = .ok (.newarray .int, 2) := dk_i kdX12_init_421 8 rfl
theorem dX12_init_438 : decode cX12_init 438 = .ok (.putfield 204, 3) := dk_i kdX12_init_421 9 rfl
theorem dX12_init_441 : decode cX12_init 441 = .ok (.aload_n 0, 1) := dk_i kdX12_init_421 10 rfl
theorem dX12_init_442 : decode cX12_init 442 = .ok (.bipush 16, 2) := dk_i kdX12_init_421 11 rfl
theorem dX12_init_444 : decode cX12_init 444 = .ok (.newarray .int, 2) := dk_i kdX12_init_421 12 rfl
theorem dX12_init_446 : decode cX12_init 446 = .ok (.putfield 207, 3) := dk_i kdX12_init_421 13 rfl
theorem dX12_init_449 : decode cX12_init 449 = .ok (.aload_n 0, 1) := dk_i kdX12_init_421 14 rfl
theorem dX12_init_450 : decode cX12_init 450 = .ok (.sipush 287, 3) := dk_i kdX12_init_421 15 rfl
def ldX12_init_453 : List (Nat × ClassFile.Instr × Nat) := [(453, .newarray .int, 2), (455, .putfield 210, 3), (458, .aload_n 0, 1), (459, .bipush 40, 2), (461, .newarray .int, 2), (463, .putfield 213, 3), (466, .aload_n 0, 1), (467, .iconst 0, 1), (468, .putfield 216, 3), (471, .iconst 0, 1), (472, .istore_n 1, 1), (473, .iload_n 1, 1), (474, .iconst 4, 1), (475, .if_icmp .ge 16, 3), (478, .aload_n 0, 1), (479, .getfield 90, 3)]
theorem kdX12_init_453 : dkO cX12_init 453 ldX12_init_453 = true := by decide +kernel
theorem dX12_init_453 : decode cX12_init 453 = .ok (.newarray .int, 2) := dk_i kdX12_init_453 0 rfl
theorem dX12_init_455 : decode cX12_init 455 = .ok (.putfield 210, 3) := dk_i kdX12_init_453 1 rfl
theorem dX12_init_458 : decode cX12_init 458 = .ok (.aload_n 0, 1) := dk_i kdX12_init_453 2 rfl
theorem dX12_init_459 : decode cX12_init 459 = .ok (.bipush 40, 2) := dk_i kdX12_init_453 3 rfl
theorem dX12_init_461 : decode cX12_init 461 = .ok (.newarray .int, 2) := dk_i kdX12_init_453 4 rfl
theorem dX12_init_463 : decode cX12_init 463 = .ok (.putfield 213, 3) := dk_i kdX12_init_453 5 rfl
theorem dX12_init_466 : decode cX12_init 466 = .ok (.aload_n 0, 1) := dk_i kdX12_init_453 6 rfl
theorem dX12_init_467 : decode cX12_init 467 = .ok (.iconst 0, 1) := dk_i kdX12_init_453 7 rfl
theorem dX12_init_468 : decode cX12_init 468 = .ok (.putfield 216, 3) := dk_i kdX12_init_453 8 rfl
theorem dX12_init_471 : decode cX12_init 471 = .ok (.iconst 0, 1) := dk_i kdX12_init_453 9 rfl
theorem dX12_init_472 : decode cX12_init 472 = .ok (.istore_n 1, 1) := dk_i kdX12_init_453 10 rfl
theorem dX12_init_473 : decode cX12_init 473 = .ok (.iload_n 1, 1) := dk_i kdX12_init_453 11 rfl
theorem dX12_init_474 : decode cX12_init 474 = .ok (.iconst 4, 1) := dk_i kdX12_init_453 12 rfl
theorem dX12_init_475 : decode cX12_init 475 = .ok (.if_icmp .ge 16, 3) := dk_i kdX12_init_453 13 rfl
theorem dX12_init_478 : decode cX12_init 478 = .ok (.aload_n 0, 1) := dk_i kdX12_init_453 14 rfl
theorem dX12_init_479 : decode cX12_init 479 = .ok (.getfield 90, 3) := dk_i kdX12_init_453 15 rfl
def ldX12_init_482 : List (Nat × ClassFile.Instr × Nat) := [(482, .iload_n 1, 1), (483, .iconst (-1), 1), (484, .iastore, 1), (485, .iinc 1 1, 3), (488, .goto (-15), 3), (491, .return_, 1)]
theorem kdX12_init_482 : dkO cX12_init 482 ldX12_init_482 = true := by decide +kernel
theorem dX12_init_482 : decode cX12_init 482 = .ok (.iload_n 1, 1) := dk_i kdX12_init_482 0 rfl
theorem dX12_init_483 : decode cX12_init 483 = .ok (.iconst (-1), 1) := dk_i kdX12_init_482 1 rfl
theorem dX12_init_484 : decode cX12_init 484 = .ok (.iastore, 1) := dk_i kdX12_init_482 2 rfl
theorem dX12_init_485 : decode cX12_init 485 = .ok (.iinc 1 1, 3) := dk_i kdX12_init_482 3 rfl
theorem dX12_init_488 : decode cX12_init 488 = .ok (.goto (-15), 3) := dk_i kdX12_init_482 4 rfl
theorem dX12_init_491 : decode cX12_init 491 = .ok (.return_, 1) := dk_i kdX12_init_482 5 rfl
def ldX12_is_0 : List (Nat × ClassFile.Instr × Nat) := [(0, .iload_n 0, 1), (1, .iload_n 1, 1), (2, .if_icmp .lt 12, 3), (5, .iload_n 0, 1), (6, .iload_n 2, 1), (7, .if_icmp .gt 7, 3), (10, .iconst 1, 1), (11, .goto 4, 3), (14, .iconst 0, 1), (15, .ireturn, 1)]
theorem kdX12_is_0 : dkO cX12_is 0 ldX12_is_0 = true := by decide +kernel
theorem dX12_is_0 : decode cX12_is 0 = .ok (.iload_n 0, 1) := dk_i kdX12_is_0 0 rfl
theorem dX12_is_1 : decode cX12_is 1 = .ok (.iload_n 1, 1) := dk_i kdX12_is_0 1 rfl
theorem dX12_is_2 : decode cX12_is 2 = .ok (.if_icmp .lt 12, 3) := dk_i kdX12_is_0 2 rfl
theorem dX12_is_5 : decode cX12_is 5 = .ok (.iload_n 0, 1) := dk_i kdX12_is_0 3 rfl
theorem dX12_is_6 : decode cX12_is 6 = .ok (.iload_n 2, 1) := dk_i kdX12_is_0 4 rfl
theorem dX12_is_7 : decode cX12_is 7 = .ok (.if_icmp .gt 7, 3) := dk_i kdX12_is_0 5 rfl
theorem dX12_is_10 : decode cX12_is 10 = .ok (.iconst 1, 1) := dk_i kdX12_is_0 6 rfl
theorem dX12_is_11 : decode cX12_is 11 = .ok (.goto 4, 3) := dk_i kdX12_is_0 7 rfl
theorem dX12_is_14 : decode cX12_is 14 = .ok (.iconst 0, 1) := dk_i kdX12_is_0 8 rfl
theorem dX12_is_15 : decode cX12_is 15 = .ok (.ireturn, 1) := dk_i kdX12_is_0 9 rfl
def ldX12_put_0 : List (Nat × ClassFile.Instr × Nat) := [(0, .bipush 24, 2), (2, .istore_n 2, 1), (3, .iload_n 2, 1), (4, .ifCond .lt 35, 3), (7, .aload_n 0, 1), (8, .getfield 7, 3), (11, .aload_n 0, 1), (12, .getfield 13, 3), (15, .iload_n 1, 1), (16, .iload_n 2, 1), (17, .ishr, 1), (18, .sipush 255, 3), (21, .iand, 1), (22, .iastore, 1), (23, .aload_n 0, 1), (24, .dup, 1)]
theorem kdX12_put_0 : dkO cX12_put 0 ldX12_put_0 = true := by decide +kernel
theorem dX12_put_0 : decode cX12_put 0 = .ok (.bipush 24, 2) := dk_i kdX12_put_0 0 rfl
theorem dX12_put_2 : decode cX12_put 2 = .ok (.istore_n 2, 1) := dk_i kdX12_put_0 1 rfl
theorem dX12_put_3 : decode cX12_put 3 = .ok (.iload_n 2, 1) := dk_i kdX12_put_0 2 rfl
theorem dX12_put_4 : decode cX12_put 4 = .ok (.ifCond .lt 35, 3) := dk_i kdX12_put_0 3 rfl
theorem dX12_put_7 : decode cX12_put 7 = .ok (.aload_n 0, 1) := dk_i kdX12_put_0 4 rfl
theorem dX12_put_8 : decode cX12_put 8 = .ok (.getfield 7, 3) := dk_i kdX12_put_0 5 rfl
theorem dX12_put_11 : decode cX12_put 11 = .ok (.aload_n 0, 1) := dk_i kdX12_put_0 6 rfl
theorem dX12_put_12 : decode cX12_put 12 = .ok (.getfield 13, 3) := dk_i kdX12_put_0 7 rfl
theorem dX12_put_15 : decode cX12_put 15 = .ok (.iload_n 1, 1) := dk_i kdX12_put_0 8 rfl
theorem dX12_put_16 : decode cX12_put 16 = .ok (.iload_n 2, 1) := dk_i kdX12_put_0 9 rfl
theorem dX12_put_17 : decode cX12_put 17 = .ok (.ishr, 1) := dk_i kdX12_put_0 10 rfl
theorem dX12_put_18 : decode cX12_put 18 = .ok (.sipush 255, 3) := dk_i kdX12_put_0 11 rfl
theorem dX12_put_21 : decode cX12_put 21 = .ok (.iand, 1) := dk_i kdX12_put_0 12 rfl
theorem dX12_put_22 : decode cX12_put 22 = .ok (.iastore, 1) := dk_i kdX12_put_0 13 rfl
theorem dX12_put_23 : decode cX12_put 23 = .ok (.aload_n 0, 1) := dk_i kdX12_put_0 14 rfl
theorem dX12_put_24 : decode cX12_put 24 = .ok (.dup, 1) := dk_i kdX12_put_0 15 rfl
def ldX12_put_25 : List (Nat × ClassFile.Instr × Nat) := [(25, .getfield 13, 3), (28, .iconst 1, 1), (29, .iadd, 1), (30, .putfield 13, 3), (33, .iinc 2 (-8), 3), (36, .goto (-33), 3), (39, .return_, 1)]
theorem kdX12_put_25 : dkO cX12_put 25 ldX12_put_25 = true := by decide +kernel
theorem dX12_put_25 : decode cX12_put 25 = .ok (.getfield 13, 3) := dk_i kdX12_put_25 0 rfl
theorem dX12_put_28 : decode cX12_put 28 = .ok (.iconst 1, 1) := dk_i kdX12_put_25 1 rfl
theorem dX12_put_29 : decode cX12_put 29 = .ok (.iadd, 1) := dk_i kdX12_put_25 2 rfl
theorem dX12_put_30 : decode cX12_put 30 = .ok (.putfield 13, 3) := dk_i kdX12_put_25 3 rfl
theorem dX12_put_33 : decode cX12_put 33 = .ok (.iinc 2 (-8), 3) := dk_i kdX12_put_25 4 rfl
theorem dX12_put_36 : decode cX12_put 36 = .ok (.goto (-33), 3) := dk_i kdX12_put_25 5 rfl
theorem dX12_put_39 : decode cX12_put 39 = .ok (.return_, 1) := dk_i kdX12_put_25 6 rfl
def ldX12_feed_0 : List (Nat × ClassFile.Instr × Nat) := [(0, .aload_n 0, 1), (1, .getfield 13, 3), (4, .bipush 20, 2), (6, .iadd, 1), (7, .sipush 1600, 3), (10, .if_icmp .le 9, 3), (13, .aload_n 0, 1), (14, .iconst 0, 1), (15, .invokevirtual 219, 3), (18, .ireturn, 1), (19, .aload_n 0, 1), (20, .iload_n 1, 1), (21, .invokevirtual 223, 3), (24, .aload_n 0, 1), (25, .iload_n 2, 1), (26, .invokevirtual 223, 3)]
theorem kdX12_feed_0 : dkO cX12_feed 0 ldX12_feed_0 = true := by decide +kernel
theorem dX12_feed_0 : decode cX12_feed 0 = .ok (.aload_n 0, 1) := dk_i kdX12_feed_0 0 rfl
theorem dX12_feed_1 : decode cX12_feed 1 = .ok (.getfield 13, 3) := dk_i kdX12_feed_0 1 rfl
theorem dX12_feed_4 : decode cX12_feed 4 = .ok (.bipush 20, 2) := dk_i kdX12_feed_0 2 rfl
theorem dX12_feed_6 : decode cX12_feed 6 = .ok (.iadd, 1) := dk_i kdX12_feed_0 3 rfl
theorem dX12_feed_7 : decode cX12_feed 7 = .ok (.sipush 1600, 3) := dk_i kdX12_feed_0 4 rfl
theorem dX12_feed_10 : decode cX12_feed 10 = .ok (.if_icmp .le 9, 3) := dk_i kdX12_feed_0 5 rfl
theorem dX12_feed_13 : decode cX12_feed 13 = .ok (.aload_n 0, 1) := dk_i kdX12_feed_0 6 rfl
theorem dX12_feed_14 : decode cX12_feed 14 = .ok (.iconst 0, 1) := dk_i kdX12_feed_0 7 rfl
theorem dX12_feed_15 : decode cX12_feed 15 = .ok (.invokevirtual 219, 3) := dk_i kdX12_feed_0 8 rfl
theorem dX12_feed_18 : decode cX12_feed 18 = .ok (.ireturn, 1) := dk_i kdX12_feed_0 9 rfl
theorem dX12_feed_19 : decode cX12_feed 19 = .ok (.aload_n 0, 1) := dk_i kdX12_feed_0 10 rfl
theorem dX12_feed_20 : decode cX12_feed 20 = .ok (.iload_n 1, 1) := dk_i kdX12_feed_0 11 rfl
theorem dX12_feed_21 : decode cX12_feed 21 = .ok (.invokevirtual 223, 3) := dk_i kdX12_feed_0 12 rfl
theorem dX12_feed_24 : decode cX12_feed 24 = .ok (.aload_n 0, 1) := dk_i kdX12_feed_0 13 rfl
theorem dX12_feed_25 : decode cX12_feed 25 = .ok (.iload_n 2, 1) := dk_i kdX12_feed_0 14 rfl
theorem dX12_feed_26 : decode cX12_feed 26 = .ok (.invokevirtual 223, 3) := dk_i kdX12_feed_0 15 rfl
def ldX12_feed_29 : List (Nat × ClassFile.Instr × Nat) := [(29, .aload_n 0, 1), (30, .iload_n 3, 1), (31, .invokevirtual 223, 3), (34, .aload_n 0, 1), (35, .iload 4, 2), (37, .invokevirtual 223, 3), (40, .aload_n 0, 1), (41, .iload 5, 2), (43, .invokevirtual 223, 3), (46, .aload_n 0, 1), (47, .getfield 13, 3), (50, .ireturn, 1)]
theorem kdX12_feed_29 : dkO cX12_feed 29 ldX12_feed_29 = true := by decide +kernel
theorem dX12_feed_29 : decode cX12_feed 29 = .ok (.aload_n 0, 1) := dk_i kdX12_feed_29 0 rfl
theorem dX12_feed_30 : decode cX12_feed 30 = .ok (.iload_n 3, 1) := dk_i kdX12_feed_29 1 rfl
theorem dX12_feed_31 : decode cX12_feed 31 = .ok (.invokevirtual 223, 3) := dk_i kdX12_feed_29 2 rfl
theorem dX12_feed_34 : decode cX12_feed 34 = .ok (.aload_n 0, 1) := dk_i kdX12_feed_29 3 rfl
theorem dX12_feed_35 : decode cX12_feed 35 = .ok (.iload 4, 2) := dk_i kdX12_feed_29 4 rfl
theorem dX12_feed_37 : decode cX12_feed 37 = .ok (.invokevirtual 223, 3) := dk_i kdX12_feed_29 5 rfl
theorem dX12_feed_40 : decode cX12_feed 40 = .ok (.aload_n 0, 1) := dk_i kdX12_feed_29 6 rfl
theorem dX12_feed_41 : decode cX12_feed 41 = .ok (.iload 5, 2) := dk_i kdX12_feed_29 7 rfl
theorem dX12_feed_43 : decode cX12_feed 43 = .ok (.invokevirtual 223, 3) := dk_i kdX12_feed_29 8 rfl
theorem dX12_feed_46 : decode cX12_feed 46 = .ok (.aload_n 0, 1) := dk_i kdX12_feed_29 9 rfl
theorem dX12_feed_47 : decode cX12_feed 47 = .ok (.getfield 13, 3) := dk_i kdX12_feed_29 10 rfl
theorem dX12_feed_50 : decode cX12_feed 50 = .ok (.ireturn, 1) := dk_i kdX12_feed_29 11 rfl
def ldX12_end_0 : List (Nat × ClassFile.Instr × Nat) := [(0, .iload_n 1, 1), (1, .ifCond .lt 11, 3), (4, .iload_n 1, 1), (5, .aload_n 0, 1), (6, .getfield 13, 3), (9, .if_icmp .le 17, 3), (12, .aload_n 0, 1), (13, .iconst 0, 1), (14, .invokevirtual 219, 3), (17, .ifCond .lt 7, 3), (20, .iconst 1, 1), (21, .goto 4, 3), (24, .iconst 0, 1), (25, .ireturn, 1), (26, .aload_n 0, 1), (27, .iload_n 1, 1)]
theorem kdX12_end_0 : dkO cX12_end 0 ldX12_end_0 = true := by decide +kernel
theorem dX12_end_0 : decode cX12_end 0 = .ok (.iload_n 1, 1) := dk_i kdX12_end_0 0 rfl
theorem dX12_end_1 : decode cX12_end 1 = .ok (.ifCond .lt 11, 3) := dk_i kdX12_end_0 1 rfl
theorem dX12_end_4 : decode cX12_end 4 = .ok (.iload_n 1, 1) := dk_i kdX12_end_0 2 rfl
theorem dX12_end_5 : decode cX12_end 5 = .ok (.aload_n 0, 1) := dk_i kdX12_end_0 3 rfl
theorem dX12_end_6 : decode cX12_end 6 = .ok (.getfield 13, 3) := dk_i kdX12_end_0 4 rfl
theorem dX12_end_9 : decode cX12_end 9 = .ok (.if_icmp .le 17, 3) := dk_i kdX12_end_0 5 rfl
theorem dX12_end_12 : decode cX12_end 12 = .ok (.aload_n 0, 1) := dk_i kdX12_end_0 6 rfl
theorem dX12_end_13 : decode cX12_end 13 = .ok (.iconst 0, 1) := dk_i kdX12_end_0 7 rfl
theorem dX12_end_14 : decode cX12_end 14 = .ok (.invokevirtual 219, 3) := dk_i kdX12_end_0 8 rfl
theorem dX12_end_17 : decode cX12_end 17 = .ok (.ifCond .lt 7, 3) := dk_i kdX12_end_0 9 rfl
theorem dX12_end_20 : decode cX12_end 20 = .ok (.iconst 1, 1) := dk_i kdX12_end_0 10 rfl
theorem dX12_end_21 : decode cX12_end 21 = .ok (.goto 4, 3) := dk_i kdX12_end_0 11 rfl
theorem dX12_end_24 : decode cX12_end 24 = .ok (.iconst 0, 1) := dk_i kdX12_end_0 12 rfl
theorem dX12_end_25 : decode cX12_end 25 = .ok (.ireturn, 1) := dk_i kdX12_end_0 13 rfl
theorem dX12_end_26 : decode cX12_end 26 = .ok (.aload_n 0, 1) := dk_i kdX12_end_0 14 rfl
theorem dX12_end_27 : decode cX12_end 27 = .ok (.iload_n 1, 1) := dk_i kdX12_end_0 15 rfl
def ldX12_end_28 : List (Nat × ClassFile.Instr × Nat) := [(28, .putfield 13, 3), (31, .iconst 1, 1), (32, .ireturn, 1)]
theorem kdX12_end_28 : dkO cX12_end 28 ldX12_end_28 = true := by decide +kernel
theorem dX12_end_28 : decode cX12_end 28 = .ok (.putfield 13, 3) := dk_i kdX12_end_28 0 rfl
theorem dX12_end_31 : decode cX12_end 31 = .ok (.iconst 1, 1) := dk_i kdX12_end_28 1 rfl
theorem dX12_end_32 : decode cX12_end 32 = .ok (.ireturn, 1) := dk_i kdX12_end_28 2 rfl
def ldX12_blame_0 : List (Nat × ClassFile.Instr × Nat) := [(0, .aload_n 0, 1), (1, .getfield 36, 3), (4, .ifCond .le 4, 3), (7, .return_, 1), (8, .aload_n 0, 1), (9, .iload_n 1, 1), (10, .putfield 36, 3), (13, .aload_n 0, 1), (14, .iload_n 2, 1), (15, .putfield 39, 3), (18, .return_, 1)]
theorem kdX12_blame_0 : dkO cX12_blame 0 ldX12_blame_0 = true := by decide +kernel
theorem dX12_blame_0 : decode cX12_blame 0 = .ok (.aload_n 0, 1) := dk_i kdX12_blame_0 0 rfl
theorem dX12_blame_1 : decode cX12_blame 1 = .ok (.getfield 36, 3) := dk_i kdX12_blame_0 1 rfl
theorem dX12_blame_4 : decode cX12_blame 4 = .ok (.ifCond .le 4, 3) := dk_i kdX12_blame_0 2 rfl
theorem dX12_blame_7 : decode cX12_blame 7 = .ok (.return_, 1) := dk_i kdX12_blame_0 3 rfl
theorem dX12_blame_8 : decode cX12_blame 8 = .ok (.aload_n 0, 1) := dk_i kdX12_blame_0 4 rfl
theorem dX12_blame_9 : decode cX12_blame 9 = .ok (.iload_n 1, 1) := dk_i kdX12_blame_0 5 rfl
theorem dX12_blame_10 : decode cX12_blame 10 = .ok (.putfield 36, 3) := dk_i kdX12_blame_0 6 rfl
theorem dX12_blame_13 : decode cX12_blame 13 = .ok (.aload_n 0, 1) := dk_i kdX12_blame_0 7 rfl
theorem dX12_blame_14 : decode cX12_blame 14 = .ok (.iload_n 2, 1) := dk_i kdX12_blame_0 8 rfl
theorem dX12_blame_15 : decode cX12_blame 15 = .ok (.putfield 39, 3) := dk_i kdX12_blame_0 9 rfl
theorem dX12_blame_18 : decode cX12_blame 18 = .ok (.return_, 1) := dk_i kdX12_blame_0 10 rfl
def ldX12_isLetter_0 : List (Nat × ClassFile.Instr × Nat) := [(0, .iload_n 0, 1), (1, .bipush 97, 2), (3, .if_icmp .lt 13, 3), (6, .iload_n 0, 1), (7, .bipush 122, 2), (9, .if_icmp .gt 7, 3), (12, .iconst 1, 1), (13, .goto 4, 3), (16, .iconst 0, 1), (17, .ireturn, 1)]
theorem kdX12_isLetter_0 : dkO cX12_isLetter 0 ldX12_isLetter_0 = true := by decide +kernel
theorem dX12_isLetter_0 : decode cX12_isLetter 0 = .ok (.iload_n 0, 1) := dk_i kdX12_isLetter_0 0 rfl
theorem dX12_isLetter_1 : decode cX12_isLetter 1 = .ok (.bipush 97, 2) := dk_i kdX12_isLetter_0 1 rfl
theorem dX12_isLetter_3 : decode cX12_isLetter 3 = .ok (.if_icmp .lt 13, 3) := dk_i kdX12_isLetter_0 2 rfl
theorem dX12_isLetter_6 : decode cX12_isLetter 6 = .ok (.iload_n 0, 1) := dk_i kdX12_isLetter_0 3 rfl
theorem dX12_isLetter_7 : decode cX12_isLetter 7 = .ok (.bipush 122, 2) := dk_i kdX12_isLetter_0 4 rfl
theorem dX12_isLetter_9 : decode cX12_isLetter 9 = .ok (.if_icmp .gt 7, 3) := dk_i kdX12_isLetter_0 5 rfl
theorem dX12_isLetter_12 : decode cX12_isLetter 12 = .ok (.iconst 1, 1) := dk_i kdX12_isLetter_0 6 rfl
theorem dX12_isLetter_13 : decode cX12_isLetter 13 = .ok (.goto 4, 3) := dk_i kdX12_isLetter_0 7 rfl
theorem dX12_isLetter_16 : decode cX12_isLetter 16 = .ok (.iconst 0, 1) := dk_i kdX12_isLetter_0 8 rfl
theorem dX12_isLetter_17 : decode cX12_isLetter 17 = .ok (.ireturn, 1) := dk_i kdX12_isLetter_0 9 rfl
def ldX12_isDigit_0 : List (Nat × ClassFile.Instr × Nat) := [(0, .iload_n 0, 1), (1, .bipush 48, 2), (3, .if_icmp .lt 13, 3), (6, .iload_n 0, 1), (7, .bipush 57, 2), (9, .if_icmp .gt 7, 3), (12, .iconst 1, 1), (13, .goto 4, 3), (16, .iconst 0, 1), (17, .ireturn, 1)]
theorem kdX12_isDigit_0 : dkO cX12_isDigit 0 ldX12_isDigit_0 = true := by decide +kernel
theorem dX12_isDigit_0 : decode cX12_isDigit 0 = .ok (.iload_n 0, 1) := dk_i kdX12_isDigit_0 0 rfl
theorem dX12_isDigit_1 : decode cX12_isDigit 1 = .ok (.bipush 48, 2) := dk_i kdX12_isDigit_0 1 rfl
theorem dX12_isDigit_3 : decode cX12_isDigit 3 = .ok (.if_icmp .lt 13, 3) := dk_i kdX12_isDigit_0 2 rfl
theorem dX12_isDigit_6 : decode cX12_isDigit 6 = .ok (.iload_n 0, 1) := dk_i kdX12_isDigit_0 3 rfl
theorem dX12_isDigit_7 : decode cX12_isDigit 7 = .ok (.bipush 57, 2) := dk_i kdX12_isDigit_0 4 rfl
theorem dX12_isDigit_9 : decode cX12_isDigit 9 = .ok (.if_icmp .gt 7, 3) := dk_i kdX12_isDigit_0 5 rfl
theorem dX12_isDigit_12 : decode cX12_isDigit 12 = .ok (.iconst 1, 1) := dk_i kdX12_isDigit_0 6 rfl
theorem dX12_isDigit_13 : decode cX12_isDigit 13 = .ok (.goto 4, 3) := dk_i kdX12_isDigit_0 7 rfl
theorem dX12_isDigit_16 : decode cX12_isDigit 16 = .ok (.iconst 0, 1) := dk_i kdX12_isDigit_0 8 rfl
theorem dX12_isDigit_17 : decode cX12_isDigit 17 = .ok (.ireturn, 1) := dk_i kdX12_isDigit_0 9 rfl
def ldX12_lex_0 : List (Nat × ClassFile.Instr × Nat) := [(0, .aload_n 0, 1), (1, .getfield 48, 3), (4, .iconst (-1), 1), (5, .if_icmp .eq 12, 3), (8, .aload_n 0, 1), (9, .iconst 1, 1), (10, .aload_n 0, 1), (11, .getfield 48, 3), (14, .invokevirtual 227, 3), (17, .return_, 1)]
theorem kdX12_lex_0 : dkO cX12_lex 0 ldX12_lex_0 = true := by decide +kernel
theorem dX12_lex_0 : decode cX12_lex 0 = .ok (.aload_n 0, 1) := dk_i kdX12_lex_0 0 rfl
theorem dX12_lex_1 : decode cX12_lex 1 = .ok (.getfield 48, 3) := dk_i kdX12_lex_0 1 rfl
theorem dX12_lex_4 : decode cX12_lex 4 = .ok (.iconst (-1), 1) := dk_i kdX12_lex_0 2 rfl
theorem dX12_lex_5 : decode cX12_lex 5 = .ok (.if_icmp .eq 12, 3) := dk_i kdX12_lex_0 3 rfl
theorem dX12_lex_8 : decode cX12_lex 8 = .ok (.aload_n 0, 1) := dk_i kdX12_lex_0 4 rfl
theorem dX12_lex_9 : decode cX12_lex 9 = .ok (.iconst 1, 1) := dk_i kdX12_lex_0 5 rfl
theorem dX12_lex_10 : decode cX12_lex 10 = .ok (.aload_n 0, 1) := dk_i kdX12_lex_0 6 rfl
theorem dX12_lex_11 : decode cX12_lex 11 = .ok (.getfield 48, 3) := dk_i kdX12_lex_0 7 rfl
theorem dX12_lex_14 : decode cX12_lex 14 = .ok (.invokevirtual 227, 3) := dk_i kdX12_lex_0 8 rfl
theorem dX12_lex_17 : decode cX12_lex 17 = .ok (.return_, 1) := dk_i kdX12_lex_0 9 rfl
def ldX12_ahead_0 : List (Nat × ClassFile.Instr × Nat) := [(0, .aload_n 0, 1), (1, .getfield 26, 3), (4, .istore_n 1, 1), (5, .iload_n 1, 1), (6, .aload_n 0, 1), (7, .getfield 17, 3), (10, .if_icmp .ge 31, 3), (13, .aload_n 0, 1), (14, .getfield 7, 3), (17, .iload_n 1, 1), (18, .iaload, 1), (19, .bipush 32, 2), (21, .if_icmp .eq 14, 3), (24, .aload_n 0, 1), (25, .getfield 7, 3), (28, .iload_n 1, 1)]
theorem kdX12_ahead_0 : dkO cX12_ahead 0 ldX12_ahead_0 = true := by decide +kernel
theorem dX12_ahead_0 : decode cX12_ahead 0 = .ok (.aload_n 0, 1) := dk_i kdX12_ahead_0 0 rfl
theorem dX12_ahead_1 : decode cX12_ahead 1 = .ok (.getfield 26, 3) := dk_i kdX12_ahead_0 1 rfl
theorem dX12_ahead_4 : decode cX12_ahead 4 = .ok (.istore_n 1, 1) := dk_i kdX12_ahead_0 2 rfl
theorem dX12_ahead_5 : decode cX12_ahead 5 = .ok (.iload_n 1, 1) := dk_i kdX12_ahead_0 3 rfl
theorem dX12_ahead_6 : decode cX12_ahead 6 = .ok (.aload_n 0, 1) := dk_i kdX12_ahead_0 4 rfl
theorem dX12_ahead_7 : decode cX12_ahead 7 = .ok (.getfield 17, 3) := dk_i kdX12_ahead_0 5 rfl
theorem dX12_ahead_10 : decode cX12_ahead 10 = .ok (.if_icmp .ge 31, 3) := dk_i kdX12_ahead_0 6 rfl
theorem dX12_ahead_13 : decode cX12_ahead 13 = .ok (.aload_n 0, 1) := dk_i kdX12_ahead_0 7 rfl
theorem dX12_ahead_14 : decode cX12_ahead 14 = .ok (.getfield 7, 3) := dk_i kdX12_ahead_0 8 rfl
theorem dX12_ahead_17 : decode cX12_ahead 17 = .ok (.iload_n 1, 1) := dk_i kdX12_ahead_0 9 rfl
theorem dX12_ahead_18 : decode cX12_ahead 18 = .ok (.iaload, 1) := dk_i kdX12_ahead_0 10 rfl
theorem dX12_ahead_19 : decode cX12_ahead 19 = .ok (.bipush 32, 2) := dk_i kdX12_ahead_0 11 rfl
theorem dX12_ahead_21 : decode cX12_ahead 21 = .ok (.if_icmp .eq 14, 3) := dk_i kdX12_ahead_0 12 rfl
theorem dX12_ahead_24 : decode cX12_ahead 24 = .ok (.aload_n 0, 1) := dk_i kdX12_ahead_0 13 rfl
theorem dX12_ahead_25 : decode cX12_ahead 25 = .ok (.getfield 7, 3) := dk_i kdX12_ahead_0 14 rfl
theorem dX12_ahead_28 : decode cX12_ahead 28 = .ok (.iload_n 1, 1) := dk_i kdX12_ahead_0 15 rfl
def ldX12_ahead_29 : List (Nat × ClassFile.Instr × Nat) := [(29, .iaload, 1), (30, .bipush 10, 2), (32, .if_icmp .ne 9, 3), (35, .iinc 1 1, 3), (38, .goto (-33), 3), (41, .aload_n 0, 1), (42, .iload_n 1, 1), (43, .putfield 23, 3), (46, .aload_n 0, 1), (47, .iload_n 1, 1), (48, .putfield 26, 3), (51, .aload_n 0, 1), (52, .iconst 0, 1), (53, .putfield 20, 3), (56, .aload_n 0, 1), (57, .iconst (-1), 1)]
theorem kdX12_ahead_29 : dkO cX12_ahead 29 ldX12_ahead_29 = true := by decide +kernel
theorem dX12_ahead_29 : decode cX12_ahead 29 = .ok (.iaload, 1) := dk_i kdX12_ahead_29 0 rfl
theorem dX12_ahead_30 : decode cX12_ahead 30 = .ok (.bipush 10, 2) := dk_i kdX12_ahead_29 1 rfl
theorem dX12_ahead_32 : decode cX12_ahead 32 = .ok (.if_icmp .ne 9, 3) := dk_i kdX12_ahead_29 2 rfl
theorem dX12_ahead_35 : decode cX12_ahead 35 = .ok (.iinc 1 1, 3) := dk_i kdX12_ahead_29 3 rfl
theorem dX12_ahead_38 : decode cX12_ahead 38 = .ok (.goto (-33), 3) := dk_i kdX12_ahead_29 4 rfl
theorem dX12_ahead_41 : decode cX12_ahead 41 = .ok (.aload_n 0, 1) := dk_i kdX12_ahead_29 5 rfl
theorem dX12_ahead_42 : decode cX12_ahead 42 = .ok (.iload_n 1, 1) := dk_i kdX12_ahead_29 6 rfl
theorem dX12_ahead_43 : decode cX12_ahead 43 = .ok (.putfield 23, 3) := dk_i kdX12_ahead_29 7 rfl
theorem dX12_ahead_46 : decode cX12_ahead 46 = .ok (.aload_n 0, 1) := dk_i kdX12_ahead_29 8 rfl
theorem dX12_ahead_47 : decode cX12_ahead 47 = .ok (.iload_n 1, 1) := dk_i kdX12_ahead_29 9 rfl
theorem dX12_ahead_48 : decode cX12_ahead 48 = .ok (.putfield 26, 3) := dk_i kdX12_ahead_29 10 rfl
theorem dX12_ahead_51 : decode cX12_ahead 51 = .ok (.aload_n 0, 1) := dk_i kdX12_ahead_29 11 rfl
theorem dX12_ahead_52 : decode cX12_ahead 52 = .ok (.iconst 0, 1) := dk_i kdX12_ahead_29 12 rfl
theorem dX12_ahead_53 : decode cX12_ahead 53 = .ok (.putfield 20, 3) := dk_i kdX12_ahead_29 13 rfl
theorem dX12_ahead_56 : decode cX12_ahead 56 = .ok (.aload_n 0, 1) := dk_i kdX12_ahead_29 14 rfl
theorem dX12_ahead_57 : decode cX12_ahead 57 = .ok (.iconst (-1), 1) := dk_i kdX12_ahead_29 15 rfl
def ldX12_ahead_58 : List (Nat × ClassFile.Instr × Nat) := [(58, .putfield 48, 3), (61, .iload_n 1, 1), (62, .aload_n 0, 1), (63, .getfield 17, 3), (66, .if_icmp .lt 4, 3), (69, .return_, 1), (70, .aload_n 0, 1), (71, .getfield 7, 3), (74, .iload_n 1, 1), (75, .iaload, 1), (76, .invokestatic 231, 3), (79, .istore_n 2, 1), (80, .aload_n 0, 1), (81, .getfield 7, 3), (84, .iload_n 1, 1), (85, .iaload, 1)]
theorem kdX12_ahead_58 : dkO cX12_ahead 58 ldX12_ahead_58 = true := by decide +kernel
theorem dX12_ahead_58 : decode cX12_ahead 58 = .ok (.putfield 48, 3) := dk_i kdX12_ahead_58 0 rfl
theorem dX12_ahead_61 : decode cX12_ahead 61 = .ok (.iload_n 1, 1) := dk_i kdX12_ahead_58 1 rfl
theorem dX12_ahead_62 : decode cX12_ahead 62 = .ok (.aload_n 0, 1) := dk_i kdX12_ahead_58 2 rfl
theorem dX12_ahead_63 : decode cX12_ahead 63 = .ok (.getfield 17, 3) := dk_i kdX12_ahead_58 3 rfl
theorem dX12_ahead_66 : decode cX12_ahead 66 = .ok (.if_icmp .lt 4, 3) := dk_i kdX12_ahead_58 4 rfl
theorem dX12_ahead_69 : decode cX12_ahead 69 = .ok (.return_, 1) := dk_i kdX12_ahead_58 5 rfl
theorem dX12_ahead_70 : decode cX12_ahead 70 = .ok (.aload_n 0, 1) := dk_i kdX12_ahead_58 6 rfl
theorem dX12_ahead_71 : decode cX12_ahead 71 = .ok (.getfield 7, 3) := dk_i kdX12_ahead_58 7 rfl
theorem dX12_ahead_74 : decode cX12_ahead 74 = .ok (.iload_n 1, 1) := dk_i kdX12_ahead_58 8 rfl
theorem dX12_ahead_75 : decode cX12_ahead 75 = .ok (.iaload, 1) := dk_i kdX12_ahead_58 9 rfl
theorem dX12_ahead_76 : decode cX12_ahead 76 = .ok (.invokestatic 231, 3) := dk_i kdX12_ahead_58 10 rfl
theorem dX12_ahead_79 : decode cX12_ahead 79 = .ok (.istore_n 2, 1) := dk_i kdX12_ahead_58 11 rfl
theorem dX12_ahead_80 : decode cX12_ahead 80 = .ok (.aload_n 0, 1) := dk_i kdX12_ahead_58 12 rfl
theorem dX12_ahead_81 : decode cX12_ahead 81 = .ok (.getfield 7, 3) := dk_i kdX12_ahead_58 13 rfl
theorem dX12_ahead_84 : decode cX12_ahead 84 = .ok (.iload_n 1, 1) := dk_i kdX12_ahead_58 14 rfl
theorem dX12_ahead_85 : decode cX12_ahead 85 = .ok (.iaload, 1) := dk_i kdX12_ahead_58 15 rfl
def ldX12_ahead_86 : List (Nat × ClassFile.Instr × Nat) := [(86, .invokestatic 235, 3), (89, .istore_n 3, 1), (90, .iload_n 2, 1), (91, .ifCond .ne 7, 3), (94, .iload_n 3, 1), (95, .ifCond .eq 40, 3), (98, .iload_n 1, 1), (99, .ifCond .le 36, 3), (102, .aload_n 0, 1), (103, .getfield 7, 3), (106, .iload_n 1, 1), (107, .iconst 1, 1), (108, .isub, 1), (109, .iaload, 1), (110, .invokestatic 231, 3), (113, .ifCond .ne 17, 3)]
theorem kdX12_ahead_86 : dkO cX12_ahead 86 ldX12_ahead_86 = true := by decide +kernel
theorem dX12_ahead_86 : decode cX12_ahead 86 = .ok (.invokestatic 235, 3) := dk_i kdX12_ahead_86 0 rfl
theorem dX12_ahead_89 : decode cX12_ahead 89 = .ok (.istore_n 3, 1) := dk_i kdX12_ahead_86 1 rfl
theorem dX12_ahead_90 : decode cX12_ahead 90 = .ok (.iload_n 2, 1) := dk_i kdX12_ahead_86 2 rfl
theorem dX12_ahead_91 : decode cX12_ahead 91 = .ok (.ifCond .ne 7, 3) := dk_i kdX12_ahead_86 3 rfl
theorem dX12_ahead_94 : decode cX12_ahead 94 = .ok (.iload_n 3, 1) := dk_i kdX12_ahead_86 4 rfl
theorem dX12_ahead_95 : decode cX12_ahead 95 = .ok (.ifCond .eq 40, 3) := dk_i kdX12_ahead_86 5 rfl
theorem dX12_ahead_98 : decode cX12_ahead 98 = .ok (.iload_n 1, 1) := dk_i kdX12_ahead_86 6 rfl
theorem dX12_ahead_99 : decode cX12_ahead 99 = .ok (.ifCond .le 36, 3) := dk_i kdX12_ahead_86 7 rfl
theorem dX12_ahead_102 : decode cX12_ahead 102 = .ok (.aload_n 0, 1) := dk_i kdX12_ahead_86 8 rfl
theorem dX12_ahead_103 : decode cX12_ahead 103 = .ok (.getfield 7, 3) := dk_i kdX12_ahead_86 9 rfl
theorem dX12_ahead_106 : decode cX12_ahead 106 = .ok (.iload_n 1, 1) := dk_i kdX12_ahead_86 10 rfl
theorem dX12_ahead_107 : decode cX12_ahead 107 = .ok (.iconst 1, 1) := dk_i kdX12_ahead_86 11 rfl
theorem dX12_ahead_108 : decode cX12_ahead 108 = .ok (.isub, 1) := dk_i kdX12_ahead_86 12 rfl
theorem dX12_ahead_109 : decode cX12_ahead 109 = .ok (.iaload, 1) := dk_i kdX12_ahead_86 13 rfl
theorem dX12_ahead_110 : decode cX12_ahead 110 = .ok (.invokestatic 231, 3) := dk_i kdX12_ahead_86 14 rfl
theorem dX12_ahead_113 : decode cX12_ahead 113 = .ok (.ifCond .ne 17, 3) := dk_i kdX12_ahead_86 15 rfl
def ldX12_ahead_116 : List (Nat × ClassFile.Instr × Nat) := [(116, .aload_n 0, 1), (117, .getfield 7, 3), (120, .iload_n 1, 1), (121, .iconst 1, 1), (122, .isub, 1), (123, .iaload, 1), (124, .invokestatic 235, 3), (127, .ifCond .eq 8, 3), (130, .aload_n 0, 1), (131, .iload_n 1, 1), (132, .putfield 48, 3), (135, .aload_n 0, 1), (136, .iconst 0, 1), (137, .putfield 29, 3), (140, .aload_n 0, 1), (141, .lconst 0, 1)]
theorem kdX12_ahead_116 : dkO cX12_ahead 116 ldX12_ahead_116 = true := by decide +kernel
theorem dX12_ahead_116 : decode cX12_ahead 116 = .ok (.aload_n 0, 1) := dk_i kdX12_ahead_116 0 rfl
theorem dX12_ahead_117 : decode cX12_ahead 117 = .ok (.getfield 7, 3) := dk_i kdX12_ahead_116 1 rfl
theorem dX12_ahead_120 : decode cX12_ahead 120 = .ok (.iload_n 1, 1) := dk_i kdX12_ahead_116 2 rfl
theorem dX12_ahead_121 : decode cX12_ahead 121 = .ok (.iconst 1, 1) := dk_i kdX12_ahead_116 3 rfl
theorem dX12_ahead_122 : decode cX12_ahead 122 = .ok (.isub, 1) := dk_i kdX12_ahead_116 4 rfl
theorem dX12_ahead_123 : decode cX12_ahead 123 = .ok (.iaload, 1) := dk_i kdX12_ahead_116 5 rfl
theorem dX12_ahead_124 : decode cX12_ahead 124 = .ok (.invokestatic 235, 3) := dk_i kdX12_ahead_116 6 rfl
theorem dX12_ahead_127 : decode cX12_ahead 127 = .ok (.ifCond .eq 8, 3) := dk_i kdX12_ahead_116 7 rfl
theorem dX12_ahead_130 : decode cX12_ahead 130 = .ok (.aload_n 0, 1) := dk_i kdX12_ahead_116 8 rfl
theorem dX12_ahead_131 : decode cX12_ahead 131 = .ok (.iload_n 1, 1) := dk_i kdX12_ahead_116 9 rfl
theorem dX12_ahead_132 : decode cX12_ahead 132 = .ok (.putfield 48, 3) := dk_i kdX12_ahead_116 10 rfl
theorem dX12_ahead_135 : decode cX12_ahead 135 = .ok (.aload_n 0, 1) := dk_i kdX12_ahead_116 11 rfl
theorem dX12_ahead_136 : decode cX12_ahead 136 = .ok (.iconst 0, 1) := dk_i kdX12_ahead_116 12 rfl
theorem dX12_ahead_137 : decode cX12_ahead 137 = .ok (.putfield 29, 3) := dk_i kdX12_ahead_116 13 rfl
theorem dX12_ahead_140 : decode cX12_ahead 140 = .ok (.aload_n 0, 1) := dk_i kdX12_ahead_116 14 rfl
theorem dX12_ahead_141 : decode cX12_ahead 141 = .ok (.lconst 0, 1) := dk_i kdX12_ahead_116 15 rfl
def ldX12_ahead_142 : List (Nat × ClassFile.Instr × Nat) := [(142, .putfield 32, 3), (145, .aload_n 0, 1), (146, .iconst 3, 1), (147, .putfield 20, 3), (150, .aload_n 0, 1), (151, .iload_n 1, 1), (152, .iconst 1, 1), (153, .iadd, 1), (154, .putfield 26, 3), (157, .iload_n 2, 1), (158, .ifCond .ne 18, 3), (161, .iload_n 3, 1), (162, .ifCond .ne 14, 3), (165, .aload_n 0, 1), (166, .aload_n 0, 1), (167, .getfield 7, 3)]
theorem kdX12_ahead_142 : dkO cX12_ahead 142 ldX12_ahead_142 = true := by decide +kernel
theorem dX12_ahead_142 : decode cX12_ahead 142 = .ok (.putfield 32, 3) := dk_i kdX12_ahead_142 0 rfl
theorem dX12_ahead_145 : decode cX12_ahead 145 = .ok (.aload_n 0, 1) := dk_i kdX12_ahead_142 1 rfl
theorem dX12_ahead_146 : decode cX12_ahead 146 = .ok (.iconst 3, 1) := dk_i kdX12_ahead_142 2 rfl
theorem dX12_ahead_147 : decode cX12_ahead 147 = .ok (.putfield 20, 3) := dk_i kdX12_ahead_142 3 rfl
theorem dX12_ahead_150 : decode cX12_ahead 150 = .ok (.aload_n 0, 1) := dk_i kdX12_ahead_142 4 rfl
theorem dX12_ahead_151 : decode cX12_ahead 151 = .ok (.iload_n 1, 1) := dk_i kdX12_ahead_142 5 rfl
theorem dX12_ahead_152 : decode cX12_ahead 152 = .ok (.iconst 1, 1) := dk_i kdX12_ahead_142 6 rfl
theorem dX12_ahead_153 : decode cX12_ahead 153 = .ok (.iadd, 1) := dk_i kdX12_ahead_142 7 rfl
theorem dX12_ahead_154 : decode cX12_ahead 154 = .ok (.putfield 26, 3) := dk_i kdX12_ahead_142 8 rfl
theorem dX12_ahead_157 : decode cX12_ahead 157 = .ok (.iload_n 2, 1) := dk_i kdX12_ahead_142 9 rfl
theorem dX12_ahead_158 : decode cX12_ahead 158 = .ok (.ifCond .ne 18, 3) := dk_i kdX12_ahead_142 10 rfl
theorem dX12_ahead_161 : decode cX12_ahead 161 = .ok (.iload_n 3, 1) := dk_i kdX12_ahead_142 11 rfl
theorem dX12_ahead_162 : decode cX12_ahead 162 = .ok (.ifCond .ne 14, 3) := dk_i kdX12_ahead_142 12 rfl
theorem dX12_ahead_165 : decode cX12_ahead 165 = .ok (.aload_n 0, 1) := dk_i kdX12_ahead_142 13 rfl
theorem dX12_ahead_166 : decode cX12_ahead 166 = .ok (.aload_n 0, 1) := dk_i kdX12_ahead_142 14 rfl
theorem dX12_ahead_167 : decode cX12_ahead 167 = .ok (.getfield 7, 3) := dk_i kdX12_ahead_142 15 rfl
def ldX12_ahead_170 : List (Nat × ClassFile.Instr × Nat) := [(170, .iload_n 1, 1), (171, .iaload, 1), (172, .putfield 29, 3), (175, .return_, 1), (176, .aload_n 0, 1), (177, .iload_n 2, 1), (178, .ifCond .eq 7, 3), (181, .iconst 1, 1), (182, .goto 4, 3), (185, .iconst 2, 1), (186, .putfield 20, 3), (189, .iload_n 2, 1), (190, .ifCond .eq 8, 3), (193, .bipush 6, 2), (195, .goto 4, 3), (198, .iconst 4, 1)]
theorem kdX12_ahead_170 : dkO cX12_ahead 170 ldX12_ahead_170 = true := by decide +kernel
theorem dX12_ahead_170 : decode cX12_ahead 170 = .ok (.iload_n 1, 1) := dk_i kdX12_ahead_170 0 rfl
theorem dX12_ahead_171 : decode cX12_ahead 171 = .ok (.iaload, 1) := dk_i kdX12_ahead_170 1 rfl
theorem dX12_ahead_172 : decode cX12_ahead 172 = .ok (.putfield 29, 3) := dk_i kdX12_ahead_170 2 rfl
theorem dX12_ahead_175 : decode cX12_ahead 175 = .ok (.return_, 1) := dk_i kdX12_ahead_170 3 rfl
theorem dX12_ahead_176 : decode cX12_ahead 176 = .ok (.aload_n 0, 1) := dk_i kdX12_ahead_170 4 rfl
theorem dX12_ahead_177 : decode cX12_ahead 177 = .ok (.iload_n 2, 1) := dk_i kdX12_ahead_170 5 rfl
theorem dX12_ahead_178 : decode cX12_ahead 178 = .ok (.ifCond .eq 7, 3) := dk_i kdX12_ahead_170 6 rfl
theorem dX12_ahead_181 : decode cX12_ahead 181 = .ok (.iconst 1, 1) := dk_i kdX12_ahead_170 7 rfl
theorem dX12_ahead_182 : decode cX12_ahead 182 = .ok (.goto 4, 3) := dk_i kdX12_ahead_170 8 rfl
theorem dX12_ahead_185 : decode cX12_ahead 185 = .ok (.iconst 2, 1) := dk_i kdX12_ahead_170 9 rfl
theorem dX12_ahead_186 : decode cX12_ahead 186 = .ok (.putfield 20, 3) := dk_i kdX12_ahead_170 10 rfl
theorem dX12_ahead_189 : decode cX12_ahead 189 = .ok (.iload_n 2, 1) := dk_i kdX12_ahead_170 11 rfl
theorem dX12_ahead_190 : decode cX12_ahead 190 = .ok (.ifCond .eq 8, 3) := dk_i kdX12_ahead_170 12 rfl
theorem dX12_ahead_193 : decode cX12_ahead 193 = .ok (.bipush 6, 2) := dk_i kdX12_ahead_170 13 rfl
theorem dX12_ahead_195 : decode cX12_ahead 195 = .ok (.goto 4, 3) := dk_i kdX12_ahead_170 14 rfl
theorem dX12_ahead_198 : decode cX12_ahead 198 = .ok (.iconst 4, 1) := dk_i kdX12_ahead_170 15 rfl
def ldX12_ahead_199 : List (Nat × ClassFile.Instr × Nat) := [(199, .istore 4, 2), (201, .iconst 0, 1), (202, .istore 5, 2), (204, .iload_n 1, 1), (205, .aload_n 0, 1), (206, .getfield 17, 3), (209, .if_icmp .ge 125, 3), (212, .iload_n 2, 1), (213, .ifCond .eq 18, 3), (216, .aload_n 0, 1), (217, .getfield 7, 3), (220, .iload_n 1, 1), (221, .iaload, 1), (222, .invokestatic 231, 3), (225, .ifCond .eq 109, 3), (228, .goto 15, 3)]
theorem kdX12_ahead_199 : dkO cX12_ahead 199 ldX12_ahead_199 = true := by decide +kernel
theorem dX12_ahead_199 : decode cX12_ahead 199 = .ok (.istore 4, 2) := dk_i kdX12_ahead_199 0 rfl
theorem dX12_ahead_201 : decode cX12_ahead 201 = .ok (.iconst 0, 1) := dk_i kdX12_ahead_199 1 rfl
theorem dX12_ahead_202 : decode cX12_ahead 202 = .ok (.istore 5, 2) := dk_i kdX12_ahead_199 2 rfl
theorem dX12_ahead_204 : decode cX12_ahead 204 = .ok (.iload_n 1, 1) := dk_i kdX12_ahead_199 3 rfl
theorem dX12_ahead_205 : decode cX12_ahead 205 = .ok (.aload_n 0, 1) := dk_i kdX12_ahead_199 4 rfl
theorem dX12_ahead_206 : decode cX12_ahead 206 = .ok (.getfield 17, 3) := dk_i kdX12_ahead_199 5 rfl
theorem dX12_ahead_209 : decode cX12_ahead 209 = .ok (.if_icmp .ge 125, 3) := dk_i kdX12_ahead_199 6 rfl
theorem dX12_ahead_212 : decode cX12_ahead 212 = .ok (.iload_n 2, 1) := dk_i kdX12_ahead_199 7 rfl
theorem dX12_ahead_213 : decode cX12_ahead 213 = .ok (.ifCond .eq 18, 3) := dk_i kdX12_ahead_199 8 rfl
theorem dX12_ahead_216 : decode cX12_ahead 216 = .ok (.aload_n 0, 1) := dk_i kdX12_ahead_199 9 rfl
theorem dX12_ahead_217 : decode cX12_ahead 217 = .ok (.getfield 7, 3) := dk_i kdX12_ahead_199 10 rfl
theorem dX12_ahead_220 : decode cX12_ahead 220 = .ok (.iload_n 1, 1) := dk_i kdX12_ahead_199 11 rfl
theorem dX12_ahead_221 : decode cX12_ahead 221 = .ok (.iaload, 1) := dk_i kdX12_ahead_199 12 rfl
theorem dX12_ahead_222 : decode cX12_ahead 222 = .ok (.invokestatic 231, 3) := dk_i kdX12_ahead_199 13 rfl
theorem dX12_ahead_225 : decode cX12_ahead 225 = .ok (.ifCond .eq 109, 3) := dk_i kdX12_ahead_199 14 rfl
theorem dX12_ahead_228 : decode cX12_ahead 228 = .ok (.goto 15, 3) := dk_i kdX12_ahead_199 15 rfl
def ldX12_ahead_231 : List (Nat × ClassFile.Instr × Nat) := [(231, .aload_n 0, 1), (232, .getfield 7, 3), (235, .iload_n 1, 1), (236, .iaload, 1), (237, .invokestatic 235, 3), (240, .ifCond .eq 94, 3), (243, .iload 5, 2), (245, .iload 4, 2), (247, .if_icmp .ne 16, 3), (250, .aload_n 0, 1), (251, .getfield 48, 3), (254, .iconst (-1), 1), (255, .if_icmp .ne 8, 3), (258, .aload_n 0, 1), (259, .iload_n 1, 1), (260, .putfield 48, 3)]
theorem kdX12_ahead_231 : dkO cX12_ahead 231 ldX12_ahead_231 = true := by decide +kernel
theorem dX12_ahead_231 : decode cX12_ahead 231 = .ok (.aload_n 0, 1) := dk_i kdX12_ahead_231 0 rfl
theorem dX12_ahead_232 : decode cX12_ahead 232 = .ok (.getfield 7, 3) := dk_i kdX12_ahead_231 1 rfl
theorem dX12_ahead_235 : decode cX12_ahead 235 = .ok (.iload_n 1, 1) := dk_i kdX12_ahead_231 2 rfl
theorem dX12_ahead_236 : decode cX12_ahead 236 = .ok (.iaload, 1) := dk_i kdX12_ahead_231 3 rfl
theorem dX12_ahead_237 : decode cX12_ahead 237 = .ok (.invokestatic 235, 3) := dk_i kdX12_ahead_231 4 rfl
theorem dX12_ahead_240 : decode cX12_ahead 240 = .ok (.ifCond .eq 94, 3) := dk_i kdX12_ahead_231 5 rfl
theorem dX12_ahead_243 : decode cX12_ahead 243 = .ok (.iload 5, 2) := dk_i kdX12_ahead_231 6 rfl
theorem dX12_ahead_245 : decode cX12_ahead 245 = .ok (.iload 4, 2) := dk_i kdX12_ahead_231 7 rfl
theorem dX12_ahead_247 : decode cX12_ahead 247 = .ok (.if_icmp .ne 16, 3) := dk_i kdX12_ahead_231 8 rfl
theorem dX12_ahead_250 : decode cX12_ahead 250 = .ok (.aload_n 0, 1) := dk_i kdX12_ahead_231 9 rfl
theorem dX12_ahead_251 : decode cX12_ahead 251 = .ok (.getfield 48, 3) := dk_i kdX12_ahead_231 10 rfl
theorem dX12_ahead_254 : decode cX12_ahead 254 = .ok (.iconst (-1), 1) := dk_i kdX12_ahead_231 11 rfl
theorem dX12_ahead_255 : decode cX12_ahead 255 = .ok (.if_icmp .ne 8, 3) := dk_i kdX12_ahead_231 12 rfl
theorem dX12_ahead_258 : decode cX12_ahead 258 = .ok (.aload_n 0, 1) := dk_i kdX12_ahead_231 13 rfl
theorem dX12_ahead_259 : decode cX12_ahead 259 = .ok (.iload_n 1, 1) := dk_i kdX12_ahead_231 14 rfl
theorem dX12_ahead_260 : decode cX12_ahead 260 = .ok (.putfield 48, 3) := dk_i kdX12_ahead_231 15 rfl
def ldX12_ahead_263 : List (Nat × ClassFile.Instr × Nat) := [(263, .iload 5, 2), (265, .iload 4, 2), (267, .if_icmp .ge 26, 3), (270, .iload_n 2, 1), (271, .ifCond .eq 22, 3), (274, .aload_n 0, 1), (275, .aload_n 0, 1), (276, .getfield 32, 3), (279, .bipush 8, 2), (281, .lshl, 1), (282, .aload_n 0, 1), (283, .getfield 7, 3), (286, .iload_n 1, 1), (287, .iaload, 1), (288, .i2l, 1), (289, .lor, 1)]
theorem kdX12_ahead_263 : dkO cX12_ahead 263 ldX12_ahead_263 = true := by decide +kernel
theorem dX12_ahead_263 : decode cX12_ahead 263 = .ok (.iload 5, 2) := dk_i kdX12_ahead_263 0 rfl
theorem dX12_ahead_265 : decode cX12_ahead 265 = .ok (.iload 4, 2) := dk_i kdX12_ahead_263 1 rfl
theorem dX12_ahead_267 : decode cX12_ahead 267 = .ok (.if_icmp .ge 26, 3) := dk_i kdX12_ahead_263 2 rfl
theorem dX12_ahead_270 : decode cX12_ahead 270 = .ok (.iload_n 2, 1) := dk_i kdX12_ahead_263 3 rfl
theorem dX12_ahead_271 : decode cX12_ahead 271 = .ok (.ifCond .eq 22, 3) := dk_i kdX12_ahead_263 4 rfl
theorem dX12_ahead_274 : decode cX12_ahead 274 = .ok (.aload_n 0, 1) := dk_i kdX12_ahead_263 5 rfl
theorem dX12_ahead_275 : decode cX12_ahead 275 = .ok (.aload_n 0, 1) := dk_i kdX12_ahead_263 6 rfl
theorem dX12_ahead_276 : decode cX12_ahead 276 = .ok (.getfield 32, 3) := dk_i kdX12_ahead_263 7 rfl
theorem dX12_ahead_279 : decode cX12_ahead 279 = .ok (.bipush 8, 2) := dk_i kdX12_ahead_263 8 rfl
theorem dX12_ahead_281 : decode cX12_ahead 281 = .ok (.lshl, 1) := dk_i kdX12_ahead_263 9 rfl
theorem dX12_ahead_282 : decode cX12_ahead 282 = .ok (.aload_n 0, 1) := dk_i kdX12_ahead_263 10 rfl
theorem dX12_ahead_283 : decode cX12_ahead 283 = .ok (.getfield 7, 3) := dk_i kdX12_ahead_263 11 rfl
theorem dX12_ahead_286 : decode cX12_ahead 286 = .ok (.iload_n 1, 1) := dk_i kdX12_ahead_263 12 rfl
theorem dX12_ahead_287 : decode cX12_ahead 287 = .ok (.iaload, 1) := dk_i kdX12_ahead_263 13 rfl
theorem dX12_ahead_288 : decode cX12_ahead 288 = .ok (.i2l, 1) := dk_i kdX12_ahead_263 14 rfl
theorem dX12_ahead_289 : decode cX12_ahead 289 = .ok (.lor, 1) := dk_i kdX12_ahead_263 15 rfl
def ldX12_ahead_290 : List (Nat × ClassFile.Instr × Nat) := [(290, .putfield 32, 3), (293, .iload 5, 2), (295, .iload 4, 2), (297, .if_icmp .ge 28, 3), (300, .iload_n 3, 1), (301, .ifCond .eq 24, 3), (304, .aload_n 0, 1), (305, .bipush 10, 2), (307, .aload_n 0, 1), (308, .getfield 29, 3), (311, .imul, 1), (312, .aload_n 0, 1), (313, .getfield 7, 3), (316, .iload_n 1, 1), (317, .iaload, 1), (318, .iadd, 1)]
theorem kdX12_ahead_290 : dkO cX12_ahead 290 ldX12_ahead_290 = true := by decide +kernel
theorem dX12_ahead_290 : decode cX12_ahead 290 = .ok (.putfield 32, 3) := dk_i kdX12_ahead_290 0 rfl
theorem dX12_ahead_293 : decode cX12_ahead 293 = .ok (.iload 5, 2) := dk_i kdX12_ahead_290 1 rfl
theorem dX12_ahead_295 : decode cX12_ahead 295 = .ok (.iload 4, 2) := dk_i kdX12_ahead_290 2 rfl
theorem dX12_ahead_297 : decode cX12_ahead 297 = .ok (.if_icmp .ge 28, 3) := dk_i kdX12_ahead_290 3 rfl
theorem dX12_ahead_300 : decode cX12_ahead 300 = .ok (.iload_n 3, 1) := dk_i kdX12_ahead_290 4 rfl
theorem dX12_ahead_301 : decode cX12_ahead 301 = .ok (.ifCond .eq 24, 3) := dk_i kdX12_ahead_290 5 rfl
theorem dX12_ahead_304 : decode cX12_ahead 304 = .ok (.aload_n 0, 1) := dk_i kdX12_ahead_290 6 rfl
theorem dX12_ahead_305 : decode cX12_ahead 305 = .ok (.bipush 10, 2) := dk_i kdX12_ahead_290 7 rfl
theorem dX12_ahead_307 : decode cX12_ahead 307 = .ok (.aload_n 0, 1) := dk_i kdX12_ahead_290 8 rfl
theorem dX12_ahead_308 : decode cX12_ahead 308 = .ok (.getfield 29, 3) := dk_i kdX12_ahead_290 9 rfl
theorem dX12_ahead_311 : decode cX12_ahead 311 = .ok (.imul, 1) := dk_i kdX12_ahead_290 10 rfl
theorem dX12_ahead_312 : decode cX12_ahead 312 = .ok (.aload_n 0, 1) := dk_i kdX12_ahead_290 11 rfl
theorem dX12_ahead_313 : decode cX12_ahead 313 = .ok (.getfield 7, 3) := dk_i kdX12_ahead_290 12 rfl
theorem dX12_ahead_316 : decode cX12_ahead 316 = .ok (.iload_n 1, 1) := dk_i kdX12_ahead_290 13 rfl
theorem dX12_ahead_317 : decode cX12_ahead 317 = .ok (.iaload, 1) := dk_i kdX12_ahead_290 14 rfl
theorem dX12_ahead_318 : decode cX12_ahead 318 = .ok (.iadd, 1) := dk_i kdX12_ahead_290 15 rfl
def ldX12_ahead_319 : List (Nat × ClassFile.Instr × Nat) := [(319, .bipush 48, 2), (321, .isub, 1), (322, .putfield 29, 3), (325, .iinc 5 1, 3), (328, .iinc 1 1, 3), (331, .goto (-127), 3), (334, .aload_n 0, 1), (335, .iload_n 1, 1), (336, .putfield 26, 3), (339, .return_, 1)]
theorem kdX12_ahead_319 : dkO cX12_ahead 319 ldX12_ahead_319 = true := by decide +kernel
theorem dX12_ahead_319 : decode cX12_ahead 319 = .ok (.bipush 48, 2) := dk_i kdX12_ahead_319 0 rfl
theorem dX12_ahead_321 : decode cX12_ahead 321 = .ok (.isub, 1) := dk_i kdX12_ahead_319 1 rfl
theorem dX12_ahead_322 : decode cX12_ahead 322 = .ok (.putfield 29, 3) := dk_i kdX12_ahead_319 2 rfl
theorem dX12_ahead_325 : decode cX12_ahead 325 = .ok (.iinc 5 1, 3) := dk_i kdX12_ahead_319 3 rfl
theorem dX12_ahead_328 : decode cX12_ahead 328 = .ok (.iinc 1 1, 3) := dk_i kdX12_ahead_319 4 rfl
theorem dX12_ahead_331 : decode cX12_ahead 331 = .ok (.goto (-127), 3) := dk_i kdX12_ahead_319 5 rfl
theorem dX12_ahead_334 : decode cX12_ahead 334 = .ok (.aload_n 0, 1) := dk_i kdX12_ahead_319 6 rfl
theorem dX12_ahead_335 : decode cX12_ahead 335 = .ok (.iload_n 1, 1) := dk_i kdX12_ahead_319 7 rfl
theorem dX12_ahead_336 : decode cX12_ahead 336 = .ok (.putfield 26, 3) := dk_i kdX12_ahead_319 8 rfl
theorem dX12_ahead_339 : decode cX12_ahead 339 = .ok (.return_, 1) := dk_i kdX12_ahead_319 9 rfl
def ldX12_isSign_0 : List (Nat × ClassFile.Instr × Nat) := [(0, .aload_n 0, 1), (1, .getfield 20, 3), (4, .iconst 3, 1), (5, .if_icmp .ne 15, 3), (8, .aload_n 0, 1), (9, .getfield 29, 3), (12, .iload_n 1, 1), (13, .if_icmp .ne 7, 3), (16, .iconst 1, 1), (17, .goto 4, 3), (20, .iconst 0, 1), (21, .ireturn, 1)]
theorem kdX12_isSign_0 : dkO cX12_isSign 0 ldX12_isSign_0 = true := by decide +kernel
theorem dX12_isSign_0 : decode cX12_isSign 0 = .ok (.aload_n 0, 1) := dk_i kdX12_isSign_0 0 rfl
theorem dX12_isSign_1 : decode cX12_isSign 1 = .ok (.getfield 20, 3) := dk_i kdX12_isSign_0 1 rfl
theorem dX12_isSign_4 : decode cX12_isSign 4 = .ok (.iconst 3, 1) := dk_i kdX12_isSign_0 2 rfl
theorem dX12_isSign_5 : decode cX12_isSign 5 = .ok (.if_icmp .ne 15, 3) := dk_i kdX12_isSign_0 3 rfl
theorem dX12_isSign_8 : decode cX12_isSign 8 = .ok (.aload_n 0, 1) := dk_i kdX12_isSign_0 4 rfl
theorem dX12_isSign_9 : decode cX12_isSign 9 = .ok (.getfield 29, 3) := dk_i kdX12_isSign_0 5 rfl
theorem dX12_isSign_12 : decode cX12_isSign 12 = .ok (.iload_n 1, 1) := dk_i kdX12_isSign_0 6 rfl
theorem dX12_isSign_13 : decode cX12_isSign 13 = .ok (.if_icmp .ne 7, 3) := dk_i kdX12_isSign_0 7 rfl
theorem dX12_isSign_16 : decode cX12_isSign 16 = .ok (.iconst 1, 1) := dk_i kdX12_isSign_0 8 rfl
theorem dX12_isSign_17 : decode cX12_isSign 17 = .ok (.goto 4, 3) := dk_i kdX12_isSign_0 9 rfl
theorem dX12_isSign_20 : decode cX12_isSign 20 = .ok (.iconst 0, 1) := dk_i kdX12_isSign_0 10 rfl
theorem dX12_isSign_21 : decode cX12_isSign 21 = .ok (.ireturn, 1) := dk_i kdX12_isSign_0 11 rfl
def ldX12_isWord_0 : List (Nat × ClassFile.Instr × Nat) := [(0, .aload_n 0, 1), (1, .getfield 20, 3), (4, .iconst 1, 1), (5, .if_icmp .ne 16, 3), (8, .aload_n 0, 1), (9, .getfield 32, 3), (12, .lload_n 1, 1), (13, .lcmp, 1), (14, .ifCond .ne 7, 3), (17, .iconst 1, 1), (18, .goto 4, 3), (21, .iconst 0, 1), (22, .ireturn, 1)]
theorem kdX12_isWord_0 : dkO cX12_isWord 0 ldX12_isWord_0 = true := by decide +kernel
theorem dX12_isWord_0 : decode cX12_isWord 0 = .ok (.aload_n 0, 1) := dk_i kdX12_isWord_0 0 rfl
theorem dX12_isWord_1 : decode cX12_isWord 1 = .ok (.getfield 20, 3) := dk_i kdX12_isWord_0 1 rfl
theorem dX12_isWord_4 : decode cX12_isWord 4 = .ok (.iconst 1, 1) := dk_i kdX12_isWord_0 2 rfl
theorem dX12_isWord_5 : decode cX12_isWord 5 = .ok (.if_icmp .ne 16, 3) := dk_i kdX12_isWord_0 3 rfl
theorem dX12_isWord_8 : decode cX12_isWord 8 = .ok (.aload_n 0, 1) := dk_i kdX12_isWord_0 4 rfl
theorem dX12_isWord_9 : decode cX12_isWord 9 = .ok (.getfield 32, 3) := dk_i kdX12_isWord_0 5 rfl
theorem dX12_isWord_12 : decode cX12_isWord 12 = .ok (.lload_n 1, 1) := dk_i kdX12_isWord_0 6 rfl
theorem dX12_isWord_13 : decode cX12_isWord 13 = .ok (.lcmp, 1) := dk_i kdX12_isWord_0 7 rfl
theorem dX12_isWord_14 : decode cX12_isWord 14 = .ok (.ifCond .ne 7, 3) := dk_i kdX12_isWord_0 8 rfl
theorem dX12_isWord_17 : decode cX12_isWord 17 = .ok (.iconst 1, 1) := dk_i kdX12_isWord_0 9 rfl
theorem dX12_isWord_18 : decode cX12_isWord 18 = .ok (.goto 4, 3) := dk_i kdX12_isWord_0 10 rfl
theorem dX12_isWord_21 : decode cX12_isWord 21 = .ok (.iconst 0, 1) := dk_i kdX12_isWord_0 11 rfl
theorem dX12_isWord_22 : decode cX12_isWord 22 = .ok (.ireturn, 1) := dk_i kdX12_isWord_0 12 rfl
def ldX12_must_0 : List (Nat × ClassFile.Instr × Nat) := [(0, .aload_n 0, 1), (1, .invokevirtual 238, 3), (4, .aload_n 0, 1), (5, .iload_n 1, 1), (6, .invokevirtual 241, 3), (9, .ifCond .ne 12, 3), (12, .aload_n 0, 1), (13, .iconst 1, 1), (14, .aload_n 0, 1), (15, .getfield 23, 3), (18, .invokevirtual 227, 3), (21, .aload_n 0, 1), (22, .getfield 36, 3), (25, .ifCond .ne 7, 3), (28, .aload_n 0, 1), (29, .invokevirtual 244, 3)]
theorem kdX12_must_0 : dkO cX12_must 0 ldX12_must_0 = true := by decide +kernel
theorem dX12_must_0 : decode cX12_must 0 = .ok (.aload_n 0, 1) := dk_i kdX12_must_0 0 rfl
theorem dX12_must_1 : decode cX12_must 1 = .ok (.invokevirtual 238, 3) := dk_i kdX12_must_0 1 rfl
theorem dX12_must_4 : decode cX12_must 4 = .ok (.aload_n 0, 1) := dk_i kdX12_must_0 2 rfl
theorem dX12_must_5 : decode cX12_must 5 = .ok (.iload_n 1, 1) := dk_i kdX12_must_0 3 rfl
theorem dX12_must_6 : decode cX12_must 6 = .ok (.invokevirtual 241, 3) := dk_i kdX12_must_0 4 rfl
theorem dX12_must_9 : decode cX12_must 9 = .ok (.ifCond .ne 12, 3) := dk_i kdX12_must_0 5 rfl
theorem dX12_must_12 : decode cX12_must 12 = .ok (.aload_n 0, 1) := dk_i kdX12_must_0 6 rfl
theorem dX12_must_13 : decode cX12_must 13 = .ok (.iconst 1, 1) := dk_i kdX12_must_0 7 rfl
theorem dX12_must_14 : decode cX12_must 14 = .ok (.aload_n 0, 1) := dk_i kdX12_must_0 8 rfl
theorem dX12_must_15 : decode cX12_must 15 = .ok (.getfield 23, 3) := dk_i kdX12_must_0 9 rfl
theorem dX12_must_18 : decode cX12_must 18 = .ok (.invokevirtual 227, 3) := dk_i kdX12_must_0 10 rfl
theorem dX12_must_21 : decode cX12_must 21 = .ok (.aload_n 0, 1) := dk_i kdX12_must_0 11 rfl
theorem dX12_must_22 : decode cX12_must 22 = .ok (.getfield 36, 3) := dk_i kdX12_must_0 12 rfl
theorem dX12_must_25 : decode cX12_must 25 = .ok (.ifCond .ne 7, 3) := dk_i kdX12_must_0 13 rfl
theorem dX12_must_28 : decode cX12_must 28 = .ok (.aload_n 0, 1) := dk_i kdX12_must_0 14 rfl
theorem dX12_must_29 : decode cX12_must 29 = .ok (.invokevirtual 244, 3) := dk_i kdX12_must_0 15 rfl
def ldX12_must_32 : List (Nat × ClassFile.Instr × Nat) := [(32, .return_, 1)]
theorem kdX12_must_32 : dkO cX12_must 32 ldX12_must_32 = true := by decide +kernel
theorem dX12_must_32 : decode cX12_must 32 = .ok (.return_, 1) := dk_i kdX12_must_32 0 rfl
def ldX12_isOwn_0 : List (Nat × ClassFile.Instr × Nat) := [(0, .lload_n 1, 1), (1, .ldc2_w 247, 3), (4, .lcmp, 1), (5, .ifCond .eq 35, 3), (8, .lload_n 1, 1), (9, .ldc2_w 249, 3), (12, .lcmp, 1), (13, .ifCond .eq 27, 3), (16, .lload_n 1, 1), (17, .ldc2_w 251, 3), (20, .lcmp, 1), (21, .ifCond .eq 19, 3), (24, .lload_n 1, 1), (25, .ldc2_w 253, 3), (28, .lcmp, 1), (29, .ifCond .eq 11, 3)]
theorem kdX12_isOwn_0 : dkO cX12_isOwn 0 ldX12_isOwn_0 = true := by decide +kernel
theorem dX12_isOwn_0 : decode cX12_isOwn 0 = .ok (.lload_n 1, 1) := dk_i kdX12_isOwn_0 0 rfl
theorem dX12_isOwn_1 : decode cX12_isOwn 1 = .ok (.ldc2_w 247, 3) := dk_i kdX12_isOwn_0 1 rfl
theorem dX12_isOwn_4 : decode cX12_isOwn 4 = .ok (.lcmp, 1) := dk_i kdX12_isOwn_0 2 rfl
theorem dX12_isOwn_5 : decode cX12_isOwn 5 = .ok (.ifCond .eq 35, 3) := dk_i kdX12_isOwn_0 3 rfl
theorem dX12_isOwn_8 : decode cX12_isOwn 8 = .ok (.lload_n 1, 1) := dk_i kdX12_isOwn_0 4 rfl
theorem dX12_isOwn_9 : decode cX12_isOwn 9 = .ok (.ldc2_w 249, 3) := dk_i kdX12_isOwn_0 5 rfl
theorem dX12_isOwn_12 : decode cX12_isOwn 12 = .ok (.lcmp, 1) := dk_i kdX12_isOwn_0 6 rfl
theorem dX12_isOwn_13 : decode cX12_isOwn 13 = .ok (.ifCond .eq 27, 3) := dk_i kdX12_isOwn_0 7 rfl
theorem dX12_isOwn_16 : decode cX12_isOwn 16 = .ok (.lload_n 1, 1) := dk_i kdX12_isOwn_0 8 rfl
theorem dX12_isOwn_17 : decode cX12_isOwn 17 = .ok (.ldc2_w 251, 3) := dk_i kdX12_isOwn_0 9 rfl
theorem dX12_isOwn_20 : decode cX12_isOwn 20 = .ok (.lcmp, 1) := dk_i kdX12_isOwn_0 10 rfl
theorem dX12_isOwn_21 : decode cX12_isOwn 21 = .ok (.ifCond .eq 19, 3) := dk_i kdX12_isOwn_0 11 rfl
theorem dX12_isOwn_24 : decode cX12_isOwn 24 = .ok (.lload_n 1, 1) := dk_i kdX12_isOwn_0 12 rfl
theorem dX12_isOwn_25 : decode cX12_isOwn 25 = .ok (.ldc2_w 253, 3) := dk_i kdX12_isOwn_0 13 rfl
theorem dX12_isOwn_28 : decode cX12_isOwn 28 = .ok (.lcmp, 1) := dk_i kdX12_isOwn_0 14 rfl
theorem dX12_isOwn_29 : decode cX12_isOwn 29 = .ok (.ifCond .eq 11, 3) := dk_i kdX12_isOwn_0 15 rfl
def ldX12_isOwn_32 : List (Nat × ClassFile.Instr × Nat) := [(32, .lload_n 1, 1), (33, .ldc2_w 255, 3), (36, .lcmp, 1), (37, .ifCond .ne 5, 3), (40, .iconst 1, 1), (41, .ireturn, 1), (42, .lload_n 1, 1), (43, .ldc2_w 257, 3), (46, .lcmp, 1), (47, .ifCond .eq 35, 3), (50, .lload_n 1, 1), (51, .ldc2_w 259, 3), (54, .lcmp, 1), (55, .ifCond .eq 27, 3), (58, .lload_n 1, 1), (59, .ldc2_w 261, 3)]
theorem kdX12_isOwn_32 : dkO cX12_isOwn 32 ldX12_isOwn_32 = true := by decide +kernel
theorem dX12_isOwn_32 : decode cX12_isOwn 32 = .ok (.lload_n 1, 1) := dk_i kdX12_isOwn_32 0 rfl
theorem dX12_isOwn_33 : decode cX12_isOwn 33 = .ok (.ldc2_w 255, 3) := dk_i kdX12_isOwn_32 1 rfl
theorem dX12_isOwn_36 : decode cX12_isOwn 36 = .ok (.lcmp, 1) := dk_i kdX12_isOwn_32 2 rfl
theorem dX12_isOwn_37 : decode cX12_isOwn 37 = .ok (.ifCond .ne 5, 3) := dk_i kdX12_isOwn_32 3 rfl
theorem dX12_isOwn_40 : decode cX12_isOwn 40 = .ok (.iconst 1, 1) := dk_i kdX12_isOwn_32 4 rfl
theorem dX12_isOwn_41 : decode cX12_isOwn 41 = .ok (.ireturn, 1) := dk_i kdX12_isOwn_32 5 rfl
theorem dX12_isOwn_42 : decode cX12_isOwn 42 = .ok (.lload_n 1, 1) := dk_i kdX12_isOwn_32 6 rfl
theorem dX12_isOwn_43 : decode cX12_isOwn 43 = .ok (.ldc2_w 257, 3) := dk_i kdX12_isOwn_32 7 rfl
theorem dX12_isOwn_46 : decode cX12_isOwn 46 = .ok (.lcmp, 1) := dk_i kdX12_isOwn_32 8 rfl
theorem dX12_isOwn_47 : decode cX12_isOwn 47 = .ok (.ifCond .eq 35, 3) := dk_i kdX12_isOwn_32 9 rfl
theorem dX12_isOwn_50 : decode cX12_isOwn 50 = .ok (.lload_n 1, 1) := dk_i kdX12_isOwn_32 10 rfl
theorem dX12_isOwn_51 : decode cX12_isOwn 51 = .ok (.ldc2_w 259, 3) := dk_i kdX12_isOwn_32 11 rfl
theorem dX12_isOwn_54 : decode cX12_isOwn 54 = .ok (.lcmp, 1) := dk_i kdX12_isOwn_32 12 rfl
theorem dX12_isOwn_55 : decode cX12_isOwn 55 = .ok (.ifCond .eq 27, 3) := dk_i kdX12_isOwn_32 13 rfl
theorem dX12_isOwn_58 : decode cX12_isOwn 58 = .ok (.lload_n 1, 1) := dk_i kdX12_isOwn_32 14 rfl
theorem dX12_isOwn_59 : decode cX12_isOwn 59 = .ok (.ldc2_w 261, 3) := dk_i kdX12_isOwn_32 15 rfl
def ldX12_isOwn_62 : List (Nat × ClassFile.Instr × Nat) := [(62, .lcmp, 1), (63, .ifCond .eq 19, 3), (66, .lload_n 1, 1), (67, .ldc2_w 263, 3), (70, .lcmp, 1), (71, .ifCond .eq 11, 3), (74, .lload_n 1, 1), (75, .ldc2_w 265, 3), (78, .lcmp, 1), (79, .ifCond .ne 5, 3), (82, .iconst 1, 1), (83, .ireturn, 1), (84, .lload_n 1, 1), (85, .ldc2_w 267, 3), (88, .lcmp, 1), (89, .ifCond .eq 35, 3)]
theorem kdX12_isOwn_62 : dkO cX12_isOwn 62 ldX12_isOwn_62 = true := by decide +kernel
theorem dX12_isOwn_62 : decode cX12_isOwn 62 = .ok (.lcmp, 1) := dk_i kdX12_isOwn_62 0 rfl
theorem dX12_isOwn_63 : decode cX12_isOwn 63 = .ok (.ifCond .eq 19, 3) := dk_i kdX12_isOwn_62 1 rfl
theorem dX12_isOwn_66 : decode cX12_isOwn 66 = .ok (.lload_n 1, 1) := dk_i kdX12_isOwn_62 2 rfl
theorem dX12_isOwn_67 : decode cX12_isOwn 67 = .ok (.ldc2_w 263, 3) := dk_i kdX12_isOwn_62 3 rfl
theorem dX12_isOwn_70 : decode cX12_isOwn 70 = .ok (.lcmp, 1) := dk_i kdX12_isOwn_62 4 rfl
theorem dX12_isOwn_71 : decode cX12_isOwn 71 = .ok (.ifCond .eq 11, 3) := dk_i kdX12_isOwn_62 5 rfl
theorem dX12_isOwn_74 : decode cX12_isOwn 74 = .ok (.lload_n 1, 1) := dk_i kdX12_isOwn_62 6 rfl
theorem dX12_isOwn_75 : decode cX12_isOwn 75 = .ok (.ldc2_w 265, 3) := dk_i kdX12_isOwn_62 7 rfl
theorem dX12_isOwn_78 : decode cX12_isOwn 78 = .ok (.lcmp, 1) := dk_i kdX12_isOwn_62 8 rfl
theorem dX12_isOwn_79 : decode cX12_isOwn 79 = .ok (.ifCond .ne 5, 3) := dk_i kdX12_isOwn_62 9 rfl
theorem dX12_isOwn_82 : decode cX12_isOwn 82 = .ok (.iconst 1, 1) := dk_i kdX12_isOwn_62 10 rfl
theorem dX12_isOwn_83 : decode cX12_isOwn 83 = .ok (.ireturn, 1) := dk_i kdX12_isOwn_62 11 rfl
theorem dX12_isOwn_84 : decode cX12_isOwn 84 = .ok (.lload_n 1, 1) := dk_i kdX12_isOwn_62 12 rfl
theorem dX12_isOwn_85 : decode cX12_isOwn 85 = .ok (.ldc2_w 267, 3) := dk_i kdX12_isOwn_62 13 rfl
theorem dX12_isOwn_88 : decode cX12_isOwn 88 = .ok (.lcmp, 1) := dk_i kdX12_isOwn_62 14 rfl
theorem dX12_isOwn_89 : decode cX12_isOwn 89 = .ok (.ifCond .eq 35, 3) := dk_i kdX12_isOwn_62 15 rfl
def ldX12_isOwn_92 : List (Nat × ClassFile.Instr × Nat) := [(92, .lload_n 1, 1), (93, .ldc2_w 269, 3), (96, .lcmp, 1), (97, .ifCond .eq 27, 3), (100, .lload_n 1, 1), (101, .ldc2_w 271, 3), (104, .lcmp, 1), (105, .ifCond .eq 19, 3), (108, .lload_n 1, 1), (109, .ldc2_w 273, 3), (112, .lcmp, 1), (113, .ifCond .eq 11, 3), (116, .lload_n 1, 1), (117, .ldc2_w 275, 3), (120, .lcmp, 1), (121, .ifCond .ne 5, 3)]
theorem kdX12_isOwn_92 : dkO cX12_isOwn 92 ldX12_isOwn_92 = true := by decide +kernel
theorem dX12_isOwn_92 : decode cX12_isOwn 92 = .ok (.lload_n 1, 1) := dk_i kdX12_isOwn_92 0 rfl
theorem dX12_isOwn_93 : decode cX12_isOwn 93 = .ok (.ldc2_w 269, 3) := dk_i kdX12_isOwn_92 1 rfl
theorem dX12_isOwn_96 : decode cX12_isOwn 96 = .ok (.lcmp, 1) := dk_i kdX12_isOwn_92 2 rfl
theorem dX12_isOwn_97 : decode cX12_isOwn 97 = .ok (.ifCond .eq 27, 3) := dk_i kdX12_isOwn_92 3 rfl
theorem dX12_isOwn_100 : decode cX12_isOwn 100 = .ok (.lload_n 1, 1) := dk_i kdX12_isOwn_92 4 rfl
theorem dX12_isOwn_101 : decode cX12_isOwn 101 = .ok (.ldc2_w 271, 3) := dk_i kdX12_isOwn_92 5 rfl
theorem dX12_isOwn_104 : decode cX12_isOwn 104 = .ok (.lcmp, 1) := dk_i kdX12_isOwn_92 6 rfl
theorem dX12_isOwn_105 : decode cX12_isOwn 105 = .ok (.ifCond .eq 19, 3) := dk_i kdX12_isOwn_92 7 rfl
theorem dX12_isOwn_108 : decode cX12_isOwn 108 = .ok (.lload_n 1, 1) := dk_i kdX12_isOwn_92 8 rfl
theorem dX12_isOwn_109 : decode cX12_isOwn 109 = .ok (.ldc2_w 273, 3) := dk_i kdX12_isOwn_92 9 rfl
theorem dX12_isOwn_112 : decode cX12_isOwn 112 = .ok (.lcmp, 1) := dk_i kdX12_isOwn_92 10 rfl
theorem dX12_isOwn_113 : decode cX12_isOwn 113 = .ok (.ifCond .eq 11, 3) := dk_i kdX12_isOwn_92 11 rfl
theorem dX12_isOwn_116 : decode cX12_isOwn 116 = .ok (.lload_n 1, 1) := dk_i kdX12_isOwn_92 12 rfl
theorem dX12_isOwn_117 : decode cX12_isOwn 117 = .ok (.ldc2_w 275, 3) := dk_i kdX12_isOwn_92 13 rfl
theorem dX12_isOwn_120 : decode cX12_isOwn 120 = .ok (.lcmp, 1) := dk_i kdX12_isOwn_92 14 rfl
theorem dX12_isOwn_121 : decode cX12_isOwn 121 = .ok (.ifCond .ne 5, 3) := dk_i kdX12_isOwn_92 15 rfl
def ldX12_isOwn_124 : List (Nat × ClassFile.Instr × Nat) := [(124, .iconst 1, 1), (125, .ireturn, 1), (126, .lload_n 1, 1), (127, .ldc2_w 277, 3), (130, .lcmp, 1), (131, .ifCond .eq 35, 3), (134, .lload_n 1, 1), (135, .ldc2_w 279, 3), (138, .lcmp, 1), (139, .ifCond .eq 27, 3), (142, .lload_n 1, 1), (143, .ldc2_w 281, 3), (146, .lcmp, 1), (147, .ifCond .eq 19, 3), (150, .lload_n 1, 1), (151, .ldc2_w 283, 3)]
theorem kdX12_isOwn_124 : dkO cX12_isOwn 124 ldX12_isOwn_124 = true := by decide +kernel
theorem dX12_isOwn_124 : decode cX12_isOwn 124 = .ok (.iconst 1, 1) := dk_i kdX12_isOwn_124 0 rfl
theorem dX12_isOwn_125 : decode cX12_isOwn 125 = .ok (.ireturn, 1) := dk_i kdX12_isOwn_124 1 rfl
theorem dX12_isOwn_126 : decode cX12_isOwn 126 = .ok (.lload_n 1, 1) := dk_i kdX12_isOwn_124 2 rfl
theorem dX12_isOwn_127 : decode cX12_isOwn 127 = .ok (.ldc2_w 277, 3) := dk_i kdX12_isOwn_124 3 rfl
theorem dX12_isOwn_130 : decode cX12_isOwn 130 = .ok (.lcmp, 1) := dk_i kdX12_isOwn_124 4 rfl
theorem dX12_isOwn_131 : decode cX12_isOwn 131 = .ok (.ifCond .eq 35, 3) := dk_i kdX12_isOwn_124 5 rfl
theorem dX12_isOwn_134 : decode cX12_isOwn 134 = .ok (.lload_n 1, 1) := dk_i kdX12_isOwn_124 6 rfl
theorem dX12_isOwn_135 : decode cX12_isOwn 135 = .ok (.ldc2_w 279, 3) := dk_i kdX12_isOwn_124 7 rfl
theorem dX12_isOwn_138 : decode cX12_isOwn 138 = .ok (.lcmp, 1) := dk_i kdX12_isOwn_124 8 rfl
theorem dX12_isOwn_139 : decode cX12_isOwn 139 = .ok (.ifCond .eq 27, 3) := dk_i kdX12_isOwn_124 9 rfl
theorem dX12_isOwn_142 : decode cX12_isOwn 142 = .ok (.lload_n 1, 1) := dk_i kdX12_isOwn_124 10 rfl
theorem dX12_isOwn_143 : decode cX12_isOwn 143 = .ok (.ldc2_w 281, 3) := dk_i kdX12_isOwn_124 11 rfl
theorem dX12_isOwn_146 : decode cX12_isOwn 146 = .ok (.lcmp, 1) := dk_i kdX12_isOwn_124 12 rfl
theorem dX12_isOwn_147 : decode cX12_isOwn 147 = .ok (.ifCond .eq 19, 3) := dk_i kdX12_isOwn_124 13 rfl
theorem dX12_isOwn_150 : decode cX12_isOwn 150 = .ok (.lload_n 1, 1) := dk_i kdX12_isOwn_124 14 rfl
theorem dX12_isOwn_151 : decode cX12_isOwn 151 = .ok (.ldc2_w 283, 3) := dk_i kdX12_isOwn_124 15 rfl
def ldX12_isOwn_154 : List (Nat × ClassFile.Instr × Nat) := [(154, .lcmp, 1), (155, .ifCond .eq 11, 3), (158, .lload_n 1, 1), (159, .ldc2_w 285, 3), (162, .lcmp, 1), (163, .ifCond .ne 5, 3), (166, .iconst 1, 1), (167, .ireturn, 1), (168, .lload_n 1, 1), (169, .ldc2_w 287, 3), (172, .lcmp, 1), (173, .ifCond .eq 35, 3), (176, .lload_n 1, 1), (177, .ldc2_w 289, 3), (180, .lcmp, 1), (181, .ifCond .eq 27, 3)]
theorem kdX12_isOwn_154 : dkO cX12_isOwn 154 ldX12_isOwn_154 = true := by decide +kernel
theorem dX12_isOwn_154 : decode cX12_isOwn 154 = .ok (.lcmp, 1) := dk_i kdX12_isOwn_154 0 rfl
theorem dX12_isOwn_155 : decode cX12_isOwn 155 = .ok (.ifCond .eq 11, 3) := dk_i kdX12_isOwn_154 1 rfl
theorem dX12_isOwn_158 : decode cX12_isOwn 158 = .ok (.lload_n 1, 1) := dk_i kdX12_isOwn_154 2 rfl
theorem dX12_isOwn_159 : decode cX12_isOwn 159 = .ok (.ldc2_w 285, 3) := dk_i kdX12_isOwn_154 3 rfl
theorem dX12_isOwn_162 : decode cX12_isOwn 162 = .ok (.lcmp, 1) := dk_i kdX12_isOwn_154 4 rfl
theorem dX12_isOwn_163 : decode cX12_isOwn 163 = .ok (.ifCond .ne 5, 3) := dk_i kdX12_isOwn_154 5 rfl
theorem dX12_isOwn_166 : decode cX12_isOwn 166 = .ok (.iconst 1, 1) := dk_i kdX12_isOwn_154 6 rfl
theorem dX12_isOwn_167 : decode cX12_isOwn 167 = .ok (.ireturn, 1) := dk_i kdX12_isOwn_154 7 rfl
theorem dX12_isOwn_168 : decode cX12_isOwn 168 = .ok (.lload_n 1, 1) := dk_i kdX12_isOwn_154 8 rfl
theorem dX12_isOwn_169 : decode cX12_isOwn 169 = .ok (.ldc2_w 287, 3) := dk_i kdX12_isOwn_154 9 rfl
theorem dX12_isOwn_172 : decode cX12_isOwn 172 = .ok (.lcmp, 1) := dk_i kdX12_isOwn_154 10 rfl
theorem dX12_isOwn_173 : decode cX12_isOwn 173 = .ok (.ifCond .eq 35, 3) := dk_i kdX12_isOwn_154 11 rfl
theorem dX12_isOwn_176 : decode cX12_isOwn 176 = .ok (.lload_n 1, 1) := dk_i kdX12_isOwn_154 12 rfl
theorem dX12_isOwn_177 : decode cX12_isOwn 177 = .ok (.ldc2_w 289, 3) := dk_i kdX12_isOwn_154 13 rfl
theorem dX12_isOwn_180 : decode cX12_isOwn 180 = .ok (.lcmp, 1) := dk_i kdX12_isOwn_154 14 rfl
theorem dX12_isOwn_181 : decode cX12_isOwn 181 = .ok (.ifCond .eq 27, 3) := dk_i kdX12_isOwn_154 15 rfl
def ldX12_isOwn_184 : List (Nat × ClassFile.Instr × Nat) := [(184, .lload_n 1, 1), (185, .ldc2_w 291, 3), (188, .lcmp, 1), (189, .ifCond .eq 19, 3), (192, .lload_n 1, 1), (193, .ldc2_w 293, 3), (196, .lcmp, 1), (197, .ifCond .eq 11, 3), (200, .lload_n 1, 1), (201, .ldc2_w 295, 3), (204, .lcmp, 1), (205, .ifCond .ne 5, 3), (208, .iconst 1, 1), (209, .ireturn, 1), (210, .iconst 0, 1), (211, .ireturn, 1)]
theorem kdX12_isOwn_184 : dkO cX12_isOwn 184 ldX12_isOwn_184 = true := by decide +kernel
theorem dX12_isOwn_184 : decode cX12_isOwn 184 = .ok (.lload_n 1, 1) := dk_i kdX12_isOwn_184 0 rfl
theorem dX12_isOwn_185 : decode cX12_isOwn 185 = .ok (.ldc2_w 291, 3) := dk_i kdX12_isOwn_184 1 rfl
theorem dX12_isOwn_188 : decode cX12_isOwn 188 = .ok (.lcmp, 1) := dk_i kdX12_isOwn_184 2 rfl
theorem dX12_isOwn_189 : decode cX12_isOwn 189 = .ok (.ifCond .eq 19, 3) := dk_i kdX12_isOwn_184 3 rfl
theorem dX12_isOwn_192 : decode cX12_isOwn 192 = .ok (.lload_n 1, 1) := dk_i kdX12_isOwn_184 4 rfl
theorem dX12_isOwn_193 : decode cX12_isOwn 193 = .ok (.ldc2_w 293, 3) := dk_i kdX12_isOwn_184 5 rfl
theorem dX12_isOwn_196 : decode cX12_isOwn 196 = .ok (.lcmp, 1) := dk_i kdX12_isOwn_184 6 rfl
theorem dX12_isOwn_197 : decode cX12_isOwn 197 = .ok (.ifCond .eq 11, 3) := dk_i kdX12_isOwn_184 7 rfl
theorem dX12_isOwn_200 : decode cX12_isOwn 200 = .ok (.lload_n 1, 1) := dk_i kdX12_isOwn_184 8 rfl
theorem dX12_isOwn_201 : decode cX12_isOwn 201 = .ok (.ldc2_w 295, 3) := dk_i kdX12_isOwn_184 9 rfl
theorem dX12_isOwn_204 : decode cX12_isOwn 204 = .ok (.lcmp, 1) := dk_i kdX12_isOwn_184 10 rfl
theorem dX12_isOwn_205 : decode cX12_isOwn 205 = .ok (.ifCond .ne 5, 3) := dk_i kdX12_isOwn_184 11 rfl
theorem dX12_isOwn_208 : decode cX12_isOwn 208 = .ok (.iconst 1, 1) := dk_i kdX12_isOwn_184 12 rfl
theorem dX12_isOwn_209 : decode cX12_isOwn 209 = .ok (.ireturn, 1) := dk_i kdX12_isOwn_184 13 rfl
theorem dX12_isOwn_210 : decode cX12_isOwn 210 = .ok (.iconst 0, 1) := dk_i kdX12_isOwn_184 14 rfl
theorem dX12_isOwn_211 : decode cX12_isOwn 211 = .ok (.ireturn, 1) := dk_i kdX12_isOwn_184 15 rfl
def ldX12_manyOf_0 : List (Nat × ClassFile.Instr × Nat) := [(0, .iload_n 2, 1), (1, .ifCond .ne 12, 3), (4, .aload_n 0, 1), (5, .getfield 54, 3), (8, .iload_n 1, 1), (9, .iaload, 1), (10, .goto 23, 3), (13, .iload_n 2, 1), (14, .iconst 1, 1), (15, .if_icmp .ne 12, 3), (18, .aload_n 0, 1), (19, .getfield 63, 3), (22, .iload_n 1, 1), (23, .iaload, 1), (24, .goto 9, 3), (27, .aload_n 0, 1)]
theorem kdX12_manyOf_0 : dkO cX12_manyOf 0 ldX12_manyOf_0 = true := by decide +kernel
theorem dX12_manyOf_0 : decode cX12_manyOf 0 = .ok (.iload_n 2, 1) := dk_i kdX12_manyOf_0 0 rfl
theorem dX12_manyOf_1 : decode cX12_manyOf 1 = .ok (.ifCond .ne 12, 3) := dk_i kdX12_manyOf_0 1 rfl
theorem dX12_manyOf_4 : decode cX12_manyOf 4 = .ok (.aload_n 0, 1) := dk_i kdX12_manyOf_0 2 rfl
theorem dX12_manyOf_5 : decode cX12_manyOf 5 = .ok (.getfield 54, 3) := dk_i kdX12_manyOf_0 3 rfl
theorem dX12_manyOf_8 : decode cX12_manyOf 8 = .ok (.iload_n 1, 1) := dk_i kdX12_manyOf_0 4 rfl
theorem dX12_manyOf_9 : decode cX12_manyOf 9 = .ok (.iaload, 1) := dk_i kdX12_manyOf_0 5 rfl
theorem dX12_manyOf_10 : decode cX12_manyOf 10 = .ok (.goto 23, 3) := dk_i kdX12_manyOf_0 6 rfl
theorem dX12_manyOf_13 : decode cX12_manyOf 13 = .ok (.iload_n 2, 1) := dk_i kdX12_manyOf_0 7 rfl
theorem dX12_manyOf_14 : decode cX12_manyOf 14 = .ok (.iconst 1, 1) := dk_i kdX12_manyOf_0 8 rfl
theorem dX12_manyOf_15 : decode cX12_manyOf 15 = .ok (.if_icmp .ne 12, 3) := dk_i kdX12_manyOf_0 9 rfl
theorem dX12_manyOf_18 : decode cX12_manyOf 18 = .ok (.aload_n 0, 1) := dk_i kdX12_manyOf_0 10 rfl
theorem dX12_manyOf_19 : decode cX12_manyOf 19 = .ok (.getfield 63, 3) := dk_i kdX12_manyOf_0 11 rfl
theorem dX12_manyOf_22 : decode cX12_manyOf 22 = .ok (.iload_n 1, 1) := dk_i kdX12_manyOf_0 12 rfl
theorem dX12_manyOf_23 : decode cX12_manyOf 23 = .ok (.iaload, 1) := dk_i kdX12_manyOf_0 13 rfl
theorem dX12_manyOf_24 : decode cX12_manyOf 24 = .ok (.goto 9, 3) := dk_i kdX12_manyOf_0 14 rfl
theorem dX12_manyOf_27 : decode cX12_manyOf 27 = .ok (.aload_n 0, 1) := dk_i kdX12_manyOf_0 15 rfl
def ldX12_manyOf_28 : List (Nat × ClassFile.Instr × Nat) := [(28, .getfield 78, 3), (31, .iload_n 1, 1), (32, .iaload, 1), (33, .ireturn, 1)]
theorem kdX12_manyOf_28 : dkO cX12_manyOf 28 ldX12_manyOf_28 = true := by decide +kernel
theorem dX12_manyOf_28 : decode cX12_manyOf 28 = .ok (.getfield 78, 3) := dk_i kdX12_manyOf_28 0 rfl
theorem dX12_manyOf_31 : decode cX12_manyOf 31 = .ok (.iload_n 1, 1) := dk_i kdX12_manyOf_28 1 rfl
theorem dX12_manyOf_32 : decode cX12_manyOf 32 = .ok (.iaload, 1) := dk_i kdX12_manyOf_28 2 rfl
theorem dX12_manyOf_33 : decode cX12_manyOf 33 = .ok (.ireturn, 1) := dk_i kdX12_manyOf_28 3 rfl
def ldX12_nameOf_0 : List (Nat × ClassFile.Instr × Nat) := [(0, .iload_n 2, 1), (1, .ifCond .ne 17, 3), (4, .aload_n 0, 1), (5, .getfield 102, 3), (8, .bipush 6, 2), (10, .iload_n 1, 1), (11, .imul, 1), (12, .iload_n 3, 1), (13, .iadd, 1), (14, .laload, 1), (15, .goto 32, 3), (18, .iload_n 2, 1), (19, .iconst 1, 1), (20, .if_icmp .ne 16, 3), (23, .aload_n 0, 1), (24, .getfield 106, 3)]
theorem kdX12_nameOf_0 : dkO cX12_nameOf 0 ldX12_nameOf_0 = true := by decide +kernel
theorem dX12_nameOf_0 : decode cX12_nameOf 0 = .ok (.iload_n 2, 1) := dk_i kdX12_nameOf_0 0 rfl
theorem dX12_nameOf_1 : decode cX12_nameOf 1 = .ok (.ifCond .ne 17, 3) := dk_i kdX12_nameOf_0 1 rfl
theorem dX12_nameOf_4 : decode cX12_nameOf 4 = .ok (.aload_n 0, 1) := dk_i kdX12_nameOf_0 2 rfl
theorem dX12_nameOf_5 : decode cX12_nameOf 5 = .ok (.getfield 102, 3) := dk_i kdX12_nameOf_0 3 rfl
theorem dX12_nameOf_8 : decode cX12_nameOf 8 = .ok (.bipush 6, 2) := dk_i kdX12_nameOf_0 4 rfl
theorem dX12_nameOf_10 : decode cX12_nameOf 10 = .ok (.iload_n 1, 1) := dk_i kdX12_nameOf_0 5 rfl
theorem dX12_nameOf_11 : decode cX12_nameOf 11 = .ok (.imul, 1) := dk_i kdX12_nameOf_0 6 rfl
theorem dX12_nameOf_12 : decode cX12_nameOf 12 = .ok (.iload_n 3, 1) := dk_i kdX12_nameOf_0 7 rfl
theorem dX12_nameOf_13 : decode cX12_nameOf 13 = .ok (.iadd, 1) := dk_i kdX12_nameOf_0 8 rfl
theorem dX12_nameOf_14 : decode cX12_nameOf 14 = .ok (.laload, 1) := dk_i kdX12_nameOf_0 9 rfl
theorem dX12_nameOf_15 : decode cX12_nameOf 15 = .ok (.goto 32, 3) := dk_i kdX12_nameOf_0 10 rfl
theorem dX12_nameOf_18 : decode cX12_nameOf 18 = .ok (.iload_n 2, 1) := dk_i kdX12_nameOf_0 11 rfl
theorem dX12_nameOf_19 : decode cX12_nameOf 19 = .ok (.iconst 1, 1) := dk_i kdX12_nameOf_0 12 rfl
theorem dX12_nameOf_20 : decode cX12_nameOf 20 = .ok (.if_icmp .ne 16, 3) := dk_i kdX12_nameOf_0 13 rfl
theorem dX12_nameOf_23 : decode cX12_nameOf 23 = .ok (.aload_n 0, 1) := dk_i kdX12_nameOf_0 14 rfl
theorem dX12_nameOf_24 : decode cX12_nameOf 24 = .ok (.getfield 106, 3) := dk_i kdX12_nameOf_0 15 rfl
def ldX12_nameOf_27 : List (Nat × ClassFile.Instr × Nat) := [(27, .iconst 5, 1), (28, .iload_n 1, 1), (29, .imul, 1), (30, .iload_n 3, 1), (31, .iadd, 1), (32, .laload, 1), (33, .goto 14, 3), (36, .aload_n 0, 1), (37, .getfield 109, 3), (40, .bipush 6, 2), (42, .iload_n 1, 1), (43, .imul, 1), (44, .iload_n 3, 1), (45, .iadd, 1), (46, .laload, 1), (47, .lreturn, 1)]
theorem kdX12_nameOf_27 : dkO cX12_nameOf 27 ldX12_nameOf_27 = true := by decide +kernel
theorem dX12_nameOf_27 : decode cX12_nameOf 27 = .ok (.iconst 5, 1) := dk_i kdX12_nameOf_27 0 rfl
theorem dX12_nameOf_28 : decode cX12_nameOf 28 = .ok (.iload_n 1, 1) := dk_i kdX12_nameOf_27 1 rfl
theorem dX12_nameOf_29 : decode cX12_nameOf 29 = .ok (.imul, 1) := dk_i kdX12_nameOf_27 2 rfl
theorem dX12_nameOf_30 : decode cX12_nameOf 30 = .ok (.iload_n 3, 1) := dk_i kdX12_nameOf_27 3 rfl
theorem dX12_nameOf_31 : decode cX12_nameOf 31 = .ok (.iadd, 1) := dk_i kdX12_nameOf_27 4 rfl
theorem dX12_nameOf_32 : decode cX12_nameOf 32 = .ok (.laload, 1) := dk_i kdX12_nameOf_27 5 rfl
theorem dX12_nameOf_33 : decode cX12_nameOf 33 = .ok (.goto 14, 3) := dk_i kdX12_nameOf_27 6 rfl
theorem dX12_nameOf_36 : decode cX12_nameOf 36 = .ok (.aload_n 0, 1) := dk_i kdX12_nameOf_27 7 rfl
theorem dX12_nameOf_37 : decode cX12_nameOf 37 = .ok (.getfield 109, 3) := dk_i kdX12_nameOf_27 8 rfl
theorem dX12_nameOf_40 : decode cX12_nameOf 40 = .ok (.bipush 6, 2) := dk_i kdX12_nameOf_27 9 rfl
theorem dX12_nameOf_42 : decode cX12_nameOf 42 = .ok (.iload_n 1, 1) := dk_i kdX12_nameOf_27 10 rfl
theorem dX12_nameOf_43 : decode cX12_nameOf 43 = .ok (.imul, 1) := dk_i kdX12_nameOf_27 11 rfl
theorem dX12_nameOf_44 : decode cX12_nameOf 44 = .ok (.iload_n 3, 1) := dk_i kdX12_nameOf_27 12 rfl
theorem dX12_nameOf_45 : decode cX12_nameOf 45 = .ok (.iadd, 1) := dk_i kdX12_nameOf_27 13 rfl
theorem dX12_nameOf_46 : decode cX12_nameOf 46 = .ok (.laload, 1) := dk_i kdX12_nameOf_27 14 rfl
theorem dX12_nameOf_47 : decode cX12_nameOf 47 = .ok (.lreturn, 1) := dk_i kdX12_nameOf_27 15 rfl
def ldX12_named_0 : List (Nat × ClassFile.Instr × Nat) := [(0, .iconst 0, 1), (1, .istore 4, 2), (3, .iload 4, 2), (5, .aload_n 0, 1), (6, .aload_n 0, 1), (7, .getfield 115, 3), (10, .iload_n 1, 1), (11, .invokevirtual 297, 3), (14, .if_icmp .ge 28, 3), (17, .aload_n 0, 1), (18, .aload_n 0, 1), (19, .getfield 115, 3), (22, .iload_n 1, 1), (23, .iload 4, 2), (25, .invokevirtual 301, 3), (28, .lload_n 2, 1)]
theorem kdX12_named_0 : dkO cX12_named 0 ldX12_named_0 = true := by decide +kernel
theorem dX12_named_0 : decode cX12_named 0 = .ok (.iconst 0, 1) := dk_i kdX12_named_0 0 rfl
theorem dX12_named_1 : decode cX12_named 1 = .ok (.istore 4, 2) := dk_i kdX12_named_0 1 rfl
theorem dX12_named_3 : decode cX12_named 3 = .ok (.iload 4, 2) := dk_i kdX12_named_0 2 rfl
theorem dX12_named_5 : decode cX12_named 5 = .ok (.aload_n 0, 1) := dk_i kdX12_named_0 3 rfl
theorem dX12_named_6 : decode cX12_named 6 = .ok (.aload_n 0, 1) := dk_i kdX12_named_0 4 rfl
theorem dX12_named_7 : decode cX12_named 7 = .ok (.getfield 115, 3) := dk_i kdX12_named_0 5 rfl
theorem dX12_named_10 : decode cX12_named 10 = .ok (.iload_n 1, 1) := dk_i kdX12_named_0 6 rfl
theorem dX12_named_11 : decode cX12_named 11 = .ok (.invokevirtual 297, 3) := dk_i kdX12_named_0 7 rfl
theorem dX12_named_14 : decode cX12_named 14 = .ok (.if_icmp .ge 28, 3) := dk_i kdX12_named_0 8 rfl
theorem dX12_named_17 : decode cX12_named 17 = .ok (.aload_n 0, 1) := dk_i kdX12_named_0 9 rfl
theorem dX12_named_18 : decode cX12_named 18 = .ok (.aload_n 0, 1) := dk_i kdX12_named_0 10 rfl
theorem dX12_named_19 : decode cX12_named 19 = .ok (.getfield 115, 3) := dk_i kdX12_named_0 11 rfl
theorem dX12_named_22 : decode cX12_named 22 = .ok (.iload_n 1, 1) := dk_i kdX12_named_0 12 rfl
theorem dX12_named_23 : decode cX12_named 23 = .ok (.iload 4, 2) := dk_i kdX12_named_0 13 rfl
theorem dX12_named_25 : decode cX12_named 25 = .ok (.invokevirtual 301, 3) := dk_i kdX12_named_0 14 rfl
theorem dX12_named_28 : decode cX12_named 28 = .ok (.lload_n 2, 1) := dk_i kdX12_named_0 15 rfl
def ldX12_named_29 : List (Nat × ClassFile.Instr × Nat) := [(29, .lcmp, 1), (30, .ifCond .ne 6, 3), (33, .iload 4, 2), (35, .ireturn, 1), (36, .iinc 4 1, 3), (39, .goto (-36), 3), (42, .iconst (-1), 1), (43, .ireturn, 1)]
theorem kdX12_named_29 : dkO cX12_named 29 ldX12_named_29 = true := by decide +kernel
theorem dX12_named_29 : decode cX12_named 29 = .ok (.lcmp, 1) := dk_i kdX12_named_29 0 rfl
theorem dX12_named_30 : decode cX12_named 30 = .ok (.ifCond .ne 6, 3) := dk_i kdX12_named_29 1 rfl
theorem dX12_named_33 : decode cX12_named 33 = .ok (.iload 4, 2) := dk_i kdX12_named_29 2 rfl
theorem dX12_named_35 : decode cX12_named 35 = .ok (.ireturn, 1) := dk_i kdX12_named_29 3 rfl
theorem dX12_named_36 : decode cX12_named 36 = .ok (.iinc 4 1, 3) := dk_i kdX12_named_29 4 rfl
theorem dX12_named_39 : decode cX12_named 39 = .ok (.goto (-36), 3) := dk_i kdX12_named_29 5 rfl
theorem dX12_named_42 : decode cX12_named 42 = .ok (.iconst (-1), 1) := dk_i kdX12_named_29 6 rfl
theorem dX12_named_43 : decode cX12_named 43 = .ok (.ireturn, 1) := dk_i kdX12_named_29 7 rfl
def ldX12_number_0 : List (Nat × ClassFile.Instr × Nat) := [(0, .aload_n 0, 1), (1, .invokevirtual 238, 3), (4, .aload_n 0, 1), (5, .getfield 36, 3), (8, .ifCond .le 5, 3), (11, .iconst 0, 1), (12, .ireturn, 1), (13, .aload_n 0, 1), (14, .getfield 20, 3), (17, .iconst 2, 1), (18, .if_icmp .eq 12, 3), (21, .aload_n 0, 1), (22, .iconst 1, 1), (23, .aload_n 0, 1), (24, .getfield 23, 3), (27, .invokevirtual 227, 3)]
theorem kdX12_number_0 : dkO cX12_number 0 ldX12_number_0 = true := by decide +kernel
theorem dX12_number_0 : decode cX12_number 0 = .ok (.aload_n 0, 1) := dk_i kdX12_number_0 0 rfl
theorem dX12_number_1 : decode cX12_number 1 = .ok (.invokevirtual 238, 3) := dk_i kdX12_number_0 1 rfl
theorem dX12_number_4 : decode cX12_number 4 = .ok (.aload_n 0, 1) := dk_i kdX12_number_0 2 rfl
theorem dX12_number_5 : decode cX12_number 5 = .ok (.getfield 36, 3) := dk_i kdX12_number_0 3 rfl
theorem dX12_number_8 : decode cX12_number 8 = .ok (.ifCond .le 5, 3) := dk_i kdX12_number_0 4 rfl
theorem dX12_number_11 : decode cX12_number 11 = .ok (.iconst 0, 1) := dk_i kdX12_number_0 5 rfl
theorem dX12_number_12 : decode cX12_number 12 = .ok (.ireturn, 1) := dk_i kdX12_number_0 6 rfl
theorem dX12_number_13 : decode cX12_number 13 = .ok (.aload_n 0, 1) := dk_i kdX12_number_0 7 rfl
theorem dX12_number_14 : decode cX12_number 14 = .ok (.getfield 20, 3) := dk_i kdX12_number_0 8 rfl
theorem dX12_number_17 : decode cX12_number 17 = .ok (.iconst 2, 1) := dk_i kdX12_number_0 9 rfl
theorem dX12_number_18 : decode cX12_number 18 = .ok (.if_icmp .eq 12, 3) := dk_i kdX12_number_0 10 rfl
theorem dX12_number_21 : decode cX12_number 21 = .ok (.aload_n 0, 1) := dk_i kdX12_number_0 11 rfl
theorem dX12_number_22 : decode cX12_number 22 = .ok (.iconst 1, 1) := dk_i kdX12_number_0 12 rfl
theorem dX12_number_23 : decode cX12_number 23 = .ok (.aload_n 0, 1) := dk_i kdX12_number_0 13 rfl
theorem dX12_number_24 : decode cX12_number 24 = .ok (.getfield 23, 3) := dk_i kdX12_number_0 14 rfl
theorem dX12_number_27 : decode cX12_number 27 = .ok (.invokevirtual 227, 3) := dk_i kdX12_number_0 15 rfl
def ldX12_number_30 : List (Nat × ClassFile.Instr × Nat) := [(30, .aload_n 0, 1), (31, .getfield 36, 3), (34, .ifCond .ne 24, 3), (37, .aload_n 0, 1), (38, .getfield 29, 3), (41, .iload_n 1, 1), (42, .iload_n 2, 1), (43, .invokestatic 305, 3), (46, .ifCond .ne 12, 3), (49, .aload_n 0, 1), (50, .iconst 4, 1), (51, .aload_n 0, 1), (52, .getfield 23, 3), (55, .invokevirtual 227, 3), (58, .aload_n 0, 1), (59, .getfield 29, 3)]
theorem kdX12_number_30 : dkO cX12_number 30 ldX12_number_30 = true := by decide +kernel
theorem dX12_number_30 : decode cX12_number 30 = .ok (.aload_n 0, 1) := dk_i kdX12_number_30 0 rfl
theorem dX12_number_31 : decode cX12_number 31 = .ok (.getfield 36, 3) := dk_i kdX12_number_30 1 rfl
theorem dX12_number_34 : decode cX12_number 34 = .ok (.ifCond .ne 24, 3) := dk_i kdX12_number_30 2 rfl
theorem dX12_number_37 : decode cX12_number 37 = .ok (.aload_n 0, 1) := dk_i kdX12_number_30 3 rfl
theorem dX12_number_38 : decode cX12_number 38 = .ok (.getfield 29, 3) := dk_i kdX12_number_30 4 rfl
theorem dX12_number_41 : decode cX12_number 41 = .ok (.iload_n 1, 1) := dk_i kdX12_number_30 5 rfl
theorem dX12_number_42 : decode cX12_number 42 = .ok (.iload_n 2, 1) := dk_i kdX12_number_30 6 rfl
theorem dX12_number_43 : decode cX12_number 43 = .ok (.invokestatic 305, 3) := dk_i kdX12_number_30 7 rfl
theorem dX12_number_46 : decode cX12_number 46 = .ok (.ifCond .ne 12, 3) := dk_i kdX12_number_30 8 rfl
theorem dX12_number_49 : decode cX12_number 49 = .ok (.aload_n 0, 1) := dk_i kdX12_number_30 9 rfl
theorem dX12_number_50 : decode cX12_number 50 = .ok (.iconst 4, 1) := dk_i kdX12_number_30 10 rfl
theorem dX12_number_51 : decode cX12_number 51 = .ok (.aload_n 0, 1) := dk_i kdX12_number_30 11 rfl
theorem dX12_number_52 : decode cX12_number 52 = .ok (.getfield 23, 3) := dk_i kdX12_number_30 12 rfl
theorem dX12_number_55 : decode cX12_number 55 = .ok (.invokevirtual 227, 3) := dk_i kdX12_number_30 13 rfl
theorem dX12_number_58 : decode cX12_number 58 = .ok (.aload_n 0, 1) := dk_i kdX12_number_30 14 rfl
theorem dX12_number_59 : decode cX12_number 59 = .ok (.getfield 29, 3) := dk_i kdX12_number_30 15 rfl
def ldX12_number_62 : List (Nat × ClassFile.Instr × Nat) := [(62, .istore_n 3, 1), (63, .aload_n 0, 1), (64, .getfield 36, 3), (67, .ifCond .ne 7, 3), (70, .aload_n 0, 1), (71, .invokevirtual 244, 3), (74, .iload_n 3, 1), (75, .ireturn, 1)]
theorem kdX12_number_62 : dkO cX12_number 62 ldX12_number_62 = true := by decide +kernel
theorem dX12_number_62 : decode cX12_number 62 = .ok (.istore_n 3, 1) := dk_i kdX12_number_62 0 rfl
theorem dX12_number_63 : decode cX12_number 63 = .ok (.aload_n 0, 1) := dk_i kdX12_number_62 1 rfl
theorem dX12_number_64 : decode cX12_number 64 = .ok (.getfield 36, 3) := dk_i kdX12_number_62 2 rfl
theorem dX12_number_67 : decode cX12_number 67 = .ok (.ifCond .ne 7, 3) := dk_i kdX12_number_62 3 rfl
theorem dX12_number_70 : decode cX12_number 70 = .ok (.aload_n 0, 1) := dk_i kdX12_number_62 4 rfl
theorem dX12_number_71 : decode cX12_number 71 = .ok (.invokevirtual 244, 3) := dk_i kdX12_number_62 5 rfl
theorem dX12_number_74 : decode cX12_number 74 = .ok (.iload_n 3, 1) := dk_i kdX12_number_62 6 rfl
theorem dX12_number_75 : decode cX12_number 75 = .ok (.ireturn, 1) := dk_i kdX12_number_62 7 rfl
def ldX12_add_0 : List (Nat × ClassFile.Instr × Nat) := [(0, .aload_n 0, 1), (1, .getfield 96, 3), (4, .sipush 1600, 3), (7, .aload_n 0, 1), (8, .getfield 115, 3), (11, .imul, 1), (12, .aload_n 0, 1), (13, .getfield 112, 3), (16, .iadd, 1), (17, .iload_n 1, 1), (18, .iastore, 1), (19, .aload_n 0, 1), (20, .getfield 99, 3), (23, .sipush 1600, 3), (26, .aload_n 0, 1), (27, .getfield 115, 3)]
theorem kdX12_add_0 : dkO cX12_add 0 ldX12_add_0 = true := by decide +kernel
theorem dX12_add_0 : decode cX12_add 0 = .ok (.aload_n 0, 1) := dk_i kdX12_add_0 0 rfl
theorem dX12_add_1 : decode cX12_add 1 = .ok (.getfield 96, 3) := dk_i kdX12_add_0 1 rfl
theorem dX12_add_4 : decode cX12_add 4 = .ok (.sipush 1600, 3) := dk_i kdX12_add_0 2 rfl
theorem dX12_add_7 : decode cX12_add 7 = .ok (.aload_n 0, 1) := dk_i kdX12_add_0 3 rfl
theorem dX12_add_8 : decode cX12_add 8 = .ok (.getfield 115, 3) := dk_i kdX12_add_0 4 rfl
theorem dX12_add_11 : decode cX12_add 11 = .ok (.imul, 1) := dk_i kdX12_add_0 5 rfl
theorem dX12_add_12 : decode cX12_add 12 = .ok (.aload_n 0, 1) := dk_i kdX12_add_0 6 rfl
theorem dX12_add_13 : decode cX12_add 13 = .ok (.getfield 112, 3) := dk_i kdX12_add_0 7 rfl
theorem dX12_add_16 : decode cX12_add 16 = .ok (.iadd, 1) := dk_i kdX12_add_0 8 rfl
theorem dX12_add_17 : decode cX12_add 17 = .ok (.iload_n 1, 1) := dk_i kdX12_add_0 9 rfl
theorem dX12_add_18 : decode cX12_add 18 = .ok (.iastore, 1) := dk_i kdX12_add_0 10 rfl
theorem dX12_add_19 : decode cX12_add 19 = .ok (.aload_n 0, 1) := dk_i kdX12_add_0 11 rfl
theorem dX12_add_20 : decode cX12_add 20 = .ok (.getfield 99, 3) := dk_i kdX12_add_0 12 rfl
theorem dX12_add_23 : decode cX12_add 23 = .ok (.sipush 1600, 3) := dk_i kdX12_add_0 13 rfl
theorem dX12_add_26 : decode cX12_add 26 = .ok (.aload_n 0, 1) := dk_i kdX12_add_0 14 rfl
theorem dX12_add_27 : decode cX12_add 27 = .ok (.getfield 115, 3) := dk_i kdX12_add_0 15 rfl
def ldX12_add_30 : List (Nat × ClassFile.Instr × Nat) := [(30, .imul, 1), (31, .aload_n 0, 1), (32, .getfield 112, 3), (35, .iadd, 1), (36, .iload_n 2, 1), (37, .iastore, 1), (38, .aload_n 0, 1), (39, .dup, 1), (40, .getfield 112, 3), (43, .iconst 1, 1), (44, .iadd, 1), (45, .putfield 112, 3), (48, .return_, 1)]
theorem kdX12_add_30 : dkO cX12_add 30 ldX12_add_30 = true := by decide +kernel
theorem dX12_add_30 : decode cX12_add 30 = .ok (.imul, 1) := dk_i kdX12_add_30 0 rfl
theorem dX12_add_31 : decode cX12_add 31 = .ok (.aload_n 0, 1) := dk_i kdX12_add_30 1 rfl
theorem dX12_add_32 : decode cX12_add 32 = .ok (.getfield 112, 3) := dk_i kdX12_add_30 2 rfl
theorem dX12_add_35 : decode cX12_add 35 = .ok (.iadd, 1) := dk_i kdX12_add_30 3 rfl
theorem dX12_add_36 : decode cX12_add 36 = .ok (.iload_n 2, 1) := dk_i kdX12_add_30 4 rfl
theorem dX12_add_37 : decode cX12_add 37 = .ok (.iastore, 1) := dk_i kdX12_add_30 5 rfl
theorem dX12_add_38 : decode cX12_add 38 = .ok (.aload_n 0, 1) := dk_i kdX12_add_30 6 rfl
theorem dX12_add_39 : decode cX12_add 39 = .ok (.dup, 1) := dk_i kdX12_add_30 7 rfl
theorem dX12_add_40 : decode cX12_add 40 = .ok (.getfield 112, 3) := dk_i kdX12_add_30 8 rfl
theorem dX12_add_43 : decode cX12_add 43 = .ok (.iconst 1, 1) := dk_i kdX12_add_30 9 rfl
theorem dX12_add_44 : decode cX12_add 44 = .ok (.iadd, 1) := dk_i kdX12_add_30 10 rfl
theorem dX12_add_45 : decode cX12_add 45 = .ok (.putfield 112, 3) := dk_i kdX12_add_30 11 rfl
theorem dX12_add_48 : decode cX12_add 48 = .ok (.return_, 1) := dk_i kdX12_add_30 12 rfl
def ldX12_rank_0 : List (Nat × ClassFile.Instr × Nat) := [(0, .iload_n 0, 1), (1, .bipush 42, 2), (3, .if_icmp .ne 7, 3), (6, .iconst 1, 1), (7, .goto 63, 3), (10, .iload_n 0, 1), (11, .bipush 41, 2), (13, .if_icmp .ne 7, 3), (16, .iconst 2, 1), (17, .goto 53, 3), (20, .iload_n 0, 1), (21, .bipush 43, 2), (23, .if_icmp .ne 7, 3), (26, .iconst 3, 1), (27, .goto 43, 3), (30, .iload_n 0, 1)]
theorem kdX12_rank_0 : dkO cX12_rank 0 ldX12_rank_0 = true := by decide +kernel
theorem dX12_rank_0 : decode cX12_rank 0 = .ok (.iload_n 0, 1) := dk_i kdX12_rank_0 0 rfl
theorem dX12_rank_1 : decode cX12_rank 1 = .ok (.bipush 42, 2) := dk_i kdX12_rank_0 1 rfl
theorem dX12_rank_3 : decode cX12_rank 3 = .ok (.if_icmp .ne 7, 3) := dk_i kdX12_rank_0 2 rfl
theorem dX12_rank_6 : decode cX12_rank 6 = .ok (.iconst 1, 1) := dk_i kdX12_rank_0 3 rfl
theorem dX12_rank_7 : decode cX12_rank 7 = .ok (.goto 63, 3) := dk_i kdX12_rank_0 4 rfl
theorem dX12_rank_10 : decode cX12_rank 10 = .ok (.iload_n 0, 1) := dk_i kdX12_rank_0 5 rfl
theorem dX12_rank_11 : decode cX12_rank 11 = .ok (.bipush 41, 2) := dk_i kdX12_rank_0 6 rfl
theorem dX12_rank_13 : decode cX12_rank 13 = .ok (.if_icmp .ne 7, 3) := dk_i kdX12_rank_0 7 rfl
theorem dX12_rank_16 : decode cX12_rank 16 = .ok (.iconst 2, 1) := dk_i kdX12_rank_0 8 rfl
theorem dX12_rank_17 : decode cX12_rank 17 = .ok (.goto 53, 3) := dk_i kdX12_rank_0 9 rfl
theorem dX12_rank_20 : decode cX12_rank 20 = .ok (.iload_n 0, 1) := dk_i kdX12_rank_0 10 rfl
theorem dX12_rank_21 : decode cX12_rank 21 = .ok (.bipush 43, 2) := dk_i kdX12_rank_0 11 rfl
theorem dX12_rank_23 : decode cX12_rank 23 = .ok (.if_icmp .ne 7, 3) := dk_i kdX12_rank_0 12 rfl
theorem dX12_rank_26 : decode cX12_rank 26 = .ok (.iconst 3, 1) := dk_i kdX12_rank_0 13 rfl
theorem dX12_rank_27 : decode cX12_rank 27 = .ok (.goto 43, 3) := dk_i kdX12_rank_0 14 rfl
theorem dX12_rank_30 : decode cX12_rank 30 = .ok (.iload_n 0, 1) := dk_i kdX12_rank_0 15 rfl
def ldX12_rank_31 : List (Nat × ClassFile.Instr × Nat) := [(31, .bipush 38, 2), (33, .if_icmp .eq 15, 3), (36, .iload_n 0, 1), (37, .bipush 39, 2), (39, .if_icmp .eq 9, 3), (42, .iload_n 0, 1), (43, .bipush 40, 2), (45, .if_icmp .ne 7, 3), (48, .iconst 4, 1), (49, .goto 21, 3), (52, .iload_n 0, 1), (53, .bipush 31, 2), (55, .if_icmp .eq 9, 3), (58, .iload_n 0, 1), (59, .bipush 32, 2), (61, .if_icmp .ne 7, 3)]
theorem kdX12_rank_31 : dkO cX12_rank 31 ldX12_rank_31 = true := by decide +kernel
theorem dX12_rank_31 : decode cX12_rank 31 = .ok (.bipush 38, 2) := dk_i kdX12_rank_31 0 rfl
theorem dX12_rank_33 : decode cX12_rank 33 = .ok (.if_icmp .eq 15, 3) := dk_i kdX12_rank_31 1 rfl
theorem dX12_rank_36 : decode cX12_rank 36 = .ok (.iload_n 0, 1) := dk_i kdX12_rank_31 2 rfl
theorem dX12_rank_37 : decode cX12_rank 37 = .ok (.bipush 39, 2) := dk_i kdX12_rank_31 3 rfl
theorem dX12_rank_39 : decode cX12_rank 39 = .ok (.if_icmp .eq 9, 3) := dk_i kdX12_rank_31 4 rfl
theorem dX12_rank_42 : decode cX12_rank 42 = .ok (.iload_n 0, 1) := dk_i kdX12_rank_31 5 rfl
theorem dX12_rank_43 : decode cX12_rank 43 = .ok (.bipush 40, 2) := dk_i kdX12_rank_31 6 rfl
theorem dX12_rank_45 : decode cX12_rank 45 = .ok (.if_icmp .ne 7, 3) := dk_i kdX12_rank_31 7 rfl
theorem dX12_rank_48 : decode cX12_rank 48 = .ok (.iconst 4, 1) := dk_i kdX12_rank_31 8 rfl
theorem dX12_rank_49 : decode cX12_rank 49 = .ok (.goto 21, 3) := dk_i kdX12_rank_31 9 rfl
theorem dX12_rank_52 : decode cX12_rank 52 = .ok (.iload_n 0, 1) := dk_i kdX12_rank_31 10 rfl
theorem dX12_rank_53 : decode cX12_rank 53 = .ok (.bipush 31, 2) := dk_i kdX12_rank_31 11 rfl
theorem dX12_rank_55 : decode cX12_rank 55 = .ok (.if_icmp .eq 9, 3) := dk_i kdX12_rank_31 12 rfl
theorem dX12_rank_58 : decode cX12_rank 58 = .ok (.iload_n 0, 1) := dk_i kdX12_rank_31 13 rfl
theorem dX12_rank_59 : decode cX12_rank 59 = .ok (.bipush 32, 2) := dk_i kdX12_rank_31 14 rfl
theorem dX12_rank_61 : decode cX12_rank 61 = .ok (.if_icmp .ne 7, 3) := dk_i kdX12_rank_31 15 rfl
def ldX12_rank_64 : List (Nat × ClassFile.Instr × Nat) := [(64, .iconst 5, 1), (65, .goto 5, 3), (68, .bipush 6, 2), (70, .ireturn, 1)]
theorem kdX12_rank_64 : dkO cX12_rank 64 ldX12_rank_64 = true := by decide +kernel
theorem dX12_rank_64 : decode cX12_rank 64 = .ok (.iconst 5, 1) := dk_i kdX12_rank_64 0 rfl
theorem dX12_rank_65 : decode cX12_rank 65 = .ok (.goto 5, 3) := dk_i kdX12_rank_64 1 rfl
theorem dX12_rank_68 : decode cX12_rank 68 = .ok (.bipush 6, 2) := dk_i kdX12_rank_64 2 rfl
theorem dX12_rank_70 : decode cX12_rank 70 = .ok (.ireturn, 1) := dk_i kdX12_rank_64 3 rfl
def ldX12_joins_0 : List (Nat × ClassFile.Instr × Nat) := [(0, .aload_n 0, 1), (1, .getfield 147, 3), (4, .aload_n 0, 1), (5, .getfield 135, 3), (8, .aload_n 0, 1), (9, .getfield 138, 3), (12, .iconst 1, 1), (13, .isub, 1), (14, .iaload, 1), (15, .if_icmp .le 72, 3), (18, .aload_n 0, 1), (19, .getfield 144, 3), (22, .aload_n 0, 1), (23, .getfield 147, 3), (26, .iconst 1, 1), (27, .isub, 1)]
theorem kdX12_joins_0 : dkO cX12_joins 0 ldX12_joins_0 = true := by decide +kernel
theorem dX12_joins_0 : decode cX12_joins 0 = .ok (.aload_n 0, 1) := dk_i kdX12_joins_0 0 rfl
theorem dX12_joins_1 : decode cX12_joins 1 = .ok (.getfield 147, 3) := dk_i kdX12_joins_0 1 rfl
theorem dX12_joins_4 : decode cX12_joins 4 = .ok (.aload_n 0, 1) := dk_i kdX12_joins_0 2 rfl
theorem dX12_joins_5 : decode cX12_joins 5 = .ok (.getfield 135, 3) := dk_i kdX12_joins_0 3 rfl
theorem dX12_joins_8 : decode cX12_joins 8 = .ok (.aload_n 0, 1) := dk_i kdX12_joins_0 4 rfl
theorem dX12_joins_9 : decode cX12_joins 9 = .ok (.getfield 138, 3) := dk_i kdX12_joins_0 5 rfl
theorem dX12_joins_12 : decode cX12_joins 12 = .ok (.iconst 1, 1) := dk_i kdX12_joins_0 6 rfl
theorem dX12_joins_13 : decode cX12_joins 13 = .ok (.isub, 1) := dk_i kdX12_joins_0 7 rfl
theorem dX12_joins_14 : decode cX12_joins 14 = .ok (.iaload, 1) := dk_i kdX12_joins_0 8 rfl
theorem dX12_joins_15 : decode cX12_joins 15 = .ok (.if_icmp .le 72, 3) := dk_i kdX12_joins_0 9 rfl
theorem dX12_joins_18 : decode cX12_joins 18 = .ok (.aload_n 0, 1) := dk_i kdX12_joins_0 10 rfl
theorem dX12_joins_19 : decode cX12_joins 19 = .ok (.getfield 144, 3) := dk_i kdX12_joins_0 11 rfl
theorem dX12_joins_22 : decode cX12_joins 22 = .ok (.aload_n 0, 1) := dk_i kdX12_joins_0 12 rfl
theorem dX12_joins_23 : decode cX12_joins 23 = .ok (.getfield 147, 3) := dk_i kdX12_joins_0 13 rfl
theorem dX12_joins_26 : decode cX12_joins 26 = .ok (.iconst 1, 1) := dk_i kdX12_joins_0 14 rfl
theorem dX12_joins_27 : decode cX12_joins 27 = .ok (.isub, 1) := dk_i kdX12_joins_0 15 rfl
def ldX12_joins_28 : List (Nat × ClassFile.Instr × Nat) := [(28, .iaload, 1), (29, .invokestatic 309, 3), (32, .iload_n 1, 1), (33, .if_icmp .lt 54, 3), (36, .aload_n 0, 1), (37, .dup, 1), (38, .getfield 147, 3), (41, .iconst 1, 1), (42, .isub, 1), (43, .putfield 147, 3), (46, .aload_n 0, 1), (47, .aload_n 0, 1), (48, .getfield 144, 3), (51, .aload_n 0, 1), (52, .getfield 147, 3), (55, .iaload, 1)]
theorem kdX12_joins_28 : dkO cX12_joins 28 ldX12_joins_28 = true := by decide +kernel
theorem dX12_joins_28 : decode cX12_joins 28 = .ok (.iaload, 1) := dk_i kdX12_joins_28 0 rfl
theorem dX12_joins_29 : decode cX12_joins 29 = .ok (.invokestatic 309, 3) := dk_i kdX12_joins_28 1 rfl
theorem dX12_joins_32 : decode cX12_joins 32 = .ok (.iload_n 1, 1) := dk_i kdX12_joins_28 2 rfl
theorem dX12_joins_33 : decode cX12_joins 33 = .ok (.if_icmp .lt 54, 3) := dk_i kdX12_joins_28 3 rfl
theorem dX12_joins_36 : decode cX12_joins 36 = .ok (.aload_n 0, 1) := dk_i kdX12_joins_28 4 rfl
theorem dX12_joins_37 : decode cX12_joins 37 = .ok (.dup, 1) := dk_i kdX12_joins_28 5 rfl
theorem dX12_joins_38 : decode cX12_joins 38 = .ok (.getfield 147, 3) := dk_i kdX12_joins_28 6 rfl
theorem dX12_joins_41 : decode cX12_joins 41 = .ok (.iconst 1, 1) := dk_i kdX12_joins_28 7 rfl
theorem dX12_joins_42 : decode cX12_joins 42 = .ok (.isub, 1) := dk_i kdX12_joins_28 8 rfl
theorem dX12_joins_43 : decode cX12_joins 43 = .ok (.putfield 147, 3) := dk_i kdX12_joins_28 9 rfl
theorem dX12_joins_46 : decode cX12_joins 46 = .ok (.aload_n 0, 1) := dk_i kdX12_joins_28 10 rfl
theorem dX12_joins_47 : decode cX12_joins 47 = .ok (.aload_n 0, 1) := dk_i kdX12_joins_28 11 rfl
theorem dX12_joins_48 : decode cX12_joins 48 = .ok (.getfield 144, 3) := dk_i kdX12_joins_28 12 rfl
theorem dX12_joins_51 : decode cX12_joins 51 = .ok (.aload_n 0, 1) := dk_i kdX12_joins_28 13 rfl
theorem dX12_joins_52 : decode cX12_joins 52 = .ok (.getfield 147, 3) := dk_i kdX12_joins_28 14 rfl
theorem dX12_joins_55 : decode cX12_joins 55 = .ok (.iaload, 1) := dk_i kdX12_joins_28 15 rfl
def ldX12_joins_56 : List (Nat × ClassFile.Instr × Nat) := [(56, .iconst 0, 1), (57, .invokevirtual 312, 3), (60, .aload_n 0, 1), (61, .getfield 144, 3), (64, .aload_n 0, 1), (65, .getfield 147, 3), (68, .iaload, 1), (69, .bipush 43, 2), (71, .if_icmp .ne (-71), 3), (74, .aload_n 0, 1), (75, .dup, 1), (76, .getfield 141, 3), (79, .iconst 1, 1), (80, .isub, 1), (81, .putfield 141, 3), (84, .goto (-84), 3)]
theorem kdX12_joins_56 : dkO cX12_joins 56 ldX12_joins_56 = true := by decide +kernel
theorem dX12_joins_56 : decode cX12_joins 56 = .ok (.iconst 0, 1) := dk_i kdX12_joins_56 0 rfl
theorem dX12_joins_57 : decode cX12_joins 57 = .ok (.invokevirtual 312, 3) := dk_i kdX12_joins_56 1 rfl
theorem dX12_joins_60 : decode cX12_joins 60 = .ok (.aload_n 0, 1) := dk_i kdX12_joins_56 2 rfl
theorem dX12_joins_61 : decode cX12_joins 61 = .ok (.getfield 144, 3) := dk_i kdX12_joins_56 3 rfl
theorem dX12_joins_64 : decode cX12_joins 64 = .ok (.aload_n 0, 1) := dk_i kdX12_joins_56 4 rfl
theorem dX12_joins_65 : decode cX12_joins 65 = .ok (.getfield 147, 3) := dk_i kdX12_joins_56 5 rfl
theorem dX12_joins_68 : decode cX12_joins 68 = .ok (.iaload, 1) := dk_i kdX12_joins_56 6 rfl
theorem dX12_joins_69 : decode cX12_joins 69 = .ok (.bipush 43, 2) := dk_i kdX12_joins_56 7 rfl
theorem dX12_joins_71 : decode cX12_joins 71 = .ok (.if_icmp .ne (-71), 3) := dk_i kdX12_joins_56 8 rfl
theorem dX12_joins_74 : decode cX12_joins 74 = .ok (.aload_n 0, 1) := dk_i kdX12_joins_56 9 rfl
theorem dX12_joins_75 : decode cX12_joins 75 = .ok (.dup, 1) := dk_i kdX12_joins_56 10 rfl
theorem dX12_joins_76 : decode cX12_joins 76 = .ok (.getfield 141, 3) := dk_i kdX12_joins_56 11 rfl
theorem dX12_joins_79 : decode cX12_joins 79 = .ok (.iconst 1, 1) := dk_i kdX12_joins_56 12 rfl
theorem dX12_joins_80 : decode cX12_joins 80 = .ok (.isub, 1) := dk_i kdX12_joins_56 13 rfl
theorem dX12_joins_81 : decode cX12_joins 81 = .ok (.putfield 141, 3) := dk_i kdX12_joins_56 14 rfl
theorem dX12_joins_84 : decode cX12_joins 84 = .ok (.goto (-84), 3) := dk_i kdX12_joins_56 15 rfl
def ldX12_joins_87 : List (Nat × ClassFile.Instr × Nat) := [(87, .return_, 1)]
theorem kdX12_joins_87 : dkO cX12_joins 87 ldX12_joins_87 = true := by decide +kernel
theorem dX12_joins_87 : decode cX12_joins 87 = .ok (.return_, 1) := dk_i kdX12_joins_87 0 rfl
def ldX12_holdsBack_0 : List (Nat × ClassFile.Instr × Nat) := [(0, .aload_n 0, 1), (1, .getfield 144, 3), (4, .aload_n 0, 1), (5, .getfield 147, 3), (8, .iload_n 1, 1), (9, .iastore, 1), (10, .aload_n 0, 1), (11, .dup, 1), (12, .getfield 147, 3), (15, .iconst 1, 1), (16, .iadd, 1), (17, .putfield 147, 3), (20, .return_, 1)]
theorem kdX12_holdsBack_0 : dkO cX12_holdsBack 0 ldX12_holdsBack_0 = true := by decide +kernel
theorem dX12_holdsBack_0 : decode cX12_holdsBack 0 = .ok (.aload_n 0, 1) := dk_i kdX12_holdsBack_0 0 rfl
theorem dX12_holdsBack_1 : decode cX12_holdsBack 1 = .ok (.getfield 144, 3) := dk_i kdX12_holdsBack_0 1 rfl
theorem dX12_holdsBack_4 : decode cX12_holdsBack 4 = .ok (.aload_n 0, 1) := dk_i kdX12_holdsBack_0 2 rfl
theorem dX12_holdsBack_5 : decode cX12_holdsBack 5 = .ok (.getfield 147, 3) := dk_i kdX12_holdsBack_0 3 rfl
theorem dX12_holdsBack_8 : decode cX12_holdsBack 8 = .ok (.iload_n 1, 1) := dk_i kdX12_holdsBack_0 4 rfl
theorem dX12_holdsBack_9 : decode cX12_holdsBack 9 = .ok (.iastore, 1) := dk_i kdX12_holdsBack_0 5 rfl
theorem dX12_holdsBack_10 : decode cX12_holdsBack 10 = .ok (.aload_n 0, 1) := dk_i kdX12_holdsBack_0 6 rfl
theorem dX12_holdsBack_11 : decode cX12_holdsBack 11 = .ok (.dup, 1) := dk_i kdX12_holdsBack_0 7 rfl
theorem dX12_holdsBack_12 : decode cX12_holdsBack 12 = .ok (.getfield 147, 3) := dk_i kdX12_holdsBack_0 8 rfl
theorem dX12_holdsBack_15 : decode cX12_holdsBack 15 = .ok (.iconst 1, 1) := dk_i kdX12_holdsBack_0 9 rfl
theorem dX12_holdsBack_16 : decode cX12_holdsBack 16 = .ok (.iadd, 1) := dk_i kdX12_holdsBack_0 10 rfl
theorem dX12_holdsBack_17 : decode cX12_holdsBack 17 = .ok (.putfield 147, 3) := dk_i kdX12_holdsBack_0 11 rfl
theorem dX12_holdsBack_20 : decode cX12_holdsBack 20 = .ok (.return_, 1) := dk_i kdX12_holdsBack_0 12 rfl
def ldX12_pushes_0 : List (Nat × ClassFile.Instr × Nat) := [(0, .aload_n 0, 1), (1, .getfield 122, 3), (4, .aload_n 0, 1), (5, .getfield 138, 3), (8, .iload_n 1, 1), (9, .iastore, 1), (10, .aload_n 0, 1), (11, .getfield 125, 3), (14, .aload_n 0, 1), (15, .getfield 138, 3), (18, .iconst 0, 1), (19, .iastore, 1), (20, .aload_n 0, 1), (21, .getfield 128, 3), (24, .aload_n 0, 1), (25, .getfield 138, 3)]
theorem kdX12_pushes_0 : dkO cX12_pushes 0 ldX12_pushes_0 = true := by decide +kernel
theorem dX12_pushes_0 : decode cX12_pushes 0 = .ok (.aload_n 0, 1) := dk_i kdX12_pushes_0 0 rfl
theorem dX12_pushes_1 : decode cX12_pushes 1 = .ok (.getfield 122, 3) := dk_i kdX12_pushes_0 1 rfl
theorem dX12_pushes_4 : decode cX12_pushes 4 = .ok (.aload_n 0, 1) := dk_i kdX12_pushes_0 2 rfl
theorem dX12_pushes_5 : decode cX12_pushes 5 = .ok (.getfield 138, 3) := dk_i kdX12_pushes_0 3 rfl
theorem dX12_pushes_8 : decode cX12_pushes 8 = .ok (.iload_n 1, 1) := dk_i kdX12_pushes_0 4 rfl
theorem dX12_pushes_9 : decode cX12_pushes 9 = .ok (.iastore, 1) := dk_i kdX12_pushes_0 5 rfl
theorem dX12_pushes_10 : decode cX12_pushes 10 = .ok (.aload_n 0, 1) := dk_i kdX12_pushes_0 6 rfl
theorem dX12_pushes_11 : decode cX12_pushes 11 = .ok (.getfield 125, 3) := dk_i kdX12_pushes_0 7 rfl
theorem dX12_pushes_14 : decode cX12_pushes 14 = .ok (.aload_n 0, 1) := dk_i kdX12_pushes_0 8 rfl
theorem dX12_pushes_15 : decode cX12_pushes 15 = .ok (.getfield 138, 3) := dk_i kdX12_pushes_0 9 rfl
theorem dX12_pushes_18 : decode cX12_pushes 18 = .ok (.iconst 0, 1) := dk_i kdX12_pushes_0 10 rfl
theorem dX12_pushes_19 : decode cX12_pushes 19 = .ok (.iastore, 1) := dk_i kdX12_pushes_0 11 rfl
theorem dX12_pushes_20 : decode cX12_pushes 20 = .ok (.aload_n 0, 1) := dk_i kdX12_pushes_0 12 rfl
theorem dX12_pushes_21 : decode cX12_pushes 21 = .ok (.getfield 128, 3) := dk_i kdX12_pushes_0 13 rfl
theorem dX12_pushes_24 : decode cX12_pushes 24 = .ok (.aload_n 0, 1) := dk_i kdX12_pushes_0 14 rfl
theorem dX12_pushes_25 : decode cX12_pushes 25 = .ok (.getfield 138, 3) := dk_i kdX12_pushes_0 15 rfl
def ldX12_pushes_28 : List (Nat × ClassFile.Instr × Nat) := [(28, .iconst 1, 1), (29, .bastore, 1), (30, .aload_n 0, 1), (31, .getfield 135, 3), (34, .aload_n 0, 1), (35, .getfield 138, 3), (38, .aload_n 0, 1), (39, .getfield 147, 3), (42, .iastore, 1), (43, .aload_n 0, 1), (44, .dup, 1), (45, .getfield 138, 3), (48, .iconst 1, 1), (49, .iadd, 1), (50, .putfield 138, 3), (53, .return_, 1)]
theorem kdX12_pushes_28 : dkO cX12_pushes 28 ldX12_pushes_28 = true := by decide +kernel
theorem dX12_pushes_28 : decode cX12_pushes 28 = .ok (.iconst 1, 1) := dk_i kdX12_pushes_28 0 rfl
theorem dX12_pushes_29 : decode cX12_pushes 29 = .ok (.bastore, 1) := dk_i kdX12_pushes_28 1 rfl
theorem dX12_pushes_30 : decode cX12_pushes 30 = .ok (.aload_n 0, 1) := dk_i kdX12_pushes_28 2 rfl
theorem dX12_pushes_31 : decode cX12_pushes 31 = .ok (.getfield 135, 3) := dk_i kdX12_pushes_28 3 rfl
theorem dX12_pushes_34 : decode cX12_pushes 34 = .ok (.aload_n 0, 1) := dk_i kdX12_pushes_28 4 rfl
theorem dX12_pushes_35 : decode cX12_pushes 35 = .ok (.getfield 138, 3) := dk_i kdX12_pushes_28 5 rfl
theorem dX12_pushes_38 : decode cX12_pushes 38 = .ok (.aload_n 0, 1) := dk_i kdX12_pushes_28 6 rfl
theorem dX12_pushes_39 : decode cX12_pushes 39 = .ok (.getfield 147, 3) := dk_i kdX12_pushes_28 7 rfl
theorem dX12_pushes_42 : decode cX12_pushes 42 = .ok (.iastore, 1) := dk_i kdX12_pushes_28 8 rfl
theorem dX12_pushes_43 : decode cX12_pushes 43 = .ok (.aload_n 0, 1) := dk_i kdX12_pushes_28 9 rfl
theorem dX12_pushes_44 : decode cX12_pushes 44 = .ok (.dup, 1) := dk_i kdX12_pushes_28 10 rfl
theorem dX12_pushes_45 : decode cX12_pushes 45 = .ok (.getfield 138, 3) := dk_i kdX12_pushes_28 11 rfl
theorem dX12_pushes_48 : decode cX12_pushes 48 = .ok (.iconst 1, 1) := dk_i kdX12_pushes_28 12 rfl
theorem dX12_pushes_49 : decode cX12_pushes 49 = .ok (.iadd, 1) := dk_i kdX12_pushes_28 13 rfl
theorem dX12_pushes_50 : decode cX12_pushes 50 = .ok (.putfield 138, 3) := dk_i kdX12_pushes_28 14 rfl
theorem dX12_pushes_53 : decode cX12_pushes 53 = .ok (.return_, 1) := dk_i kdX12_pushes_28 15 rfl
def ldX12_opens_0 : List (Nat × ClassFile.Instr × Nat) := [(0, .aload_n 0, 1), (1, .getfield 141, 3), (4, .bipush 7, 2), (6, .if_icmp .ne 12, 3), (9, .aload_n 0, 1), (10, .iconst 5, 1), (11, .aload_n 0, 1), (12, .getfield 23, 3), (15, .invokevirtual 227, 3), (18, .aload_n 0, 1), (19, .getfield 36, 3), (22, .ifCond .le 4, 3), (25, .return_, 1), (26, .aload_n 0, 1), (27, .dup, 1), (28, .getfield 141, 3)]
theorem kdX12_opens_0 : dkO cX12_opens 0 ldX12_opens_0 = true := by decide +kernel
theorem dX12_opens_0 : decode cX12_opens 0 = .ok (.aload_n 0, 1) := dk_i kdX12_opens_0 0 rfl
theorem dX12_opens_1 : decode cX12_opens 1 = .ok (.getfield 141, 3) := dk_i kdX12_opens_0 1 rfl
theorem dX12_opens_4 : decode cX12_opens 4 = .ok (.bipush 7, 2) := dk_i kdX12_opens_0 2 rfl
theorem dX12_opens_6 : decode cX12_opens 6 = .ok (.if_icmp .ne 12, 3) := dk_i kdX12_opens_0 3 rfl
theorem dX12_opens_9 : decode cX12_opens 9 = .ok (.aload_n 0, 1) := dk_i kdX12_opens_0 4 rfl
theorem dX12_opens_10 : decode cX12_opens 10 = .ok (.iconst 5, 1) := dk_i kdX12_opens_0 5 rfl
theorem dX12_opens_11 : decode cX12_opens 11 = .ok (.aload_n 0, 1) := dk_i kdX12_opens_0 6 rfl
theorem dX12_opens_12 : decode cX12_opens 12 = .ok (.getfield 23, 3) := dk_i kdX12_opens_0 7 rfl
theorem dX12_opens_15 : decode cX12_opens 15 = .ok (.invokevirtual 227, 3) := dk_i kdX12_opens_0 8 rfl
theorem dX12_opens_18 : decode cX12_opens 18 = .ok (.aload_n 0, 1) := dk_i kdX12_opens_0 9 rfl
theorem dX12_opens_19 : decode cX12_opens 19 = .ok (.getfield 36, 3) := dk_i kdX12_opens_0 10 rfl
theorem dX12_opens_22 : decode cX12_opens 22 = .ok (.ifCond .le 4, 3) := dk_i kdX12_opens_0 11 rfl
theorem dX12_opens_25 : decode cX12_opens 25 = .ok (.return_, 1) := dk_i kdX12_opens_0 12 rfl
theorem dX12_opens_26 : decode cX12_opens 26 = .ok (.aload_n 0, 1) := dk_i kdX12_opens_0 13 rfl
theorem dX12_opens_27 : decode cX12_opens 27 = .ok (.dup, 1) := dk_i kdX12_opens_0 14 rfl
theorem dX12_opens_28 : decode cX12_opens 28 = .ok (.getfield 141, 3) := dk_i kdX12_opens_0 15 rfl
def ldX12_opens_31 : List (Nat × ClassFile.Instr × Nat) := [(31, .iconst 1, 1), (32, .iadd, 1), (33, .putfield 141, 3), (36, .aload_n 0, 1), (37, .invokevirtual 244, 3), (40, .aload_n 0, 1), (41, .iload_n 1, 1), (42, .invokevirtual 315, 3), (45, .return_, 1)]
theorem kdX12_opens_31 : dkO cX12_opens 31 ldX12_opens_31 = true := by decide +kernel
theorem dX12_opens_31 : decode cX12_opens 31 = .ok (.iconst 1, 1) := dk_i kdX12_opens_31 0 rfl
theorem dX12_opens_32 : decode cX12_opens 32 = .ok (.iadd, 1) := dk_i kdX12_opens_31 1 rfl
theorem dX12_opens_33 : decode cX12_opens 33 = .ok (.putfield 141, 3) := dk_i kdX12_opens_31 2 rfl
theorem dX12_opens_36 : decode cX12_opens 36 = .ok (.aload_n 0, 1) := dk_i kdX12_opens_31 3 rfl
theorem dX12_opens_37 : decode cX12_opens 37 = .ok (.invokevirtual 244, 3) := dk_i kdX12_opens_31 4 rfl
theorem dX12_opens_40 : decode cX12_opens 40 = .ok (.aload_n 0, 1) := dk_i kdX12_opens_31 5 rfl
theorem dX12_opens_41 : decode cX12_opens 41 = .ok (.iload_n 1, 1) := dk_i kdX12_opens_31 6 rfl
theorem dX12_opens_42 : decode cX12_opens 42 = .ok (.invokevirtual 315, 3) := dk_i kdX12_opens_31 7 rfl
theorem dX12_opens_45 : decode cX12_opens 45 = .ok (.return_, 1) := dk_i kdX12_opens_31 8 rfl
def ldX12_isTest_0 : List (Nat × ClassFile.Instr × Nat) := [(0, .iload_n 0, 1), (1, .iconst 1, 1), (2, .if_icmp .eq 14, 3), (5, .iload_n 0, 1), (6, .iconst 5, 1), (7, .if_icmp .eq 9, 3), (10, .iload_n 0, 1), (11, .bipush 6, 2), (13, .if_icmp .ne 7, 3), (16, .iconst 1, 1), (17, .goto 4, 3), (20, .iconst 0, 1), (21, .ireturn, 1)]
theorem kdX12_isTest_0 : dkO cX12_isTest 0 ldX12_isTest_0 = true := by decide +kernel
theorem dX12_isTest_0 : decode cX12_isTest 0 = .ok (.iload_n 0, 1) := dk_i kdX12_isTest_0 0 rfl
theorem dX12_isTest_1 : decode cX12_isTest 1 = .ok (.iconst 1, 1) := dk_i kdX12_isTest_0 1 rfl
theorem dX12_isTest_2 : decode cX12_isTest 2 = .ok (.if_icmp .eq 14, 3) := dk_i kdX12_isTest_0 2 rfl
theorem dX12_isTest_5 : decode cX12_isTest 5 = .ok (.iload_n 0, 1) := dk_i kdX12_isTest_0 3 rfl
theorem dX12_isTest_6 : decode cX12_isTest 6 = .ok (.iconst 5, 1) := dk_i kdX12_isTest_0 4 rfl
theorem dX12_isTest_7 : decode cX12_isTest 7 = .ok (.if_icmp .eq 9, 3) := dk_i kdX12_isTest_0 5 rfl
theorem dX12_isTest_10 : decode cX12_isTest 10 = .ok (.iload_n 0, 1) := dk_i kdX12_isTest_0 6 rfl
theorem dX12_isTest_11 : decode cX12_isTest 11 = .ok (.bipush 6, 2) := dk_i kdX12_isTest_0 7 rfl
theorem dX12_isTest_13 : decode cX12_isTest 13 = .ok (.if_icmp .ne 7, 3) := dk_i kdX12_isTest_0 8 rfl
theorem dX12_isTest_16 : decode cX12_isTest 16 = .ok (.iconst 1, 1) := dk_i kdX12_isTest_0 9 rfl
theorem dX12_isTest_17 : decode cX12_isTest 17 = .ok (.goto 4, 3) := dk_i kdX12_isTest_0 10 rfl
theorem dX12_isTest_20 : decode cX12_isTest 20 = .ok (.iconst 0, 1) := dk_i kdX12_isTest_0 11 rfl
theorem dX12_isTest_21 : decode cX12_isTest 21 = .ok (.ireturn, 1) := dk_i kdX12_isTest_0 12 rfl
def ldX12_operand_0 : List (Nat × ClassFile.Instr × Nat) := [(0, .aload_n 0, 1), (1, .invokevirtual 238, 3), (4, .aload_n 0, 1), (5, .getfield 36, 3), (8, .ifCond .le 5, 3), (11, .iconst 1, 1), (12, .ireturn, 1), (13, .aload_n 0, 1), (14, .getfield 138, 3), (17, .iconst 1, 1), (18, .isub, 1), (19, .istore_n 1, 1), (20, .aload_n 0, 1), (21, .getfield 122, 3), (24, .iload_n 1, 1), (25, .iaload, 1)]
theorem kdX12_operand_0 : dkO cX12_operand 0 ldX12_operand_0 = true := by decide +kernel
theorem dX12_operand_0 : decode cX12_operand 0 = .ok (.aload_n 0, 1) := dk_i kdX12_operand_0 0 rfl
theorem dX12_operand_1 : decode cX12_operand 1 = .ok (.invokevirtual 238, 3) := dk_i kdX12_operand_0 1 rfl
theorem dX12_operand_4 : decode cX12_operand 4 = .ok (.aload_n 0, 1) := dk_i kdX12_operand_0 2 rfl
theorem dX12_operand_5 : decode cX12_operand 5 = .ok (.getfield 36, 3) := dk_i kdX12_operand_0 3 rfl
theorem dX12_operand_8 : decode cX12_operand 8 = .ok (.ifCond .le 5, 3) := dk_i kdX12_operand_0 4 rfl
theorem dX12_operand_11 : decode cX12_operand 11 = .ok (.iconst 1, 1) := dk_i kdX12_operand_0 5 rfl
theorem dX12_operand_12 : decode cX12_operand 12 = .ok (.ireturn, 1) := dk_i kdX12_operand_0 6 rfl
theorem dX12_operand_13 : decode cX12_operand 13 = .ok (.aload_n 0, 1) := dk_i kdX12_operand_0 7 rfl
theorem dX12_operand_14 : decode cX12_operand 14 = .ok (.getfield 138, 3) := dk_i kdX12_operand_0 8 rfl
theorem dX12_operand_17 : decode cX12_operand 17 = .ok (.iconst 1, 1) := dk_i kdX12_operand_0 9 rfl
theorem dX12_operand_18 : decode cX12_operand 18 = .ok (.isub, 1) := dk_i kdX12_operand_0 10 rfl
theorem dX12_operand_19 : decode cX12_operand 19 = .ok (.istore_n 1, 1) := dk_i kdX12_operand_0 11 rfl
theorem dX12_operand_20 : decode cX12_operand 20 = .ok (.aload_n 0, 1) := dk_i kdX12_operand_0 12 rfl
theorem dX12_operand_21 : decode cX12_operand 21 = .ok (.getfield 122, 3) := dk_i kdX12_operand_0 13 rfl
theorem dX12_operand_24 : decode cX12_operand 24 = .ok (.iload_n 1, 1) := dk_i kdX12_operand_0 14 rfl
theorem dX12_operand_25 : decode cX12_operand 25 = .ok (.iaload, 1) := dk_i kdX12_operand_0 15 rfl
def ldX12_operand_26 : List (Nat × ClassFile.Instr × Nat) := [(26, .invokestatic 318, 3), (29, .ifCond .eq 16, 3), (32, .aload_n 0, 1), (33, .getfield 128, 3), (36, .iload_n 1, 1), (37, .baload, 1), (38, .ifCond .eq 7, 3), (41, .iconst 1, 1), (42, .goto 4, 3), (45, .iconst 0, 1), (46, .istore_n 2, 1), (47, .iload_n 2, 1), (48, .ifCond .eq 62, 3), (51, .aload_n 0, 1), (52, .ldc2_w 289, 3), (55, .invokevirtual 321, 3)]
theorem kdX12_operand_26 : dkO cX12_operand 26 ldX12_operand_26 = true := by decide +kernel
theorem dX12_operand_26 : decode cX12_operand 26 = .ok (.invokestatic 318, 3) := dk_i kdX12_operand_26 0 rfl
theorem dX12_operand_29 : decode cX12_operand 29 = .ok (.ifCond .eq 16, 3) := dk_i kdX12_operand_26 1 rfl
theorem dX12_operand_32 : decode cX12_operand 32 = .ok (.aload_n 0, 1) := dk_i kdX12_operand_26 2 rfl
theorem dX12_operand_33 : decode cX12_operand 33 = .ok (.getfield 128, 3) := dk_i kdX12_operand_26 3 rfl
theorem dX12_operand_36 : decode cX12_operand 36 = .ok (.iload_n 1, 1) := dk_i kdX12_operand_26 4 rfl
theorem dX12_operand_37 : decode cX12_operand 37 = .ok (.baload, 1) := dk_i kdX12_operand_26 5 rfl
theorem dX12_operand_38 : decode cX12_operand 38 = .ok (.ifCond .eq 7, 3) := dk_i kdX12_operand_26 6 rfl
theorem dX12_operand_41 : decode cX12_operand 41 = .ok (.iconst 1, 1) := dk_i kdX12_operand_26 7 rfl
theorem dX12_operand_42 : decode cX12_operand 42 = .ok (.goto 4, 3) := dk_i kdX12_operand_26 8 rfl
theorem dX12_operand_45 : decode cX12_operand 45 = .ok (.iconst 0, 1) := dk_i kdX12_operand_26 9 rfl
theorem dX12_operand_46 : decode cX12_operand 46 = .ok (.istore_n 2, 1) := dk_i kdX12_operand_26 10 rfl
theorem dX12_operand_47 : decode cX12_operand 47 = .ok (.iload_n 2, 1) := dk_i kdX12_operand_26 11 rfl
theorem dX12_operand_48 : decode cX12_operand 48 = .ok (.ifCond .eq 62, 3) := dk_i kdX12_operand_26 12 rfl
theorem dX12_operand_51 : decode cX12_operand 51 = .ok (.aload_n 0, 1) := dk_i kdX12_operand_26 13 rfl
theorem dX12_operand_52 : decode cX12_operand 52 = .ok (.ldc2_w 289, 3) := dk_i kdX12_operand_26 14 rfl
theorem dX12_operand_55 : decode cX12_operand 55 = .ok (.invokevirtual 321, 3) := dk_i kdX12_operand_26 15 rfl
def ldX12_operand_58 : List (Nat × ClassFile.Instr × Nat) := [(58, .ifCond .eq 52, 3), (61, .aload_n 0, 1), (62, .getfield 141, 3), (65, .bipush 7, 2), (67, .if_icmp .ne 12, 3), (70, .aload_n 0, 1), (71, .iconst 5, 1), (72, .aload_n 0, 1), (73, .getfield 23, 3), (76, .invokevirtual 227, 3), (79, .aload_n 0, 1), (80, .getfield 36, 3), (83, .ifCond .le 5, 3), (86, .iconst 1, 1), (87, .ireturn, 1), (88, .aload_n 0, 1)]
theorem kdX12_operand_58 : dkO cX12_operand 58 ldX12_operand_58 = true := by decide +kernel
theorem dX12_operand_58 : decode cX12_operand 58 = .ok (.ifCond .eq 52, 3) := dk_i kdX12_operand_58 0 rfl
theorem dX12_operand_61 : decode cX12_operand 61 = .ok (.aload_n 0, 1) := dk_i kdX12_operand_58 1 rfl
theorem dX12_operand_62 : decode cX12_operand 62 = .ok (.getfield 141, 3) := dk_i kdX12_operand_58 2 rfl
theorem dX12_operand_65 : decode cX12_operand 65 = .ok (.bipush 7, 2) := dk_i kdX12_operand_58 3 rfl
theorem dX12_operand_67 : decode cX12_operand 67 = .ok (.if_icmp .ne 12, 3) := dk_i kdX12_operand_58 4 rfl
theorem dX12_operand_70 : decode cX12_operand 70 = .ok (.aload_n 0, 1) := dk_i kdX12_operand_58 5 rfl
theorem dX12_operand_71 : decode cX12_operand 71 = .ok (.iconst 5, 1) := dk_i kdX12_operand_58 6 rfl
theorem dX12_operand_72 : decode cX12_operand 72 = .ok (.aload_n 0, 1) := dk_i kdX12_operand_58 7 rfl
theorem dX12_operand_73 : decode cX12_operand 73 = .ok (.getfield 23, 3) := dk_i kdX12_operand_58 8 rfl
theorem dX12_operand_76 : decode cX12_operand 76 = .ok (.invokevirtual 227, 3) := dk_i kdX12_operand_58 9 rfl
theorem dX12_operand_79 : decode cX12_operand 79 = .ok (.aload_n 0, 1) := dk_i kdX12_operand_58 10 rfl
theorem dX12_operand_80 : decode cX12_operand 80 = .ok (.getfield 36, 3) := dk_i kdX12_operand_58 11 rfl
theorem dX12_operand_83 : decode cX12_operand 83 = .ok (.ifCond .le 5, 3) := dk_i kdX12_operand_58 12 rfl
theorem dX12_operand_86 : decode cX12_operand 86 = .ok (.iconst 1, 1) := dk_i kdX12_operand_58 13 rfl
theorem dX12_operand_87 : decode cX12_operand 87 = .ok (.ireturn, 1) := dk_i kdX12_operand_58 14 rfl
theorem dX12_operand_88 : decode cX12_operand 88 = .ok (.aload_n 0, 1) := dk_i kdX12_operand_58 15 rfl
def ldX12_operand_89 : List (Nat × ClassFile.Instr × Nat) := [(89, .dup, 1), (90, .getfield 141, 3), (93, .iconst 1, 1), (94, .iadd, 1), (95, .putfield 141, 3), (98, .aload_n 0, 1), (99, .bipush 43, 2), (101, .invokevirtual 325, 3), (104, .aload_n 0, 1), (105, .invokevirtual 244, 3), (108, .iconst 0, 1), (109, .ireturn, 1), (110, .aload_n 0, 1), (111, .getfield 128, 3), (114, .iload_n 1, 1), (115, .iconst 0, 1)]
theorem kdX12_operand_89 : dkO cX12_operand 89 ldX12_operand_89 = true := by decide +kernel
theorem dX12_operand_89 : decode cX12_operand 89 = .ok (.dup, 1) := dk_i kdX12_operand_89 0 rfl
theorem dX12_operand_90 : decode cX12_operand 90 = .ok (.getfield 141, 3) := dk_i kdX12_operand_89 1 rfl
theorem dX12_operand_93 : decode cX12_operand 93 = .ok (.iconst 1, 1) := dk_i kdX12_operand_89 2 rfl
theorem dX12_operand_94 : decode cX12_operand 94 = .ok (.iadd, 1) := dk_i kdX12_operand_89 3 rfl
theorem dX12_operand_95 : decode cX12_operand 95 = .ok (.putfield 141, 3) := dk_i kdX12_operand_89 4 rfl
theorem dX12_operand_98 : decode cX12_operand 98 = .ok (.aload_n 0, 1) := dk_i kdX12_operand_89 5 rfl
theorem dX12_operand_99 : decode cX12_operand 99 = .ok (.bipush 43, 2) := dk_i kdX12_operand_89 6 rfl
theorem dX12_operand_101 : decode cX12_operand 101 = .ok (.invokevirtual 325, 3) := dk_i kdX12_operand_89 7 rfl
theorem dX12_operand_104 : decode cX12_operand 104 = .ok (.aload_n 0, 1) := dk_i kdX12_operand_89 8 rfl
theorem dX12_operand_105 : decode cX12_operand 105 = .ok (.invokevirtual 244, 3) := dk_i kdX12_operand_89 9 rfl
theorem dX12_operand_108 : decode cX12_operand 108 = .ok (.iconst 0, 1) := dk_i kdX12_operand_89 10 rfl
theorem dX12_operand_109 : decode cX12_operand 109 = .ok (.ireturn, 1) := dk_i kdX12_operand_89 11 rfl
theorem dX12_operand_110 : decode cX12_operand 110 = .ok (.aload_n 0, 1) := dk_i kdX12_operand_89 12 rfl
theorem dX12_operand_111 : decode cX12_operand 111 = .ok (.getfield 128, 3) := dk_i kdX12_operand_89 13 rfl
theorem dX12_operand_114 : decode cX12_operand 114 = .ok (.iload_n 1, 1) := dk_i kdX12_operand_89 14 rfl
theorem dX12_operand_115 : decode cX12_operand 115 = .ok (.iconst 0, 1) := dk_i kdX12_operand_89 15 rfl
def ldX12_operand_116 : List (Nat × ClassFile.Instr × Nat) := [(116, .bastore, 1), (117, .iload_n 2, 1), (118, .ifCond .eq 19, 3), (121, .aload_n 0, 1), (122, .bipush 91, 2), (124, .invokevirtual 241, 3), (127, .ifCond .eq 10, 3), (130, .aload_n 0, 1), (131, .iconst 5, 1), (132, .invokevirtual 328, 3), (135, .iconst 0, 1), (136, .ireturn, 1), (137, .iload_n 2, 1), (138, .ifCond .eq 33, 3), (141, .aload_n 0, 1), (142, .ldc2_w 291, 3)]
theorem kdX12_operand_116 : dkO cX12_operand 116 ldX12_operand_116 = true := by decide +kernel
theorem dX12_operand_116 : decode cX12_operand 116 = .ok (.bastore, 1) := dk_i kdX12_operand_116 0 rfl
theorem dX12_operand_117 : decode cX12_operand 117 = .ok (.iload_n 2, 1) := dk_i kdX12_operand_116 1 rfl
theorem dX12_operand_118 : decode cX12_operand 118 = .ok (.ifCond .eq 19, 3) := dk_i kdX12_operand_116 2 rfl
theorem dX12_operand_121 : decode cX12_operand 121 = .ok (.aload_n 0, 1) := dk_i kdX12_operand_116 3 rfl
theorem dX12_operand_122 : decode cX12_operand 122 = .ok (.bipush 91, 2) := dk_i kdX12_operand_116 4 rfl
theorem dX12_operand_124 : decode cX12_operand 124 = .ok (.invokevirtual 241, 3) := dk_i kdX12_operand_116 5 rfl
theorem dX12_operand_127 : decode cX12_operand 127 = .ok (.ifCond .eq 10, 3) := dk_i kdX12_operand_116 6 rfl
theorem dX12_operand_130 : decode cX12_operand 130 = .ok (.aload_n 0, 1) := dk_i kdX12_operand_116 7 rfl
theorem dX12_operand_131 : decode cX12_operand 131 = .ok (.iconst 5, 1) := dk_i kdX12_operand_116 8 rfl
theorem dX12_operand_132 : decode cX12_operand 132 = .ok (.invokevirtual 328, 3) := dk_i kdX12_operand_116 9 rfl
theorem dX12_operand_135 : decode cX12_operand 135 = .ok (.iconst 0, 1) := dk_i kdX12_operand_116 10 rfl
theorem dX12_operand_136 : decode cX12_operand 136 = .ok (.ireturn, 1) := dk_i kdX12_operand_116 11 rfl
theorem dX12_operand_137 : decode cX12_operand 137 = .ok (.iload_n 2, 1) := dk_i kdX12_operand_116 12 rfl
theorem dX12_operand_138 : decode cX12_operand 138 = .ok (.ifCond .eq 33, 3) := dk_i kdX12_operand_116 13 rfl
theorem dX12_operand_141 : decode cX12_operand 141 = .ok (.aload_n 0, 1) := dk_i kdX12_operand_116 14 rfl
theorem dX12_operand_142 : decode cX12_operand 142 = .ok (.ldc2_w 291, 3) := dk_i kdX12_operand_116 15 rfl
def ldX12_operand_145 : List (Nat × ClassFile.Instr × Nat) := [(145, .invokevirtual 321, 3), (148, .ifCond .eq 23, 3), (151, .aload_n 0, 1), (152, .bipush 30, 2), (154, .iconst 0, 1), (155, .invokevirtual 312, 3), (158, .aload_n 0, 1), (159, .getfield 125, 3), (162, .iload_n 1, 1), (163, .iconst 2, 1), (164, .iastore, 1), (165, .aload_n 0, 1), (166, .invokevirtual 244, 3), (169, .iconst 1, 1), (170, .ireturn, 1), (171, .aload_n 0, 1)]
theorem kdX12_operand_145 : dkO cX12_operand 145 ldX12_operand_145 = true := by decide +kernel
theorem dX12_operand_145 : decode cX12_operand 145 = .ok (.invokevirtual 321, 3) := dk_i kdX12_operand_145 0 rfl
theorem dX12_operand_148 : decode cX12_operand 148 = .ok (.ifCond .eq 23, 3) := dk_i kdX12_operand_145 1 rfl
theorem dX12_operand_151 : decode cX12_operand 151 = .ok (.aload_n 0, 1) := dk_i kdX12_operand_145 2 rfl
theorem dX12_operand_152 : decode cX12_operand 152 = .ok (.bipush 30, 2) := dk_i kdX12_operand_145 3 rfl
theorem dX12_operand_154 : decode cX12_operand 154 = .ok (.iconst 0, 1) := dk_i kdX12_operand_145 4 rfl
theorem dX12_operand_155 : decode cX12_operand 155 = .ok (.invokevirtual 312, 3) := dk_i kdX12_operand_145 5 rfl
theorem dX12_operand_158 : decode cX12_operand 158 = .ok (.aload_n 0, 1) := dk_i kdX12_operand_145 6 rfl
theorem dX12_operand_159 : decode cX12_operand 159 = .ok (.getfield 125, 3) := dk_i kdX12_operand_145 7 rfl
theorem dX12_operand_162 : decode cX12_operand 162 = .ok (.iload_n 1, 1) := dk_i kdX12_operand_145 8 rfl
theorem dX12_operand_163 : decode cX12_operand 163 = .ok (.iconst 2, 1) := dk_i kdX12_operand_145 9 rfl
theorem dX12_operand_164 : decode cX12_operand 164 = .ok (.iastore, 1) := dk_i kdX12_operand_145 10 rfl
theorem dX12_operand_165 : decode cX12_operand 165 = .ok (.aload_n 0, 1) := dk_i kdX12_operand_145 11 rfl
theorem dX12_operand_166 : decode cX12_operand 166 = .ok (.invokevirtual 244, 3) := dk_i kdX12_operand_145 12 rfl
theorem dX12_operand_169 : decode cX12_operand 169 = .ok (.iconst 1, 1) := dk_i kdX12_operand_145 13 rfl
theorem dX12_operand_170 : decode cX12_operand 170 = .ok (.ireturn, 1) := dk_i kdX12_operand_145 14 rfl
theorem dX12_operand_171 : decode cX12_operand 171 = .ok (.aload_n 0, 1) := dk_i kdX12_operand_145 15 rfl
def ldX12_operand_172 : List (Nat × ClassFile.Instr × Nat) := [(172, .bipush 40, 2), (174, .invokevirtual 241, 3), (177, .ifCond .eq 10, 3), (180, .aload_n 0, 1), (181, .iconst 2, 1), (182, .invokevirtual 328, 3), (185, .iconst 0, 1), (186, .ireturn, 1), (187, .aload_n 0, 1), (188, .ldc2_w 293, 3), (191, .invokevirtual 321, 3), (194, .ifCond .ne 23, 3), (197, .aload_n 0, 1), (198, .ldc2_w 295, 3), (201, .invokevirtual 321, 3), (204, .ifCond .ne 13, 3)]
theorem kdX12_operand_172 : dkO cX12_operand 172 ldX12_operand_172 = true := by decide +kernel
theorem dX12_operand_172 : decode cX12_operand 172 = .ok (.bipush 40, 2) := dk_i kdX12_operand_172 0 rfl
theorem dX12_operand_174 : decode cX12_operand 174 = .ok (.invokevirtual 241, 3) := dk_i kdX12_operand_172 1 rfl
theorem dX12_operand_177 : decode cX12_operand 177 = .ok (.ifCond .eq 10, 3) := dk_i kdX12_operand_172 2 rfl
theorem dX12_operand_180 : decode cX12_operand 180 = .ok (.aload_n 0, 1) := dk_i kdX12_operand_172 3 rfl
theorem dX12_operand_181 : decode cX12_operand 181 = .ok (.iconst 2, 1) := dk_i kdX12_operand_172 4 rfl
theorem dX12_operand_182 : decode cX12_operand 182 = .ok (.invokevirtual 328, 3) := dk_i kdX12_operand_172 5 rfl
theorem dX12_operand_185 : decode cX12_operand 185 = .ok (.iconst 0, 1) := dk_i kdX12_operand_172 6 rfl
theorem dX12_operand_186 : decode cX12_operand 186 = .ok (.ireturn, 1) := dk_i kdX12_operand_172 7 rfl
theorem dX12_operand_187 : decode cX12_operand 187 = .ok (.aload_n 0, 1) := dk_i kdX12_operand_172 8 rfl
theorem dX12_operand_188 : decode cX12_operand 188 = .ok (.ldc2_w 293, 3) := dk_i kdX12_operand_172 9 rfl
theorem dX12_operand_191 : decode cX12_operand 191 = .ok (.invokevirtual 321, 3) := dk_i kdX12_operand_172 10 rfl
theorem dX12_operand_194 : decode cX12_operand 194 = .ok (.ifCond .ne 23, 3) := dk_i kdX12_operand_172 11 rfl
theorem dX12_operand_197 : decode cX12_operand 197 = .ok (.aload_n 0, 1) := dk_i kdX12_operand_172 12 rfl
theorem dX12_operand_198 : decode cX12_operand 198 = .ok (.ldc2_w 295, 3) := dk_i kdX12_operand_172 13 rfl
theorem dX12_operand_201 : decode cX12_operand 201 = .ok (.invokevirtual 321, 3) := dk_i kdX12_operand_172 14 rfl
theorem dX12_operand_204 : decode cX12_operand 204 = .ok (.ifCond .ne 13, 3) := dk_i kdX12_operand_172 15 rfl
def ldX12_operand_207 : List (Nat × ClassFile.Instr × Nat) := [(207, .aload_n 0, 1), (208, .ldc2_w 283, 3), (211, .invokevirtual 321, 3), (214, .ifCond .eq 99, 3), (217, .aload_n 0, 1), (218, .ldc2_w 293, 3), (221, .invokevirtual 321, 3), (224, .ifCond .eq 8, 3), (227, .bipush 36, 2), (229, .goto 20, 3), (232, .aload_n 0, 1), (233, .ldc2_w 295, 3), (236, .invokevirtual 321, 3), (239, .ifCond .eq 8, 3), (242, .bipush 37, 2), (244, .goto 5, 3)]
theorem kdX12_operand_207 : dkO cX12_operand 207 ldX12_operand_207 = true := by decide +kernel
theorem dX12_operand_207 : decode cX12_operand 207 = .ok (.aload_n 0, 1) := dk_i kdX12_operand_207 0 rfl
theorem dX12_operand_208 : decode cX12_operand 208 = .ok (.ldc2_w 283, 3) := dk_i kdX12_operand_207 1 rfl
theorem dX12_operand_211 : decode cX12_operand 211 = .ok (.invokevirtual 321, 3) := dk_i kdX12_operand_207 2 rfl
theorem dX12_operand_214 : decode cX12_operand 214 = .ok (.ifCond .eq 99, 3) := dk_i kdX12_operand_207 3 rfl
theorem dX12_operand_217 : decode cX12_operand 217 = .ok (.aload_n 0, 1) := dk_i kdX12_operand_207 4 rfl
theorem dX12_operand_218 : decode cX12_operand 218 = .ok (.ldc2_w 293, 3) := dk_i kdX12_operand_207 5 rfl
theorem dX12_operand_221 : decode cX12_operand 221 = .ok (.invokevirtual 321, 3) := dk_i kdX12_operand_207 6 rfl
theorem dX12_operand_224 : decode cX12_operand 224 = .ok (.ifCond .eq 8, 3) := dk_i kdX12_operand_207 7 rfl
theorem dX12_operand_227 : decode cX12_operand 227 = .ok (.bipush 36, 2) := dk_i kdX12_operand_207 8 rfl
theorem dX12_operand_229 : decode cX12_operand 229 = .ok (.goto 20, 3) := dk_i kdX12_operand_207 9 rfl
theorem dX12_operand_232 : decode cX12_operand 232 = .ok (.aload_n 0, 1) := dk_i kdX12_operand_207 10 rfl
theorem dX12_operand_233 : decode cX12_operand 233 = .ok (.ldc2_w 295, 3) := dk_i kdX12_operand_207 11 rfl
theorem dX12_operand_236 : decode cX12_operand 236 = .ok (.invokevirtual 321, 3) := dk_i kdX12_operand_207 12 rfl
theorem dX12_operand_239 : decode cX12_operand 239 = .ok (.ifCond .eq 8, 3) := dk_i kdX12_operand_207 13 rfl
theorem dX12_operand_242 : decode cX12_operand 242 = .ok (.bipush 37, 2) := dk_i kdX12_operand_207 14 rfl
theorem dX12_operand_244 : decode cX12_operand 244 = .ok (.goto 5, 3) := dk_i kdX12_operand_207 15 rfl
def ldX12_operand_247 : List (Nat × ClassFile.Instr × Nat) := [(247, .bipush 44, 2), (249, .istore_n 3, 1), (250, .aload_n 0, 1), (251, .invokevirtual 244, 3), (254, .aload_n 0, 1), (255, .invokevirtual 238, 3), (258, .aload_n 0, 1), (259, .bipush 40, 2), (261, .invokevirtual 241, 3), (264, .ifCond .ne 12, 3), (267, .aload_n 0, 1), (268, .iconst 1, 1), (269, .aload_n 0, 1), (270, .getfield 23, 3), (273, .invokevirtual 227, 3), (276, .aload_n 0, 1)]
theorem kdX12_operand_247 : dkO cX12_operand 247 ldX12_operand_247 = true := by decide +kernel
theorem dX12_operand_247 : decode cX12_operand 247 = .ok (.bipush 44, 2) := dk_i kdX12_operand_247 0 rfl
theorem dX12_operand_249 : decode cX12_operand 249 = .ok (.istore_n 3, 1) := dk_i kdX12_operand_247 1 rfl
theorem dX12_operand_250 : decode cX12_operand 250 = .ok (.aload_n 0, 1) := dk_i kdX12_operand_247 2 rfl
theorem dX12_operand_251 : decode cX12_operand 251 = .ok (.invokevirtual 244, 3) := dk_i kdX12_operand_247 3 rfl
theorem dX12_operand_254 : decode cX12_operand 254 = .ok (.aload_n 0, 1) := dk_i kdX12_operand_247 4 rfl
theorem dX12_operand_255 : decode cX12_operand 255 = .ok (.invokevirtual 238, 3) := dk_i kdX12_operand_247 5 rfl
theorem dX12_operand_258 : decode cX12_operand 258 = .ok (.aload_n 0, 1) := dk_i kdX12_operand_247 6 rfl
theorem dX12_operand_259 : decode cX12_operand 259 = .ok (.bipush 40, 2) := dk_i kdX12_operand_247 7 rfl
theorem dX12_operand_261 : decode cX12_operand 261 = .ok (.invokevirtual 241, 3) := dk_i kdX12_operand_247 8 rfl
theorem dX12_operand_264 : decode cX12_operand 264 = .ok (.ifCond .ne 12, 3) := dk_i kdX12_operand_247 9 rfl
theorem dX12_operand_267 : decode cX12_operand 267 = .ok (.aload_n 0, 1) := dk_i kdX12_operand_247 10 rfl
theorem dX12_operand_268 : decode cX12_operand 268 = .ok (.iconst 1, 1) := dk_i kdX12_operand_247 11 rfl
theorem dX12_operand_269 : decode cX12_operand 269 = .ok (.aload_n 0, 1) := dk_i kdX12_operand_247 12 rfl
theorem dX12_operand_270 : decode cX12_operand 270 = .ok (.getfield 23, 3) := dk_i kdX12_operand_247 13 rfl
theorem dX12_operand_273 : decode cX12_operand 273 = .ok (.invokevirtual 227, 3) := dk_i kdX12_operand_247 14 rfl
theorem dX12_operand_276 : decode cX12_operand 276 = .ok (.aload_n 0, 1) := dk_i kdX12_operand_247 15 rfl
def ldX12_operand_277 : List (Nat × ClassFile.Instr × Nat) := [(277, .iload_n 3, 1), (278, .bipush 44, 2), (280, .if_icmp .ne 8, 3), (283, .bipush 6, 2), (285, .goto 4, 3), (288, .iconst 3, 1), (289, .invokevirtual 328, 3), (292, .aload_n 0, 1), (293, .getfield 36, 3), (296, .ifCond .ne 15, 3), (299, .aload_n 0, 1), (300, .getfield 132, 3), (303, .aload_n 0, 1), (304, .getfield 138, 3), (307, .iconst 1, 1), (308, .isub, 1)]
theorem kdX12_operand_277 : dkO cX12_operand 277 ldX12_operand_277 = true := by decide +kernel
theorem dX12_operand_277 : decode cX12_operand 277 = .ok (.iload_n 3, 1) := dk_i kdX12_operand_277 0 rfl
theorem dX12_operand_278 : decode cX12_operand 278 = .ok (.bipush 44, 2) := dk_i kdX12_operand_277 1 rfl
theorem dX12_operand_280 : decode cX12_operand 280 = .ok (.if_icmp .ne 8, 3) := dk_i kdX12_operand_277 2 rfl
theorem dX12_operand_283 : decode cX12_operand 283 = .ok (.bipush 6, 2) := dk_i kdX12_operand_277 3 rfl
theorem dX12_operand_285 : decode cX12_operand 285 = .ok (.goto 4, 3) := dk_i kdX12_operand_277 4 rfl
theorem dX12_operand_288 : decode cX12_operand 288 = .ok (.iconst 3, 1) := dk_i kdX12_operand_277 5 rfl
theorem dX12_operand_289 : decode cX12_operand 289 = .ok (.invokevirtual 328, 3) := dk_i kdX12_operand_277 6 rfl
theorem dX12_operand_292 : decode cX12_operand 292 = .ok (.aload_n 0, 1) := dk_i kdX12_operand_277 7 rfl
theorem dX12_operand_293 : decode cX12_operand 293 = .ok (.getfield 36, 3) := dk_i kdX12_operand_277 8 rfl
theorem dX12_operand_296 : decode cX12_operand 296 = .ok (.ifCond .ne 15, 3) := dk_i kdX12_operand_277 9 rfl
theorem dX12_operand_299 : decode cX12_operand 299 = .ok (.aload_n 0, 1) := dk_i kdX12_operand_277 10 rfl
theorem dX12_operand_300 : decode cX12_operand 300 = .ok (.getfield 132, 3) := dk_i kdX12_operand_277 11 rfl
theorem dX12_operand_303 : decode cX12_operand 303 = .ok (.aload_n 0, 1) := dk_i kdX12_operand_277 12 rfl
theorem dX12_operand_304 : decode cX12_operand 304 = .ok (.getfield 138, 3) := dk_i kdX12_operand_277 13 rfl
theorem dX12_operand_307 : decode cX12_operand 307 = .ok (.iconst 1, 1) := dk_i kdX12_operand_277 14 rfl
theorem dX12_operand_308 : decode cX12_operand 308 = .ok (.isub, 1) := dk_i kdX12_operand_277 15 rfl
def ldX12_operand_309 : List (Nat × ClassFile.Instr × Nat) := [(309, .iload_n 3, 1), (310, .iastore, 1), (311, .iconst 0, 1), (312, .ireturn, 1), (313, .aload_n 0, 1), (314, .getfield 20, 3), (317, .iconst 2, 1), (318, .if_icmp .ne 7, 3), (321, .iconst 0, 1), (322, .goto 89, 3), (325, .aload_n 0, 1), (326, .ldc2_w 249, 3), (329, .invokevirtual 321, 3), (332, .ifCond .eq 7, 3), (335, .iconst 1, 1), (336, .goto 75, 3)]
theorem kdX12_operand_309 : dkO cX12_operand 309 ldX12_operand_309 = true := by decide +kernel
theorem dX12_operand_309 : decode cX12_operand 309 = .ok (.iload_n 3, 1) := dk_i kdX12_operand_309 0 rfl
theorem dX12_operand_310 : decode cX12_operand 310 = .ok (.iastore, 1) := dk_i kdX12_operand_309 1 rfl
theorem dX12_operand_311 : decode cX12_operand 311 = .ok (.iconst 0, 1) := dk_i kdX12_operand_309 2 rfl
theorem dX12_operand_312 : decode cX12_operand 312 = .ok (.ireturn, 1) := dk_i kdX12_operand_309 3 rfl
theorem dX12_operand_313 : decode cX12_operand 313 = .ok (.aload_n 0, 1) := dk_i kdX12_operand_309 4 rfl
theorem dX12_operand_314 : decode cX12_operand 314 = .ok (.getfield 20, 3) := dk_i kdX12_operand_309 5 rfl
theorem dX12_operand_317 : decode cX12_operand 317 = .ok (.iconst 2, 1) := dk_i kdX12_operand_309 6 rfl
theorem dX12_operand_318 : decode cX12_operand 318 = .ok (.if_icmp .ne 7, 3) := dk_i kdX12_operand_309 7 rfl
theorem dX12_operand_321 : decode cX12_operand 321 = .ok (.iconst 0, 1) := dk_i kdX12_operand_309 8 rfl
theorem dX12_operand_322 : decode cX12_operand 322 = .ok (.goto 89, 3) := dk_i kdX12_operand_309 9 rfl
theorem dX12_operand_325 : decode cX12_operand 325 = .ok (.aload_n 0, 1) := dk_i kdX12_operand_309 10 rfl
theorem dX12_operand_326 : decode cX12_operand 326 = .ok (.ldc2_w 249, 3) := dk_i kdX12_operand_309 11 rfl
theorem dX12_operand_329 : decode cX12_operand 329 = .ok (.invokevirtual 321, 3) := dk_i kdX12_operand_309 12 rfl
theorem dX12_operand_332 : decode cX12_operand 332 = .ok (.ifCond .eq 7, 3) := dk_i kdX12_operand_309 13 rfl
theorem dX12_operand_335 : decode cX12_operand 335 = .ok (.iconst 1, 1) := dk_i kdX12_operand_309 14 rfl
theorem dX12_operand_336 : decode cX12_operand 336 = .ok (.goto 75, 3) := dk_i kdX12_operand_309 15 rfl
def ldX12_operand_339 : List (Nat × ClassFile.Instr × Nat) := [(339, .aload_n 0, 1), (340, .ldc2_w 277, 3), (343, .invokevirtual 321, 3), (346, .ifCond .eq 7, 3), (349, .iconst 2, 1), (350, .goto 61, 3), (353, .aload_n 0, 1), (354, .ldc2_w 253, 3), (357, .invokevirtual 321, 3), (360, .ifCond .eq 7, 3), (363, .iconst 3, 1), (364, .goto 47, 3), (367, .aload_n 0, 1), (368, .ldc2_w 279, 3), (371, .invokevirtual 321, 3), (374, .ifCond .eq 7, 3)]
theorem kdX12_operand_339 : dkO cX12_operand 339 ldX12_operand_339 = true := by decide +kernel
theorem dX12_operand_339 : decode cX12_operand 339 = .ok (.aload_n 0, 1) := dk_i kdX12_operand_339 0 rfl
theorem dX12_operand_340 : decode cX12_operand 340 = .ok (.ldc2_w 277, 3) := dk_i kdX12_operand_339 1 rfl
theorem dX12_operand_343 : decode cX12_operand 343 = .ok (.invokevirtual 321, 3) := dk_i kdX12_operand_339 2 rfl
theorem dX12_operand_346 : decode cX12_operand 346 = .ok (.ifCond .eq 7, 3) := dk_i kdX12_operand_339 3 rfl
theorem dX12_operand_349 : decode cX12_operand 349 = .ok (.iconst 2, 1) := dk_i kdX12_operand_339 4 rfl
theorem dX12_operand_350 : decode cX12_operand 350 = .ok (.goto 61, 3) := dk_i kdX12_operand_339 5 rfl
theorem dX12_operand_353 : decode cX12_operand 353 = .ok (.aload_n 0, 1) := dk_i kdX12_operand_339 6 rfl
theorem dX12_operand_354 : decode cX12_operand 354 = .ok (.ldc2_w 253, 3) := dk_i kdX12_operand_339 7 rfl
theorem dX12_operand_357 : decode cX12_operand 357 = .ok (.invokevirtual 321, 3) := dk_i kdX12_operand_339 8 rfl
theorem dX12_operand_360 : decode cX12_operand 360 = .ok (.ifCond .eq 7, 3) := dk_i kdX12_operand_339 9 rfl
theorem dX12_operand_363 : decode cX12_operand 363 = .ok (.iconst 3, 1) := dk_i kdX12_operand_339 10 rfl
theorem dX12_operand_364 : decode cX12_operand 364 = .ok (.goto 47, 3) := dk_i kdX12_operand_339 11 rfl
theorem dX12_operand_367 : decode cX12_operand 367 = .ok (.aload_n 0, 1) := dk_i kdX12_operand_339 12 rfl
theorem dX12_operand_368 : decode cX12_operand 368 = .ok (.ldc2_w 279, 3) := dk_i kdX12_operand_339 13 rfl
theorem dX12_operand_371 : decode cX12_operand 371 = .ok (.invokevirtual 321, 3) := dk_i kdX12_operand_339 14 rfl
theorem dX12_operand_374 : decode cX12_operand 374 = .ok (.ifCond .eq 7, 3) := dk_i kdX12_operand_339 15 rfl
def ldX12_operand_377 : List (Nat × ClassFile.Instr × Nat) := [(377, .iconst 4, 1), (378, .goto 33, 3), (381, .aload_n 0, 1), (382, .ldc2_w 281, 3), (385, .invokevirtual 321, 3), (388, .ifCond .eq 7, 3), (391, .iconst 5, 1), (392, .goto 19, 3), (395, .aload_n 0, 1), (396, .ldc2_w 251, 3), (399, .invokevirtual 321, 3), (402, .ifCond .eq 8, 3), (405, .bipush 6, 2), (407, .goto 4, 3), (410, .iconst (-1), 1), (411, .istore_n 3, 1)]
theorem kdX12_operand_377 : dkO cX12_operand 377 ldX12_operand_377 = true := by decide +kernel
theorem dX12_operand_377 : decode cX12_operand 377 = .ok (.iconst 4, 1) := dk_i kdX12_operand_377 0 rfl
theorem dX12_operand_378 : decode cX12_operand 378 = .ok (.goto 33, 3) := dk_i kdX12_operand_377 1 rfl
theorem dX12_operand_381 : decode cX12_operand 381 = .ok (.aload_n 0, 1) := dk_i kdX12_operand_377 2 rfl
theorem dX12_operand_382 : decode cX12_operand 382 = .ok (.ldc2_w 281, 3) := dk_i kdX12_operand_377 3 rfl
theorem dX12_operand_385 : decode cX12_operand 385 = .ok (.invokevirtual 321, 3) := dk_i kdX12_operand_377 4 rfl
theorem dX12_operand_388 : decode cX12_operand 388 = .ok (.ifCond .eq 7, 3) := dk_i kdX12_operand_377 5 rfl
theorem dX12_operand_391 : decode cX12_operand 391 = .ok (.iconst 5, 1) := dk_i kdX12_operand_377 6 rfl
theorem dX12_operand_392 : decode cX12_operand 392 = .ok (.goto 19, 3) := dk_i kdX12_operand_377 7 rfl
theorem dX12_operand_395 : decode cX12_operand 395 = .ok (.aload_n 0, 1) := dk_i kdX12_operand_377 8 rfl
theorem dX12_operand_396 : decode cX12_operand 396 = .ok (.ldc2_w 251, 3) := dk_i kdX12_operand_377 9 rfl
theorem dX12_operand_399 : decode cX12_operand 399 = .ok (.invokevirtual 321, 3) := dk_i kdX12_operand_377 10 rfl
theorem dX12_operand_402 : decode cX12_operand 402 = .ok (.ifCond .eq 8, 3) := dk_i kdX12_operand_377 11 rfl
theorem dX12_operand_405 : decode cX12_operand 405 = .ok (.bipush 6, 2) := dk_i kdX12_operand_377 12 rfl
theorem dX12_operand_407 : decode cX12_operand 407 = .ok (.goto 4, 3) := dk_i kdX12_operand_377 13 rfl
theorem dX12_operand_410 : decode cX12_operand 410 = .ok (.iconst (-1), 1) := dk_i kdX12_operand_377 14 rfl
theorem dX12_operand_411 : decode cX12_operand 411 = .ok (.istore_n 3, 1) := dk_i kdX12_operand_377 15 rfl
def ldX12_operand_412 : List (Nat × ClassFile.Instr × Nat) := [(412, .iload_n 3, 1), (413, .iconst 5, 1), (414, .if_icmp .lt 23, 3), (417, .iload_n 3, 1), (418, .bipush 6, 2), (420, .if_icmp .ne 7, 3), (423, .iconst 1, 1), (424, .goto 4, 3), (427, .iconst 0, 1), (428, .aload_n 0, 1), (429, .getfield 118, 3), (432, .if_icmp .eq 5, 3), (435, .iconst (-1), 1), (436, .istore_n 3, 1), (437, .iload_n 3, 1), (438, .iconst (-1), 1)]
theorem kdX12_operand_412 : dkO cX12_operand 412 ldX12_operand_412 = true := by decide +kernel
theorem dX12_operand_412 : decode cX12_operand 412 = .ok (.iload_n 3, 1) := dk_i kdX12_operand_412 0 rfl
theorem dX12_operand_413 : decode cX12_operand 413 = .ok (.iconst 5, 1) := dk_i kdX12_operand_412 1 rfl
theorem dX12_operand_414 : decode cX12_operand 414 = .ok (.if_icmp .lt 23, 3) := dk_i kdX12_operand_412 2 rfl
theorem dX12_operand_417 : decode cX12_operand 417 = .ok (.iload_n 3, 1) := dk_i kdX12_operand_412 3 rfl
theorem dX12_operand_418 : decode cX12_operand 418 = .ok (.bipush 6, 2) := dk_i kdX12_operand_412 4 rfl
theorem dX12_operand_420 : decode cX12_operand 420 = .ok (.if_icmp .ne 7, 3) := dk_i kdX12_operand_412 5 rfl
theorem dX12_operand_423 : decode cX12_operand 423 = .ok (.iconst 1, 1) := dk_i kdX12_operand_412 6 rfl
theorem dX12_operand_424 : decode cX12_operand 424 = .ok (.goto 4, 3) := dk_i kdX12_operand_412 7 rfl
theorem dX12_operand_427 : decode cX12_operand 427 = .ok (.iconst 0, 1) := dk_i kdX12_operand_412 8 rfl
theorem dX12_operand_428 : decode cX12_operand 428 = .ok (.aload_n 0, 1) := dk_i kdX12_operand_412 9 rfl
theorem dX12_operand_429 : decode cX12_operand 429 = .ok (.getfield 118, 3) := dk_i kdX12_operand_412 10 rfl
theorem dX12_operand_432 : decode cX12_operand 432 = .ok (.if_icmp .eq 5, 3) := dk_i kdX12_operand_412 11 rfl
theorem dX12_operand_435 : decode cX12_operand 435 = .ok (.iconst (-1), 1) := dk_i kdX12_operand_412 12 rfl
theorem dX12_operand_436 : decode cX12_operand 436 = .ok (.istore_n 3, 1) := dk_i kdX12_operand_412 13 rfl
theorem dX12_operand_437 : decode cX12_operand 437 = .ok (.iload_n 3, 1) := dk_i kdX12_operand_412 14 rfl
theorem dX12_operand_438 : decode cX12_operand 438 = .ok (.iconst (-1), 1) := dk_i kdX12_operand_412 15 rfl
def ldX12_operand_439 : List (Nat × ClassFile.Instr × Nat) := [(439, .if_icmp .ne 12, 3), (442, .aload_n 0, 1), (443, .iconst 1, 1), (444, .aload_n 0, 1), (445, .getfield 23, 3), (448, .invokevirtual 227, 3), (451, .aload_n 0, 1), (452, .getfield 36, 3), (455, .ifCond .le 5, 3), (458, .iconst 1, 1), (459, .ireturn, 1), (460, .aload_n 0, 1), (461, .iload_n 3, 1), (462, .aload_n 0, 1), (463, .getfield 29, 3), (466, .invokevirtual 312, 3)]
theorem kdX12_operand_439 : dkO cX12_operand 439 ldX12_operand_439 = true := by decide +kernel
theorem dX12_operand_439 : decode cX12_operand 439 = .ok (.if_icmp .ne 12, 3) := dk_i kdX12_operand_439 0 rfl
theorem dX12_operand_442 : decode cX12_operand 442 = .ok (.aload_n 0, 1) := dk_i kdX12_operand_439 1 rfl
theorem dX12_operand_443 : decode cX12_operand 443 = .ok (.iconst 1, 1) := dk_i kdX12_operand_439 2 rfl
theorem dX12_operand_444 : decode cX12_operand 444 = .ok (.aload_n 0, 1) := dk_i kdX12_operand_439 3 rfl
theorem dX12_operand_445 : decode cX12_operand 445 = .ok (.getfield 23, 3) := dk_i kdX12_operand_439 4 rfl
theorem dX12_operand_448 : decode cX12_operand 448 = .ok (.invokevirtual 227, 3) := dk_i kdX12_operand_439 5 rfl
theorem dX12_operand_451 : decode cX12_operand 451 = .ok (.aload_n 0, 1) := dk_i kdX12_operand_439 6 rfl
theorem dX12_operand_452 : decode cX12_operand 452 = .ok (.getfield 36, 3) := dk_i kdX12_operand_439 7 rfl
theorem dX12_operand_455 : decode cX12_operand 455 = .ok (.ifCond .le 5, 3) := dk_i kdX12_operand_439 8 rfl
theorem dX12_operand_458 : decode cX12_operand 458 = .ok (.iconst 1, 1) := dk_i kdX12_operand_439 9 rfl
theorem dX12_operand_459 : decode cX12_operand 459 = .ok (.ireturn, 1) := dk_i kdX12_operand_439 10 rfl
theorem dX12_operand_460 : decode cX12_operand 460 = .ok (.aload_n 0, 1) := dk_i kdX12_operand_439 11 rfl
theorem dX12_operand_461 : decode cX12_operand 461 = .ok (.iload_n 3, 1) := dk_i kdX12_operand_439 12 rfl
theorem dX12_operand_462 : decode cX12_operand 462 = .ok (.aload_n 0, 1) := dk_i kdX12_operand_439 13 rfl
theorem dX12_operand_463 : decode cX12_operand 463 = .ok (.getfield 29, 3) := dk_i kdX12_operand_439 14 rfl
theorem dX12_operand_466 : decode cX12_operand 466 = .ok (.invokevirtual 312, 3) := dk_i kdX12_operand_439 15 rfl
def ldX12_operand_469 : List (Nat × ClassFile.Instr × Nat) := [(469, .aload_n 0, 1), (470, .invokevirtual 244, 3), (473, .iconst 1, 1), (474, .ireturn, 1)]
theorem kdX12_operand_469 : dkO cX12_operand 469 ldX12_operand_469 = true := by decide +kernel
theorem dX12_operand_469 : decode cX12_operand 469 = .ok (.aload_n 0, 1) := dk_i kdX12_operand_469 0 rfl
theorem dX12_operand_470 : decode cX12_operand 470 = .ok (.invokevirtual 244, 3) := dk_i kdX12_operand_469 1 rfl
theorem dX12_operand_473 : decode cX12_operand 473 = .ok (.iconst 1, 1) := dk_i kdX12_operand_469 2 rfl
theorem dX12_operand_474 : decode cX12_operand 474 = .ok (.ireturn, 1) := dk_i kdX12_operand_469 3 rfl
def ldX12_goesOn_0 : List (Nat × ClassFile.Instr × Nat) := [(0, .aload_n 0, 1), (1, .invokevirtual 238, 3), (4, .aload_n 0, 1), (5, .getfield 36, 3), (8, .ifCond .le 5, 3), (11, .iconst 0, 1), (12, .ireturn, 1), (13, .aload_n 0, 1), (14, .getfield 138, 3), (17, .iconst 1, 1), (18, .isub, 1), (19, .istore_n 1, 1), (20, .aload_n 0, 1), (21, .getfield 122, 3), (24, .iload_n 1, 1), (25, .iaload, 1)]
theorem kdX12_goesOn_0 : dkO cX12_goesOn 0 ldX12_goesOn_0 = true := by decide +kernel
theorem dX12_goesOn_0 : decode cX12_goesOn 0 = .ok (.aload_n 0, 1) := dk_i kdX12_goesOn_0 0 rfl
theorem dX12_goesOn_1 : decode cX12_goesOn 1 = .ok (.invokevirtual 238, 3) := dk_i kdX12_goesOn_0 1 rfl
theorem dX12_goesOn_4 : decode cX12_goesOn 4 = .ok (.aload_n 0, 1) := dk_i kdX12_goesOn_0 2 rfl
theorem dX12_goesOn_5 : decode cX12_goesOn 5 = .ok (.getfield 36, 3) := dk_i kdX12_goesOn_0 3 rfl
theorem dX12_goesOn_8 : decode cX12_goesOn 8 = .ok (.ifCond .le 5, 3) := dk_i kdX12_goesOn_0 4 rfl
theorem dX12_goesOn_11 : decode cX12_goesOn 11 = .ok (.iconst 0, 1) := dk_i kdX12_goesOn_0 5 rfl
theorem dX12_goesOn_12 : decode cX12_goesOn 12 = .ok (.ireturn, 1) := dk_i kdX12_goesOn_0 6 rfl
theorem dX12_goesOn_13 : decode cX12_goesOn 13 = .ok (.aload_n 0, 1) := dk_i kdX12_goesOn_0 7 rfl
theorem dX12_goesOn_14 : decode cX12_goesOn 14 = .ok (.getfield 138, 3) := dk_i kdX12_goesOn_0 8 rfl
theorem dX12_goesOn_17 : decode cX12_goesOn 17 = .ok (.iconst 1, 1) := dk_i kdX12_goesOn_0 9 rfl
theorem dX12_goesOn_18 : decode cX12_goesOn 18 = .ok (.isub, 1) := dk_i kdX12_goesOn_0 10 rfl
theorem dX12_goesOn_19 : decode cX12_goesOn 19 = .ok (.istore_n 1, 1) := dk_i kdX12_goesOn_0 11 rfl
theorem dX12_goesOn_20 : decode cX12_goesOn 20 = .ok (.aload_n 0, 1) := dk_i kdX12_goesOn_0 12 rfl
theorem dX12_goesOn_21 : decode cX12_goesOn 21 = .ok (.getfield 122, 3) := dk_i kdX12_goesOn_0 13 rfl
theorem dX12_goesOn_24 : decode cX12_goesOn 24 = .ok (.iload_n 1, 1) := dk_i kdX12_goesOn_0 14 rfl
theorem dX12_goesOn_25 : decode cX12_goesOn 25 = .ok (.iaload, 1) := dk_i kdX12_goesOn_0 15 rfl
def ldX12_goesOn_26 : List (Nat × ClassFile.Instr × Nat) := [(26, .istore_n 2, 1), (27, .iload_n 2, 1), (28, .invokestatic 318, 3), (31, .istore_n 3, 1), (32, .aload_n 0, 1), (33, .getfield 125, 3), (36, .iload_n 1, 1), (37, .iaload, 1), (38, .iconst 2, 1), (39, .if_icmp .ge 149, 3), (42, .aload_n 0, 1), (43, .bipush 43, 2), (45, .invokevirtual 241, 3), (48, .ifCond .ne 39, 3), (51, .aload_n 0, 1), (52, .bipush 45, 2)]
theorem kdX12_goesOn_26 : dkO cX12_goesOn 26 ldX12_goesOn_26 = true := by decide +kernel
theorem dX12_goesOn_26 : decode cX12_goesOn 26 = .ok (.istore_n 2, 1) := dk_i kdX12_goesOn_26 0 rfl
theorem dX12_goesOn_27 : decode cX12_goesOn 27 = .ok (.iload_n 2, 1) := dk_i kdX12_goesOn_26 1 rfl
theorem dX12_goesOn_28 : decode cX12_goesOn 28 = .ok (.invokestatic 318, 3) := dk_i kdX12_goesOn_26 2 rfl
theorem dX12_goesOn_31 : decode cX12_goesOn 31 = .ok (.istore_n 3, 1) := dk_i kdX12_goesOn_26 3 rfl
theorem dX12_goesOn_32 : decode cX12_goesOn 32 = .ok (.aload_n 0, 1) := dk_i kdX12_goesOn_26 4 rfl
theorem dX12_goesOn_33 : decode cX12_goesOn 33 = .ok (.getfield 125, 3) := dk_i kdX12_goesOn_26 5 rfl
theorem dX12_goesOn_36 : decode cX12_goesOn 36 = .ok (.iload_n 1, 1) := dk_i kdX12_goesOn_26 6 rfl
theorem dX12_goesOn_37 : decode cX12_goesOn 37 = .ok (.iaload, 1) := dk_i kdX12_goesOn_26 7 rfl
theorem dX12_goesOn_38 : decode cX12_goesOn 38 = .ok (.iconst 2, 1) := dk_i kdX12_goesOn_26 8 rfl
theorem dX12_goesOn_39 : decode cX12_goesOn 39 = .ok (.if_icmp .ge 149, 3) := dk_i kdX12_goesOn_26 9 rfl
theorem dX12_goesOn_42 : decode cX12_goesOn 42 = .ok (.aload_n 0, 1) := dk_i kdX12_goesOn_26 10 rfl
theorem dX12_goesOn_43 : decode cX12_goesOn 43 = .ok (.bipush 43, 2) := dk_i kdX12_goesOn_26 11 rfl
theorem dX12_goesOn_45 : decode cX12_goesOn 45 = .ok (.invokevirtual 241, 3) := dk_i kdX12_goesOn_26 12 rfl
theorem dX12_goesOn_48 : decode cX12_goesOn 48 = .ok (.ifCond .ne 39, 3) := dk_i kdX12_goesOn_26 13 rfl
theorem dX12_goesOn_51 : decode cX12_goesOn 51 = .ok (.aload_n 0, 1) := dk_i kdX12_goesOn_26 14 rfl
theorem dX12_goesOn_52 : decode cX12_goesOn 52 = .ok (.bipush 45, 2) := dk_i kdX12_goesOn_26 15 rfl
def ldX12_goesOn_54 : List (Nat × ClassFile.Instr × Nat) := [(54, .invokevirtual 241, 3), (57, .ifCond .ne 30, 3), (60, .aload_n 0, 1), (61, .bipush 42, 2), (63, .invokevirtual 241, 3), (66, .ifCond .ne 21, 3), (69, .aload_n 0, 1), (70, .bipush 47, 2), (72, .invokevirtual 241, 3), (75, .ifCond .ne 12, 3), (78, .aload_n 0, 1), (79, .bipush 37, 2), (81, .invokevirtual 241, 3), (84, .ifCond .eq 104, 3), (87, .aload_n 0, 1), (88, .aload_n 0, 1)]
theorem kdX12_goesOn_54 : dkO cX12_goesOn 54 ldX12_goesOn_54 = true := by decide +kernel
theorem dX12_goesOn_54 : decode cX12_goesOn 54 = .ok (.invokevirtual 241, 3) := dk_i kdX12_goesOn_54 0 rfl
theorem dX12_goesOn_57 : decode cX12_goesOn 57 = .ok (.ifCond .ne 30, 3) := dk_i kdX12_goesOn_54 1 rfl
theorem dX12_goesOn_60 : decode cX12_goesOn 60 = .ok (.aload_n 0, 1) := dk_i kdX12_goesOn_54 2 rfl
theorem dX12_goesOn_61 : decode cX12_goesOn 61 = .ok (.bipush 42, 2) := dk_i kdX12_goesOn_54 3 rfl
theorem dX12_goesOn_63 : decode cX12_goesOn 63 = .ok (.invokevirtual 241, 3) := dk_i kdX12_goesOn_54 4 rfl
theorem dX12_goesOn_66 : decode cX12_goesOn 66 = .ok (.ifCond .ne 21, 3) := dk_i kdX12_goesOn_54 5 rfl
theorem dX12_goesOn_69 : decode cX12_goesOn 69 = .ok (.aload_n 0, 1) := dk_i kdX12_goesOn_54 6 rfl
theorem dX12_goesOn_70 : decode cX12_goesOn 70 = .ok (.bipush 47, 2) := dk_i kdX12_goesOn_54 7 rfl
theorem dX12_goesOn_72 : decode cX12_goesOn 72 = .ok (.invokevirtual 241, 3) := dk_i kdX12_goesOn_54 8 rfl
theorem dX12_goesOn_75 : decode cX12_goesOn 75 = .ok (.ifCond .ne 12, 3) := dk_i kdX12_goesOn_54 9 rfl
theorem dX12_goesOn_78 : decode cX12_goesOn 78 = .ok (.aload_n 0, 1) := dk_i kdX12_goesOn_54 10 rfl
theorem dX12_goesOn_79 : decode cX12_goesOn 79 = .ok (.bipush 37, 2) := dk_i kdX12_goesOn_54 11 rfl
theorem dX12_goesOn_81 : decode cX12_goesOn 81 = .ok (.invokevirtual 241, 3) := dk_i kdX12_goesOn_54 12 rfl
theorem dX12_goesOn_84 : decode cX12_goesOn 84 = .ok (.ifCond .eq 104, 3) := dk_i kdX12_goesOn_54 13 rfl
theorem dX12_goesOn_87 : decode cX12_goesOn 87 = .ok (.aload_n 0, 1) := dk_i kdX12_goesOn_54 14 rfl
theorem dX12_goesOn_88 : decode cX12_goesOn 88 = .ok (.aload_n 0, 1) := dk_i kdX12_goesOn_54 15 rfl
def ldX12_goesOn_89 : List (Nat × ClassFile.Instr × Nat) := [(89, .bipush 43, 2), (91, .invokevirtual 241, 3), (94, .ifCond .ne 12, 3), (97, .aload_n 0, 1), (98, .bipush 45, 2), (100, .invokevirtual 241, 3), (103, .ifCond .eq 7, 3), (106, .iconst 5, 1), (107, .goto 5, 3), (110, .bipush 6, 2), (112, .invokevirtual 331, 3), (115, .aload_n 0, 1), (116, .aload_n 0, 1), (117, .bipush 43, 2), (119, .invokevirtual 241, 3), (122, .ifCond .eq 8, 3)]
theorem kdX12_goesOn_89 : dkO cX12_goesOn 89 ldX12_goesOn_89 = true := by decide +kernel
theorem dX12_goesOn_89 : decode cX12_goesOn 89 = .ok (.bipush 43, 2) := dk_i kdX12_goesOn_89 0 rfl
theorem dX12_goesOn_91 : decode cX12_goesOn 91 = .ok (.invokevirtual 241, 3) := dk_i kdX12_goesOn_89 1 rfl
theorem dX12_goesOn_94 : decode cX12_goesOn 94 = .ok (.ifCond .ne 12, 3) := dk_i kdX12_goesOn_89 2 rfl
theorem dX12_goesOn_97 : decode cX12_goesOn 97 = .ok (.aload_n 0, 1) := dk_i kdX12_goesOn_89 3 rfl
theorem dX12_goesOn_98 : decode cX12_goesOn 98 = .ok (.bipush 45, 2) := dk_i kdX12_goesOn_89 4 rfl
theorem dX12_goesOn_100 : decode cX12_goesOn 100 = .ok (.invokevirtual 241, 3) := dk_i kdX12_goesOn_89 5 rfl
theorem dX12_goesOn_103 : decode cX12_goesOn 103 = .ok (.ifCond .eq 7, 3) := dk_i kdX12_goesOn_89 6 rfl
theorem dX12_goesOn_106 : decode cX12_goesOn 106 = .ok (.iconst 5, 1) := dk_i kdX12_goesOn_89 7 rfl
theorem dX12_goesOn_107 : decode cX12_goesOn 107 = .ok (.goto 5, 3) := dk_i kdX12_goesOn_89 8 rfl
theorem dX12_goesOn_110 : decode cX12_goesOn 110 = .ok (.bipush 6, 2) := dk_i kdX12_goesOn_89 9 rfl
theorem dX12_goesOn_112 : decode cX12_goesOn 112 = .ok (.invokevirtual 331, 3) := dk_i kdX12_goesOn_89 10 rfl
theorem dX12_goesOn_115 : decode cX12_goesOn 115 = .ok (.aload_n 0, 1) := dk_i kdX12_goesOn_89 11 rfl
theorem dX12_goesOn_116 : decode cX12_goesOn 116 = .ok (.aload_n 0, 1) := dk_i kdX12_goesOn_89 12 rfl
theorem dX12_goesOn_117 : decode cX12_goesOn 117 = .ok (.bipush 43, 2) := dk_i kdX12_goesOn_89 13 rfl
theorem dX12_goesOn_119 : decode cX12_goesOn 119 = .ok (.invokevirtual 241, 3) := dk_i kdX12_goesOn_89 14 rfl
theorem dX12_goesOn_122 : decode cX12_goesOn 122 = .ok (.ifCond .eq 8, 3) := dk_i kdX12_goesOn_89 15 rfl
def ldX12_goesOn_125 : List (Nat × ClassFile.Instr × Nat) := [(125, .bipush 31, 2), (127, .goto 47, 3), (130, .aload_n 0, 1), (131, .bipush 45, 2), (133, .invokevirtual 241, 3), (136, .ifCond .eq 8, 3), (139, .bipush 32, 2), (141, .goto 33, 3), (144, .aload_n 0, 1), (145, .bipush 42, 2), (147, .invokevirtual 241, 3), (150, .ifCond .eq 8, 3), (153, .bipush 33, 2), (155, .goto 19, 3), (158, .aload_n 0, 1), (159, .bipush 47, 2)]
theorem kdX12_goesOn_125 : dkO cX12_goesOn 125 ldX12_goesOn_125 = true := by decide +kernel
theorem dX12_goesOn_125 : decode cX12_goesOn 125 = .ok (.bipush 31, 2) := dk_i kdX12_goesOn_125 0 rfl
theorem dX12_goesOn_127 : decode cX12_goesOn 127 = .ok (.goto 47, 3) := dk_i kdX12_goesOn_125 1 rfl
theorem dX12_goesOn_130 : decode cX12_goesOn 130 = .ok (.aload_n 0, 1) := dk_i kdX12_goesOn_125 2 rfl
theorem dX12_goesOn_131 : decode cX12_goesOn 131 = .ok (.bipush 45, 2) := dk_i kdX12_goesOn_125 3 rfl
theorem dX12_goesOn_133 : decode cX12_goesOn 133 = .ok (.invokevirtual 241, 3) := dk_i kdX12_goesOn_125 4 rfl
theorem dX12_goesOn_136 : decode cX12_goesOn 136 = .ok (.ifCond .eq 8, 3) := dk_i kdX12_goesOn_125 5 rfl
theorem dX12_goesOn_139 : decode cX12_goesOn 139 = .ok (.bipush 32, 2) := dk_i kdX12_goesOn_125 6 rfl
theorem dX12_goesOn_141 : decode cX12_goesOn 141 = .ok (.goto 33, 3) := dk_i kdX12_goesOn_125 7 rfl
theorem dX12_goesOn_144 : decode cX12_goesOn 144 = .ok (.aload_n 0, 1) := dk_i kdX12_goesOn_125 8 rfl
theorem dX12_goesOn_145 : decode cX12_goesOn 145 = .ok (.bipush 42, 2) := dk_i kdX12_goesOn_125 9 rfl
theorem dX12_goesOn_147 : decode cX12_goesOn 147 = .ok (.invokevirtual 241, 3) := dk_i kdX12_goesOn_125 10 rfl
theorem dX12_goesOn_150 : decode cX12_goesOn 150 = .ok (.ifCond .eq 8, 3) := dk_i kdX12_goesOn_125 11 rfl
theorem dX12_goesOn_153 : decode cX12_goesOn 153 = .ok (.bipush 33, 2) := dk_i kdX12_goesOn_125 12 rfl
theorem dX12_goesOn_155 : decode cX12_goesOn 155 = .ok (.goto 19, 3) := dk_i kdX12_goesOn_125 13 rfl
theorem dX12_goesOn_158 : decode cX12_goesOn 158 = .ok (.aload_n 0, 1) := dk_i kdX12_goesOn_125 14 rfl
theorem dX12_goesOn_159 : decode cX12_goesOn 159 = .ok (.bipush 47, 2) := dk_i kdX12_goesOn_125 15 rfl
def ldX12_goesOn_161 : List (Nat × ClassFile.Instr × Nat) := [(161, .invokevirtual 241, 3), (164, .ifCond .eq 8, 3), (167, .bipush 34, 2), (169, .goto 5, 3), (172, .bipush 35, 2), (174, .invokevirtual 325, 3), (177, .aload_n 0, 1), (178, .invokevirtual 244, 3), (181, .aload_n 0, 1), (182, .iconst 0, 1), (183, .putfield 150, 3), (186, .iconst 1, 1), (187, .ireturn, 1), (188, .iload_n 3, 1), (189, .ifCond .eq 96, 3), (192, .aload_n 0, 1)]
theorem kdX12_goesOn_161 : dkO cX12_goesOn 161 ldX12_goesOn_161 = true := by decide +kernel
theorem dX12_goesOn_161 : decode cX12_goesOn 161 = .ok (.invokevirtual 241, 3) := dk_i kdX12_goesOn_161 0 rfl
theorem dX12_goesOn_164 : decode cX12_goesOn 164 = .ok (.ifCond .eq 8, 3) := dk_i kdX12_goesOn_161 1 rfl
theorem dX12_goesOn_167 : decode cX12_goesOn 167 = .ok (.bipush 34, 2) := dk_i kdX12_goesOn_161 2 rfl
theorem dX12_goesOn_169 : decode cX12_goesOn 169 = .ok (.goto 5, 3) := dk_i kdX12_goesOn_161 3 rfl
theorem dX12_goesOn_172 : decode cX12_goesOn 172 = .ok (.bipush 35, 2) := dk_i kdX12_goesOn_161 4 rfl
theorem dX12_goesOn_174 : decode cX12_goesOn 174 = .ok (.invokevirtual 325, 3) := dk_i kdX12_goesOn_161 5 rfl
theorem dX12_goesOn_177 : decode cX12_goesOn 177 = .ok (.aload_n 0, 1) := dk_i kdX12_goesOn_161 6 rfl
theorem dX12_goesOn_178 : decode cX12_goesOn 178 = .ok (.invokevirtual 244, 3) := dk_i kdX12_goesOn_161 7 rfl
theorem dX12_goesOn_181 : decode cX12_goesOn 181 = .ok (.aload_n 0, 1) := dk_i kdX12_goesOn_161 8 rfl
theorem dX12_goesOn_182 : decode cX12_goesOn 182 = .ok (.iconst 0, 1) := dk_i kdX12_goesOn_161 9 rfl
theorem dX12_goesOn_183 : decode cX12_goesOn 183 = .ok (.putfield 150, 3) := dk_i kdX12_goesOn_161 10 rfl
theorem dX12_goesOn_186 : decode cX12_goesOn 186 = .ok (.iconst 1, 1) := dk_i kdX12_goesOn_161 11 rfl
theorem dX12_goesOn_187 : decode cX12_goesOn 187 = .ok (.ireturn, 1) := dk_i kdX12_goesOn_161 12 rfl
theorem dX12_goesOn_188 : decode cX12_goesOn 188 = .ok (.iload_n 3, 1) := dk_i kdX12_goesOn_161 13 rfl
theorem dX12_goesOn_189 : decode cX12_goesOn 189 = .ok (.ifCond .eq 96, 3) := dk_i kdX12_goesOn_161 14 rfl
theorem dX12_goesOn_192 : decode cX12_goesOn 192 = .ok (.aload_n 0, 1) := dk_i kdX12_goesOn_161 15 rfl
def ldX12_goesOn_193 : List (Nat × ClassFile.Instr × Nat) := [(193, .getfield 125, 3), (196, .iload_n 1, 1), (197, .iaload, 1), (198, .ifCond .ne 87, 3), (201, .aload_n 0, 1), (202, .bipush 60, 2), (204, .invokevirtual 241, 3), (207, .ifCond .ne 21, 3), (210, .aload_n 0, 1), (211, .bipush 62, 2), (213, .invokevirtual 241, 3), (216, .ifCond .ne 12, 3), (219, .aload_n 0, 1), (220, .bipush 61, 2), (222, .invokevirtual 241, 3), (225, .ifCond .eq 60, 3)]
theorem kdX12_goesOn_193 : dkO cX12_goesOn 193 ldX12_goesOn_193 = true := by decide +kernel
theorem dX12_goesOn_193 : decode cX12_goesOn 193 = .ok (.getfield 125, 3) := dk_i kdX12_goesOn_193 0 rfl
theorem dX12_goesOn_196 : decode cX12_goesOn 196 = .ok (.iload_n 1, 1) := dk_i kdX12_goesOn_193 1 rfl
theorem dX12_goesOn_197 : decode cX12_goesOn 197 = .ok (.iaload, 1) := dk_i kdX12_goesOn_193 2 rfl
theorem dX12_goesOn_198 : decode cX12_goesOn 198 = .ok (.ifCond .ne 87, 3) := dk_i kdX12_goesOn_193 3 rfl
theorem dX12_goesOn_201 : decode cX12_goesOn 201 = .ok (.aload_n 0, 1) := dk_i kdX12_goesOn_193 4 rfl
theorem dX12_goesOn_202 : decode cX12_goesOn 202 = .ok (.bipush 60, 2) := dk_i kdX12_goesOn_193 5 rfl
theorem dX12_goesOn_204 : decode cX12_goesOn 204 = .ok (.invokevirtual 241, 3) := dk_i kdX12_goesOn_193 6 rfl
theorem dX12_goesOn_207 : decode cX12_goesOn 207 = .ok (.ifCond .ne 21, 3) := dk_i kdX12_goesOn_193 7 rfl
theorem dX12_goesOn_210 : decode cX12_goesOn 210 = .ok (.aload_n 0, 1) := dk_i kdX12_goesOn_193 8 rfl
theorem dX12_goesOn_211 : decode cX12_goesOn 211 = .ok (.bipush 62, 2) := dk_i kdX12_goesOn_193 9 rfl
theorem dX12_goesOn_213 : decode cX12_goesOn 213 = .ok (.invokevirtual 241, 3) := dk_i kdX12_goesOn_193 10 rfl
theorem dX12_goesOn_216 : decode cX12_goesOn 216 = .ok (.ifCond .ne 12, 3) := dk_i kdX12_goesOn_193 11 rfl
theorem dX12_goesOn_219 : decode cX12_goesOn 219 = .ok (.aload_n 0, 1) := dk_i kdX12_goesOn_193 12 rfl
theorem dX12_goesOn_220 : decode cX12_goesOn 220 = .ok (.bipush 61, 2) := dk_i kdX12_goesOn_193 13 rfl
theorem dX12_goesOn_222 : decode cX12_goesOn 222 = .ok (.invokevirtual 241, 3) := dk_i kdX12_goesOn_193 14 rfl
theorem dX12_goesOn_225 : decode cX12_goesOn 225 = .ok (.ifCond .eq 60, 3) := dk_i kdX12_goesOn_193 15 rfl
def ldX12_goesOn_228 : List (Nat × ClassFile.Instr × Nat) := [(228, .aload_n 0, 1), (229, .iconst 5, 1), (230, .invokevirtual 331, 3), (233, .aload_n 0, 1), (234, .aload_n 0, 1), (235, .bipush 60, 2), (237, .invokevirtual 241, 3), (240, .ifCond .eq 8, 3)]
theorem kdX12_goesOn_228 : dkO cX12_goesOn 228 ldX12_goesOn_228 = true := by decide +kernel
theorem dX12_goesOn_228 : decode cX12_goesOn 228 = .ok (.aload_n 0, 1) := dk_i kdX12_goesOn_228 0 rfl
theorem dX12_goesOn_229 : decode cX12_goesOn 229 = .ok (.iconst 5, 1) := dk_i kdX12_goesOn_228 1 rfl
theorem dX12_goesOn_230 : decode cX12_goesOn 230 = .ok (.invokevirtual 331, 3) := dk_i kdX12_goesOn_228 2 rfl
theorem dX12_goesOn_233 : decode cX12_goesOn 233 = .ok (.aload_n 0, 1) := dk_i kdX12_goesOn_228 3 rfl
theorem dX12_goesOn_234 : decode cX12_goesOn 234 = .ok (.aload_n 0, 1) := dk_i kdX12_goesOn_228 4 rfl
theorem dX12_goesOn_235 : decode cX12_goesOn 235 = .ok (.bipush 60, 2) := dk_i kdX12_goesOn_228 5 rfl
theorem dX12_goesOn_237 : decode cX12_goesOn 237 = .ok (.invokevirtual 241, 3) := dk_i kdX12_goesOn_228 6 rfl
theorem dX12_goesOn_240 : decode cX12_goesOn 240 = .ok (.ifCond .eq 8, 3) := dk_i kdX12_goesOn_228 7 rfl
