section
def ldX1_init_0 : List (Nat × ClassFile.Instr × Nat) := [(0, .aload_n 0, 1), (1, .invokespecial 3, 3), (4, .aload_n 0, 1), (5, .iconst 0, 1), (6, .putfield 9, 3), (9, .aload_n 0, 1), (10, .iconst (-1), 1), (11, .putfield 15, 3), (14, .aload_n 0, 1), (15, .iconst 0, 1), (16, .putfield 18, 3), (19, .aload_n 0, 1), (20, .iconst 0, 1), (21, .putfield 21, 3), (24, .aload_n 0, 1), (25, .bipush 6, 2)]
theorem kdX1_init_0 : dkO cX1_init 0 ldX1_init_0 = true := by decide +kernel
theorem dX1_init_0 : decode cX1_init 0 = .ok (.aload_n 0, 1) := dk_i kdX1_init_0 0 rfl
theorem dX1_init_1 : decode cX1_init 1 = .ok (.invokespecial 3, 3) := dk_i kdX1_init_0 1 rfl
theorem dX1_init_4 : decode cX1_init 4 = .ok (.aload_n 0, 1) := dk_i kdX1_init_0 2 rfl
theorem dX1_init_5 : decode cX1_init 5 = .ok (.iconst 0, 1) := dk_i kdX1_init_0 3 rfl
theorem dX1_init_6 : decode cX1_init 6 = .ok (.putfield 9, 3) := dk_i kdX1_init_0 4 rfl
theorem dX1_init_9 : decode cX1_init 9 = .ok (.aload_n 0, 1) := dk_i kdX1_init_0 5 rfl
theorem dX1_init_10 : decode cX1_init 10 = .ok (.iconst (-1), 1) := dk_i kdX1_init_0 6 rfl
theorem dX1_init_11 : decode cX1_init 11 = .ok (.putfield 15, 3) := dk_i kdX1_init_0 7 rfl
theorem dX1_init_14 : decode cX1_init 14 = .ok (.aload_n 0, 1) := dk_i kdX1_init_0 8 rfl
theorem dX1_init_15 : decode cX1_init 15 = .ok (.iconst 0, 1) := dk_i kdX1_init_0 9 rfl
theorem dX1_init_16 : decode cX1_init 16 = .ok (.putfield 18, 3) := dk_i kdX1_init_0 10 rfl
theorem dX1_init_19 : decode cX1_init 19 = .ok (.aload_n 0, 1) := dk_i kdX1_init_0 11 rfl
theorem dX1_init_20 : decode cX1_init 20 = .ok (.iconst 0, 1) := dk_i kdX1_init_0 12 rfl
theorem dX1_init_21 : decode cX1_init 21 = .ok (.putfield 21, 3) := dk_i kdX1_init_0 13 rfl
theorem dX1_init_24 : decode cX1_init 24 = .ok (.aload_n 0, 1) := dk_i kdX1_init_0 14 rfl
theorem dX1_init_25 : decode cX1_init 25 = .ok (.bipush 6, 2) := dk_i kdX1_init_0 15 rfl
def ldX1_init_27 : List (Nat × ClassFile.Instr × Nat) := [(27, .newarray .int, 2), (29, .putfield 24, 3), (32, .aload_n 0, 1), (33, .bipush 64, 2), (35, .newarray .int, 2), (37, .putfield 28, 3), (40, .aload_n 0, 1), (41, .iconst 0, 1), (42, .putfield 31, 3), (45, .aload_n 0, 1), (46, .aload_n 1, 1), (47, .putfield 34, 3), (50, .return_, 1)]
theorem kdX1_init_27 : dkO cX1_init 27 ldX1_init_27 = true := by decide +kernel
theorem dX1_init_27 : decode cX1_init 27 = .ok (.newarray .int, 2) := dk_i kdX1_init_27 0 rfl
theorem dX1_init_29 : decode cX1_init 29 = .ok (.putfield 24, 3) := dk_i kdX1_init_27 1 rfl
theorem dX1_init_32 : decode cX1_init 32 = .ok (.aload_n 0, 1) := dk_i kdX1_init_27 2 rfl
theorem dX1_init_33 : decode cX1_init 33 = .ok (.bipush 64, 2) := dk_i kdX1_init_27 3 rfl
theorem dX1_init_35 : decode cX1_init 35 = .ok (.newarray .int, 2) := dk_i kdX1_init_27 4 rfl
theorem dX1_init_37 : decode cX1_init 37 = .ok (.putfield 28, 3) := dk_i kdX1_init_27 5 rfl
theorem dX1_init_40 : decode cX1_init 40 = .ok (.aload_n 0, 1) := dk_i kdX1_init_27 6 rfl
theorem dX1_init_41 : decode cX1_init 41 = .ok (.iconst 0, 1) := dk_i kdX1_init_27 7 rfl
theorem dX1_init_42 : decode cX1_init 42 = .ok (.putfield 31, 3) := dk_i kdX1_init_27 8 rfl
theorem dX1_init_45 : decode cX1_init 45 = .ok (.aload_n 0, 1) := dk_i kdX1_init_27 9 rfl
theorem dX1_init_46 : decode cX1_init 46 = .ok (.aload_n 1, 1) := dk_i kdX1_init_27 10 rfl
theorem dX1_init_47 : decode cX1_init 47 = .ok (.putfield 34, 3) := dk_i kdX1_init_27 11 rfl
theorem dX1_init_50 : decode cX1_init 50 = .ok (.return_, 1) := dk_i kdX1_init_27 12 rfl
def ldX1_hold_0 : List (Nat × ClassFile.Instr × Nat) := [(0, .aload_n 0, 1), (1, .iload_n 1, 1), (2, .putfield 9, 3), (5, .aload_n 0, 1), (6, .iload_n 2, 1), (7, .putfield 15, 3), (10, .aload_n 0, 1), (11, .iload_n 3, 1), (12, .putfield 18, 3), (15, .aload_n 0, 1), (16, .iload 4, 2), (18, .putfield 21, 3), (21, .return_, 1)]
theorem kdX1_hold_0 : dkO cX1_hold 0 ldX1_hold_0 = true := by decide +kernel
theorem dX1_hold_0 : decode cX1_hold 0 = .ok (.aload_n 0, 1) := dk_i kdX1_hold_0 0 rfl
theorem dX1_hold_1 : decode cX1_hold 1 = .ok (.iload_n 1, 1) := dk_i kdX1_hold_0 1 rfl
theorem dX1_hold_2 : decode cX1_hold 2 = .ok (.putfield 9, 3) := dk_i kdX1_hold_0 2 rfl
theorem dX1_hold_5 : decode cX1_hold 5 = .ok (.aload_n 0, 1) := dk_i kdX1_hold_0 3 rfl
theorem dX1_hold_6 : decode cX1_hold 6 = .ok (.iload_n 2, 1) := dk_i kdX1_hold_0 4 rfl
theorem dX1_hold_7 : decode cX1_hold 7 = .ok (.putfield 15, 3) := dk_i kdX1_hold_0 5 rfl
theorem dX1_hold_10 : decode cX1_hold 10 = .ok (.aload_n 0, 1) := dk_i kdX1_hold_0 6 rfl
theorem dX1_hold_11 : decode cX1_hold 11 = .ok (.iload_n 3, 1) := dk_i kdX1_hold_0 7 rfl
theorem dX1_hold_12 : decode cX1_hold 12 = .ok (.putfield 18, 3) := dk_i kdX1_hold_0 8 rfl
theorem dX1_hold_15 : decode cX1_hold 15 = .ok (.aload_n 0, 1) := dk_i kdX1_hold_0 9 rfl
theorem dX1_hold_16 : decode cX1_hold 16 = .ok (.iload 4, 2) := dk_i kdX1_hold_0 10 rfl
theorem dX1_hold_18 : decode cX1_hold 18 = .ok (.putfield 21, 3) := dk_i kdX1_hold_0 11 rfl
theorem dX1_hold_21 : decode cX1_hold 21 = .ok (.return_, 1) := dk_i kdX1_hold_0 12 rfl
def ldX1_hourNow_0 : List (Nat × ClassFile.Instr × Nat) := [(0, .iconst 0, 1), (1, .istore_n 1, 1), (2, .aload_n 0, 1), (3, .getfield 34, 3), (6, .getfield 38, 3), (9, .invokevirtual 44, 3), (12, .ifCond .eq 18, 3), (15, .aload_n 0, 1), (16, .aload_n 0, 1), (17, .getfield 34, 3), (20, .getfield 38, 3), (23, .invokevirtual 50, 3), (26, .istore_n 1, 1), (27, .goto 30, 3), (30, .aload_n 0, 1), (31, .getfield 34, 3)]
theorem kdX1_hourNow_0 : dkO cX1_hourNow 0 ldX1_hourNow_0 = true := by decide +kernel
theorem dX1_hourNow_0 : decode cX1_hourNow 0 = .ok (.iconst 0, 1) := dk_i kdX1_hourNow_0 0 rfl
theorem dX1_hourNow_1 : decode cX1_hourNow 1 = .ok (.istore_n 1, 1) := dk_i kdX1_hourNow_0 1 rfl
theorem dX1_hourNow_2 : decode cX1_hourNow 2 = .ok (.aload_n 0, 1) := dk_i kdX1_hourNow_0 2 rfl
theorem dX1_hourNow_3 : decode cX1_hourNow 3 = .ok (.getfield 34, 3) := dk_i kdX1_hourNow_0 3 rfl
theorem dX1_hourNow_6 : decode cX1_hourNow 6 = .ok (.getfield 38, 3) := dk_i kdX1_hourNow_0 4 rfl
theorem dX1_hourNow_9 : decode cX1_hourNow 9 = .ok (.invokevirtual 44, 3) := dk_i kdX1_hourNow_0 5 rfl
theorem dX1_hourNow_12 : decode cX1_hourNow 12 = .ok (.ifCond .eq 18, 3) := dk_i kdX1_hourNow_0 6 rfl
theorem dX1_hourNow_15 : decode cX1_hourNow 15 = .ok (.aload_n 0, 1) := dk_i kdX1_hourNow_0 7 rfl
theorem dX1_hourNow_16 : decode cX1_hourNow 16 = .ok (.aload_n 0, 1) := dk_i kdX1_hourNow_0 8 rfl
theorem dX1_hourNow_17 : decode cX1_hourNow 17 = .ok (.getfield 34, 3) := dk_i kdX1_hourNow_0 9 rfl
theorem dX1_hourNow_20 : decode cX1_hourNow 20 = .ok (.getfield 38, 3) := dk_i kdX1_hourNow_0 10 rfl
theorem dX1_hourNow_23 : decode cX1_hourNow 23 = .ok (.invokevirtual 50, 3) := dk_i kdX1_hourNow_0 11 rfl
theorem dX1_hourNow_26 : decode cX1_hourNow 26 = .ok (.istore_n 1, 1) := dk_i kdX1_hourNow_0 12 rfl
theorem dX1_hourNow_27 : decode cX1_hourNow 27 = .ok (.goto 30, 3) := dk_i kdX1_hourNow_0 13 rfl
theorem dX1_hourNow_30 : decode cX1_hourNow 30 = .ok (.aload_n 0, 1) := dk_i kdX1_hourNow_0 14 rfl
theorem dX1_hourNow_31 : decode cX1_hourNow 31 = .ok (.getfield 34, 3) := dk_i kdX1_hourNow_0 15 rfl
def ldX1_hourNow_34 : List (Nat × ClassFile.Instr × Nat) := [(34, .aload_n 0, 1), (35, .getfield 15, 3), (38, .invokevirtual 54, 3), (41, .ifCond .eq 16, 3), (44, .aload_n 0, 1), (45, .getfield 34, 3), (48, .getfield 58, 3), (51, .aload_n 0, 1), (52, .getfield 15, 3), (55, .iaload, 1), (56, .istore_n 1, 1), (57, .iconst 0, 1), (58, .bipush 23, 2), (60, .iload_n 1, 1), (61, .invokestatic 61, 3), (64, .invokestatic 67, 3)]
theorem kdX1_hourNow_34 : dkO cX1_hourNow 34 ldX1_hourNow_34 = true := by decide +kernel
theorem dX1_hourNow_34 : decode cX1_hourNow 34 = .ok (.aload_n 0, 1) := dk_i kdX1_hourNow_34 0 rfl
theorem dX1_hourNow_35 : decode cX1_hourNow 35 = .ok (.getfield 15, 3) := dk_i kdX1_hourNow_34 1 rfl
theorem dX1_hourNow_38 : decode cX1_hourNow 38 = .ok (.invokevirtual 54, 3) := dk_i kdX1_hourNow_34 2 rfl
theorem dX1_hourNow_41 : decode cX1_hourNow 41 = .ok (.ifCond .eq 16, 3) := dk_i kdX1_hourNow_34 3 rfl
theorem dX1_hourNow_44 : decode cX1_hourNow 44 = .ok (.aload_n 0, 1) := dk_i kdX1_hourNow_34 4 rfl
theorem dX1_hourNow_45 : decode cX1_hourNow 45 = .ok (.getfield 34, 3) := dk_i kdX1_hourNow_34 5 rfl
theorem dX1_hourNow_48 : decode cX1_hourNow 48 = .ok (.getfield 58, 3) := dk_i kdX1_hourNow_34 6 rfl
theorem dX1_hourNow_51 : decode cX1_hourNow 51 = .ok (.aload_n 0, 1) := dk_i kdX1_hourNow_34 7 rfl
theorem dX1_hourNow_52 : decode cX1_hourNow 52 = .ok (.getfield 15, 3) := dk_i kdX1_hourNow_34 8 rfl
theorem dX1_hourNow_55 : decode cX1_hourNow 55 = .ok (.iaload, 1) := dk_i kdX1_hourNow_34 9 rfl
theorem dX1_hourNow_56 : decode cX1_hourNow 56 = .ok (.istore_n 1, 1) := dk_i kdX1_hourNow_34 10 rfl
theorem dX1_hourNow_57 : decode cX1_hourNow 57 = .ok (.iconst 0, 1) := dk_i kdX1_hourNow_34 11 rfl
theorem dX1_hourNow_58 : decode cX1_hourNow 58 = .ok (.bipush 23, 2) := dk_i kdX1_hourNow_34 12 rfl
theorem dX1_hourNow_60 : decode cX1_hourNow 60 = .ok (.iload_n 1, 1) := dk_i kdX1_hourNow_34 13 rfl
theorem dX1_hourNow_61 : decode cX1_hourNow 61 = .ok (.invokestatic 61, 3) := dk_i kdX1_hourNow_34 14 rfl
theorem dX1_hourNow_64 : decode cX1_hourNow 64 = .ok (.invokestatic 67, 3) := dk_i kdX1_hourNow_34 15 rfl
def ldX1_hourNow_67 : List (Nat × ClassFile.Instr × Nat) := [(67, .ireturn, 1)]
theorem kdX1_hourNow_67 : dkO cX1_hourNow 67 ldX1_hourNow_67 = true := by decide +kernel
theorem dX1_hourNow_67 : decode cX1_hourNow 67 = .ok (.ireturn, 1) := dk_i kdX1_hourNow_67 0 rfl
def ldX1_goOn_0 : List (Nat × ClassFile.Instr × Nat) := [(0, .aload_n 0, 1), (1, .sipush 9999, 3), (4, .aload_n 0, 1), (5, .getfield 21, 3), (8, .iconst 1, 1), (9, .iadd, 1), (10, .invokestatic 61, 3), (13, .putfield 21, 3), (16, .aload_n 0, 1), (17, .sipush 999, 3), (20, .aload_n 0, 1), (21, .getfield 18, 3), (24, .iconst 1, 1), (25, .iadd, 1), (26, .invokestatic 61, 3), (29, .putfield 18, 3)]
theorem kdX1_goOn_0 : dkO cX1_goOn 0 ldX1_goOn_0 = true := by decide +kernel
theorem dX1_goOn_0 : decode cX1_goOn 0 = .ok (.aload_n 0, 1) := dk_i kdX1_goOn_0 0 rfl
theorem dX1_goOn_1 : decode cX1_goOn 1 = .ok (.sipush 9999, 3) := dk_i kdX1_goOn_0 1 rfl
theorem dX1_goOn_4 : decode cX1_goOn 4 = .ok (.aload_n 0, 1) := dk_i kdX1_goOn_0 2 rfl
theorem dX1_goOn_5 : decode cX1_goOn 5 = .ok (.getfield 21, 3) := dk_i kdX1_goOn_0 3 rfl
theorem dX1_goOn_8 : decode cX1_goOn 8 = .ok (.iconst 1, 1) := dk_i kdX1_goOn_0 4 rfl
theorem dX1_goOn_9 : decode cX1_goOn 9 = .ok (.iadd, 1) := dk_i kdX1_goOn_0 5 rfl
theorem dX1_goOn_10 : decode cX1_goOn 10 = .ok (.invokestatic 61, 3) := dk_i kdX1_goOn_0 6 rfl
theorem dX1_goOn_13 : decode cX1_goOn 13 = .ok (.putfield 21, 3) := dk_i kdX1_goOn_0 7 rfl
theorem dX1_goOn_16 : decode cX1_goOn 16 = .ok (.aload_n 0, 1) := dk_i kdX1_goOn_0 8 rfl
theorem dX1_goOn_17 : decode cX1_goOn 17 = .ok (.sipush 999, 3) := dk_i kdX1_goOn_0 9 rfl
theorem dX1_goOn_20 : decode cX1_goOn 20 = .ok (.aload_n 0, 1) := dk_i kdX1_goOn_0 10 rfl
theorem dX1_goOn_21 : decode cX1_goOn 21 = .ok (.getfield 18, 3) := dk_i kdX1_goOn_0 11 rfl
theorem dX1_goOn_24 : decode cX1_goOn 24 = .ok (.iconst 1, 1) := dk_i kdX1_goOn_0 12 rfl
theorem dX1_goOn_25 : decode cX1_goOn 25 = .ok (.iadd, 1) := dk_i kdX1_goOn_0 13 rfl
theorem dX1_goOn_26 : decode cX1_goOn 26 = .ok (.invokestatic 61, 3) := dk_i kdX1_goOn_0 14 rfl
theorem dX1_goOn_29 : decode cX1_goOn 29 = .ok (.putfield 18, 3) := dk_i kdX1_goOn_0 15 rfl
def ldX1_goOn_32 : List (Nat × ClassFile.Instr × Nat) := [(32, .aload_n 0, 1), (33, .getfield 34, 3), (36, .aload_n 0, 1), (37, .getfield 15, 3), (40, .invokevirtual 54, 3), (43, .ifCond .ne 4, 3), (46, .return_, 1), (47, .aload_n 0, 1), (48, .getfield 34, 3), (51, .getfield 70, 3), (54, .invokevirtual 44, 3), (57, .ifCond .eq 25, 3), (60, .aload_n 0, 1), (61, .aload_n 0, 1), (62, .getfield 34, 3), (65, .getfield 70, 3)]
theorem kdX1_goOn_32 : dkO cX1_goOn 32 ldX1_goOn_32 = true := by decide +kernel
theorem dX1_goOn_32 : decode cX1_goOn 32 = .ok (.aload_n 0, 1) := dk_i kdX1_goOn_32 0 rfl
theorem dX1_goOn_33 : decode cX1_goOn 33 = .ok (.getfield 34, 3) := dk_i kdX1_goOn_32 1 rfl
theorem dX1_goOn_36 : decode cX1_goOn 36 = .ok (.aload_n 0, 1) := dk_i kdX1_goOn_32 2 rfl
theorem dX1_goOn_37 : decode cX1_goOn 37 = .ok (.getfield 15, 3) := dk_i kdX1_goOn_32 3 rfl
theorem dX1_goOn_40 : decode cX1_goOn 40 = .ok (.invokevirtual 54, 3) := dk_i kdX1_goOn_32 4 rfl
theorem dX1_goOn_43 : decode cX1_goOn 43 = .ok (.ifCond .ne 4, 3) := dk_i kdX1_goOn_32 5 rfl
theorem dX1_goOn_46 : decode cX1_goOn 46 = .ok (.return_, 1) := dk_i kdX1_goOn_32 6 rfl
theorem dX1_goOn_47 : decode cX1_goOn 47 = .ok (.aload_n 0, 1) := dk_i kdX1_goOn_32 7 rfl
theorem dX1_goOn_48 : decode cX1_goOn 48 = .ok (.getfield 34, 3) := dk_i kdX1_goOn_32 8 rfl
theorem dX1_goOn_51 : decode cX1_goOn 51 = .ok (.getfield 70, 3) := dk_i kdX1_goOn_32 9 rfl
theorem dX1_goOn_54 : decode cX1_goOn 54 = .ok (.invokevirtual 44, 3) := dk_i kdX1_goOn_32 10 rfl
theorem dX1_goOn_57 : decode cX1_goOn 57 = .ok (.ifCond .eq 25, 3) := dk_i kdX1_goOn_32 11 rfl
theorem dX1_goOn_60 : decode cX1_goOn 60 = .ok (.aload_n 0, 1) := dk_i kdX1_goOn_32 12 rfl
theorem dX1_goOn_61 : decode cX1_goOn 61 = .ok (.aload_n 0, 1) := dk_i kdX1_goOn_32 13 rfl
theorem dX1_goOn_62 : decode cX1_goOn 62 = .ok (.getfield 34, 3) := dk_i kdX1_goOn_32 14 rfl
theorem dX1_goOn_65 : decode cX1_goOn 65 = .ok (.getfield 70, 3) := dk_i kdX1_goOn_32 15 rfl
def ldX1_goOn_68 : List (Nat × ClassFile.Instr × Nat) := [(68, .invokevirtual 50, 3), (71, .ifCond .eq 7, 3), (74, .iconst 1, 1), (75, .goto 31, 3), (78, .iconst 0, 1), (79, .goto 27, 3), (82, .aload_n 0, 1), (83, .getfield 18, 3), (86, .aload_n 0, 1), (87, .getfield 34, 3), (90, .getfield 73, 3), (93, .aload_n 0, 1), (94, .getfield 15, 3), (97, .iaload, 1), (98, .if_icmp .lt 7, 3), (101, .iconst 1, 1)]
theorem kdX1_goOn_68 : dkO cX1_goOn 68 ldX1_goOn_68 = true := by decide +kernel
theorem dX1_goOn_68 : decode cX1_goOn 68 = .ok (.invokevirtual 50, 3) := dk_i kdX1_goOn_68 0 rfl
theorem dX1_goOn_71 : decode cX1_goOn 71 = .ok (.ifCond .eq 7, 3) := dk_i kdX1_goOn_68 1 rfl
theorem dX1_goOn_74 : decode cX1_goOn 74 = .ok (.iconst 1, 1) := dk_i kdX1_goOn_68 2 rfl
theorem dX1_goOn_75 : decode cX1_goOn 75 = .ok (.goto 31, 3) := dk_i kdX1_goOn_68 3 rfl
theorem dX1_goOn_78 : decode cX1_goOn 78 = .ok (.iconst 0, 1) := dk_i kdX1_goOn_68 4 rfl
theorem dX1_goOn_79 : decode cX1_goOn 79 = .ok (.goto 27, 3) := dk_i kdX1_goOn_68 5 rfl
theorem dX1_goOn_82 : decode cX1_goOn 82 = .ok (.aload_n 0, 1) := dk_i kdX1_goOn_68 6 rfl
theorem dX1_goOn_83 : decode cX1_goOn 83 = .ok (.getfield 18, 3) := dk_i kdX1_goOn_68 7 rfl
theorem dX1_goOn_86 : decode cX1_goOn 86 = .ok (.aload_n 0, 1) := dk_i kdX1_goOn_68 8 rfl
theorem dX1_goOn_87 : decode cX1_goOn 87 = .ok (.getfield 34, 3) := dk_i kdX1_goOn_68 9 rfl
theorem dX1_goOn_90 : decode cX1_goOn 90 = .ok (.getfield 73, 3) := dk_i kdX1_goOn_68 10 rfl
theorem dX1_goOn_93 : decode cX1_goOn 93 = .ok (.aload_n 0, 1) := dk_i kdX1_goOn_68 11 rfl
theorem dX1_goOn_94 : decode cX1_goOn 94 = .ok (.getfield 15, 3) := dk_i kdX1_goOn_68 12 rfl
theorem dX1_goOn_97 : decode cX1_goOn 97 = .ok (.iaload, 1) := dk_i kdX1_goOn_68 13 rfl
theorem dX1_goOn_98 : decode cX1_goOn 98 = .ok (.if_icmp .lt 7, 3) := dk_i kdX1_goOn_68 14 rfl
theorem dX1_goOn_101 : decode cX1_goOn 101 = .ok (.iconst 1, 1) := dk_i kdX1_goOn_68 15 rfl
def ldX1_goOn_102 : List (Nat × ClassFile.Instr × Nat) := [(102, .goto 4, 3), (105, .iconst 0, 1), (106, .istore_n 1, 1), (107, .iload_n 1, 1), (108, .ifCond .eq 13, 3), (111, .aload_n 0, 1), (112, .iconst (-1), 1), (113, .putfield 15, 3), (116, .aload_n 0, 1), (117, .iconst 0, 1), (118, .putfield 18, 3), (121, .return_, 1)]
theorem kdX1_goOn_102 : dkO cX1_goOn 102 ldX1_goOn_102 = true := by decide +kernel
theorem dX1_goOn_102 : decode cX1_goOn 102 = .ok (.goto 4, 3) := dk_i kdX1_goOn_102 0 rfl
theorem dX1_goOn_105 : decode cX1_goOn 105 = .ok (.iconst 0, 1) := dk_i kdX1_goOn_102 1 rfl
theorem dX1_goOn_106 : decode cX1_goOn 106 = .ok (.istore_n 1, 1) := dk_i kdX1_goOn_102 2 rfl
theorem dX1_goOn_107 : decode cX1_goOn 107 = .ok (.iload_n 1, 1) := dk_i kdX1_goOn_102 3 rfl
theorem dX1_goOn_108 : decode cX1_goOn 108 = .ok (.ifCond .eq 13, 3) := dk_i kdX1_goOn_102 4 rfl
theorem dX1_goOn_111 : decode cX1_goOn 111 = .ok (.aload_n 0, 1) := dk_i kdX1_goOn_102 5 rfl
theorem dX1_goOn_112 : decode cX1_goOn 112 = .ok (.iconst (-1), 1) := dk_i kdX1_goOn_102 6 rfl
theorem dX1_goOn_113 : decode cX1_goOn 113 = .ok (.putfield 15, 3) := dk_i kdX1_goOn_102 7 rfl
theorem dX1_goOn_116 : decode cX1_goOn 116 = .ok (.aload_n 0, 1) := dk_i kdX1_goOn_102 8 rfl
theorem dX1_goOn_117 : decode cX1_goOn 117 = .ok (.iconst 0, 1) := dk_i kdX1_goOn_102 9 rfl
theorem dX1_goOn_118 : decode cX1_goOn 118 = .ok (.putfield 18, 3) := dk_i kdX1_goOn_102 10 rfl
theorem dX1_goOn_121 : decode cX1_goOn 121 = .ok (.return_, 1) := dk_i kdX1_goOn_102 11 rfl
def ldX1_foresee_0 : List (Nat × ClassFile.Instr × Nat) := [(0, .iload_n 2, 1), (1, .aload_n 1, 1), (2, .arraylength, 1), (3, .iconst 1, 1), (4, .isub, 1), (5, .invokestatic 61, 3), (8, .sipush 9999, 3), (11, .aload_n 0, 1), (12, .getfield 21, 3), (15, .isub, 1), (16, .invokestatic 61, 3), (19, .istore_n 3, 1), (20, .iconst 0, 1), (21, .istore 4, 2), (23, .iload 4, 2), (25, .iload_n 3, 1)]
theorem kdX1_foresee_0 : dkO cX1_foresee 0 ldX1_foresee_0 = true := by decide +kernel
theorem dX1_foresee_0 : decode cX1_foresee 0 = .ok (.iload_n 2, 1) := dk_i kdX1_foresee_0 0 rfl
theorem dX1_foresee_1 : decode cX1_foresee 1 = .ok (.aload_n 1, 1) := dk_i kdX1_foresee_0 1 rfl
theorem dX1_foresee_2 : decode cX1_foresee 2 = .ok (.arraylength, 1) := dk_i kdX1_foresee_0 2 rfl
theorem dX1_foresee_3 : decode cX1_foresee 3 = .ok (.iconst 1, 1) := dk_i kdX1_foresee_0 3 rfl
theorem dX1_foresee_4 : decode cX1_foresee 4 = .ok (.isub, 1) := dk_i kdX1_foresee_0 4 rfl
theorem dX1_foresee_5 : decode cX1_foresee 5 = .ok (.invokestatic 61, 3) := dk_i kdX1_foresee_0 5 rfl
theorem dX1_foresee_8 : decode cX1_foresee 8 = .ok (.sipush 9999, 3) := dk_i kdX1_foresee_0 6 rfl
theorem dX1_foresee_11 : decode cX1_foresee 11 = .ok (.aload_n 0, 1) := dk_i kdX1_foresee_0 7 rfl
theorem dX1_foresee_12 : decode cX1_foresee 12 = .ok (.getfield 21, 3) := dk_i kdX1_foresee_0 8 rfl
theorem dX1_foresee_15 : decode cX1_foresee 15 = .ok (.isub, 1) := dk_i kdX1_foresee_0 9 rfl
theorem dX1_foresee_16 : decode cX1_foresee 16 = .ok (.invokestatic 61, 3) := dk_i kdX1_foresee_0 10 rfl
theorem dX1_foresee_19 : decode cX1_foresee 19 = .ok (.istore_n 3, 1) := dk_i kdX1_foresee_0 11 rfl
theorem dX1_foresee_20 : decode cX1_foresee 20 = .ok (.iconst 0, 1) := dk_i kdX1_foresee_0 12 rfl
theorem dX1_foresee_21 : decode cX1_foresee 21 = .ok (.istore 4, 2) := dk_i kdX1_foresee_0 13 rfl
theorem dX1_foresee_23 : decode cX1_foresee 23 = .ok (.iload 4, 2) := dk_i kdX1_foresee_0 14 rfl
theorem dX1_foresee_25 : decode cX1_foresee 25 = .ok (.iload_n 3, 1) := dk_i kdX1_foresee_0 15 rfl
def ldX1_foresee_26 : List (Nat × ClassFile.Instr × Nat) := [(26, .if_icmp .gt 26, 3), (29, .iload 4, 2), (31, .ifCond .le 7, 3), (34, .aload_n 0, 1), (35, .invokevirtual 76, 3), (38, .aload_n 1, 1), (39, .iload 4, 2), (41, .aload_n 0, 1), (42, .invokevirtual 79, 3), (45, .iastore, 1), (46, .iinc 4 1, 3), (49, .goto (-26), 3), (52, .iload_n 3, 1), (53, .ireturn, 1)]
theorem kdX1_foresee_26 : dkO cX1_foresee 26 ldX1_foresee_26 = true := by decide +kernel
theorem dX1_foresee_26 : decode cX1_foresee 26 = .ok (.if_icmp .gt 26, 3) := dk_i kdX1_foresee_26 0 rfl
theorem dX1_foresee_29 : decode cX1_foresee 29 = .ok (.iload 4, 2) := dk_i kdX1_foresee_26 1 rfl
theorem dX1_foresee_31 : decode cX1_foresee 31 = .ok (.ifCond .le 7, 3) := dk_i kdX1_foresee_26 2 rfl
theorem dX1_foresee_34 : decode cX1_foresee 34 = .ok (.aload_n 0, 1) := dk_i kdX1_foresee_26 3 rfl
theorem dX1_foresee_35 : decode cX1_foresee 35 = .ok (.invokevirtual 76, 3) := dk_i kdX1_foresee_26 4 rfl
theorem dX1_foresee_38 : decode cX1_foresee 38 = .ok (.aload_n 1, 1) := dk_i kdX1_foresee_26 5 rfl
theorem dX1_foresee_39 : decode cX1_foresee 39 = .ok (.iload 4, 2) := dk_i kdX1_foresee_26 6 rfl
theorem dX1_foresee_41 : decode cX1_foresee 41 = .ok (.aload_n 0, 1) := dk_i kdX1_foresee_26 7 rfl
theorem dX1_foresee_42 : decode cX1_foresee 42 = .ok (.invokevirtual 79, 3) := dk_i kdX1_foresee_26 8 rfl
theorem dX1_foresee_45 : decode cX1_foresee 45 = .ok (.iastore, 1) := dk_i kdX1_foresee_26 9 rfl
theorem dX1_foresee_46 : decode cX1_foresee 46 = .ok (.iinc 4 1, 3) := dk_i kdX1_foresee_26 10 rfl
theorem dX1_foresee_49 : decode cX1_foresee 49 = .ok (.goto (-26), 3) := dk_i kdX1_foresee_26 11 rfl
theorem dX1_foresee_52 : decode cX1_foresee 52 = .ok (.iload_n 3, 1) := dk_i kdX1_foresee_26 12 rfl
theorem dX1_foresee_53 : decode cX1_foresee 53 = .ok (.ireturn, 1) := dk_i kdX1_foresee_26 13 rfl
def ldX1_valueOf_0 : List (Nat × ClassFile.Instr × Nat) := [(0, .aload_n 0, 1), (1, .getfield 34, 3), (4, .aload_n 0, 1), (5, .getfield 15, 3), (8, .invokevirtual 54, 3), (11, .ifCond .ne 7, 3), (14, .iconst 1, 1), (15, .goto 4, 3), (18, .iconst 0, 1), (19, .istore_n 2, 1), (20, .aload_n 0, 1), (21, .getfield 24, 3), (24, .iconst 0, 1), (25, .iload_n 2, 1), (26, .ifCond .eq 7, 3), (29, .iconst 0, 1)]
theorem kdX1_valueOf_0 : dkO cX1_valueOf 0 ldX1_valueOf_0 = true := by decide +kernel
theorem dX1_valueOf_0 : decode cX1_valueOf 0 = .ok (.aload_n 0, 1) := dk_i kdX1_valueOf_0 0 rfl
theorem dX1_valueOf_1 : decode cX1_valueOf 1 = .ok (.getfield 34, 3) := dk_i kdX1_valueOf_0 1 rfl
theorem dX1_valueOf_4 : decode cX1_valueOf 4 = .ok (.aload_n 0, 1) := dk_i kdX1_valueOf_0 2 rfl
theorem dX1_valueOf_5 : decode cX1_valueOf 5 = .ok (.getfield 15, 3) := dk_i kdX1_valueOf_0 3 rfl
theorem dX1_valueOf_8 : decode cX1_valueOf 8 = .ok (.invokevirtual 54, 3) := dk_i kdX1_valueOf_0 4 rfl
theorem dX1_valueOf_11 : decode cX1_valueOf 11 = .ok (.ifCond .ne 7, 3) := dk_i kdX1_valueOf_0 5 rfl
theorem dX1_valueOf_14 : decode cX1_valueOf 14 = .ok (.iconst 1, 1) := dk_i kdX1_valueOf_0 6 rfl
theorem dX1_valueOf_15 : decode cX1_valueOf 15 = .ok (.goto 4, 3) := dk_i kdX1_valueOf_0 7 rfl
theorem dX1_valueOf_18 : decode cX1_valueOf 18 = .ok (.iconst 0, 1) := dk_i kdX1_valueOf_0 8 rfl
theorem dX1_valueOf_19 : decode cX1_valueOf 19 = .ok (.istore_n 2, 1) := dk_i kdX1_valueOf_0 9 rfl
theorem dX1_valueOf_20 : decode cX1_valueOf 20 = .ok (.aload_n 0, 1) := dk_i kdX1_valueOf_0 10 rfl
theorem dX1_valueOf_21 : decode cX1_valueOf 21 = .ok (.getfield 24, 3) := dk_i kdX1_valueOf_0 11 rfl
theorem dX1_valueOf_24 : decode cX1_valueOf 24 = .ok (.iconst 0, 1) := dk_i kdX1_valueOf_0 12 rfl
theorem dX1_valueOf_25 : decode cX1_valueOf 25 = .ok (.iload_n 2, 1) := dk_i kdX1_valueOf_0 13 rfl
theorem dX1_valueOf_26 : decode cX1_valueOf 26 = .ok (.ifCond .eq 7, 3) := dk_i kdX1_valueOf_0 14 rfl
theorem dX1_valueOf_29 : decode cX1_valueOf 29 = .ok (.iconst 0, 1) := dk_i kdX1_valueOf_0 15 rfl
def ldX1_valueOf_30 : List (Nat × ClassFile.Instr × Nat) := [(30, .goto 15, 3), (33, .aload_n 0, 1), (34, .getfield 34, 3), (37, .getfield 58, 3), (40, .aload_n 0, 1), (41, .getfield 15, 3), (44, .iaload, 1), (45, .iastore, 1), (46, .aload_n 0, 1), (47, .getfield 24, 3), (50, .iconst 1, 1), (51, .aload_n 0, 1), (52, .getfield 18, 3), (55, .iastore, 1), (56, .aload_n 0, 1), (57, .getfield 24, 3)]
theorem kdX1_valueOf_30 : dkO cX1_valueOf 30 ldX1_valueOf_30 = true := by decide +kernel
theorem dX1_valueOf_30 : decode cX1_valueOf 30 = .ok (.goto 15, 3) := dk_i kdX1_valueOf_30 0 rfl
theorem dX1_valueOf_33 : decode cX1_valueOf 33 = .ok (.aload_n 0, 1) := dk_i kdX1_valueOf_30 1 rfl
theorem dX1_valueOf_34 : decode cX1_valueOf 34 = .ok (.getfield 34, 3) := dk_i kdX1_valueOf_30 2 rfl
theorem dX1_valueOf_37 : decode cX1_valueOf 37 = .ok (.getfield 58, 3) := dk_i kdX1_valueOf_30 3 rfl
theorem dX1_valueOf_40 : decode cX1_valueOf 40 = .ok (.aload_n 0, 1) := dk_i kdX1_valueOf_30 4 rfl
theorem dX1_valueOf_41 : decode cX1_valueOf 41 = .ok (.getfield 15, 3) := dk_i kdX1_valueOf_30 5 rfl
theorem dX1_valueOf_44 : decode cX1_valueOf 44 = .ok (.iaload, 1) := dk_i kdX1_valueOf_30 6 rfl
theorem dX1_valueOf_45 : decode cX1_valueOf 45 = .ok (.iastore, 1) := dk_i kdX1_valueOf_30 7 rfl
theorem dX1_valueOf_46 : decode cX1_valueOf 46 = .ok (.aload_n 0, 1) := dk_i kdX1_valueOf_30 8 rfl
theorem dX1_valueOf_47 : decode cX1_valueOf 47 = .ok (.getfield 24, 3) := dk_i kdX1_valueOf_30 9 rfl
theorem dX1_valueOf_50 : decode cX1_valueOf 50 = .ok (.iconst 1, 1) := dk_i kdX1_valueOf_30 10 rfl
theorem dX1_valueOf_51 : decode cX1_valueOf 51 = .ok (.aload_n 0, 1) := dk_i kdX1_valueOf_30 11 rfl
theorem dX1_valueOf_52 : decode cX1_valueOf 52 = .ok (.getfield 18, 3) := dk_i kdX1_valueOf_30 12 rfl
theorem dX1_valueOf_55 : decode cX1_valueOf 55 = .ok (.iastore, 1) := dk_i kdX1_valueOf_30 13 rfl
theorem dX1_valueOf_56 : decode cX1_valueOf 56 = .ok (.aload_n 0, 1) := dk_i kdX1_valueOf_30 14 rfl
theorem dX1_valueOf_57 : decode cX1_valueOf 57 = .ok (.getfield 24, 3) := dk_i kdX1_valueOf_30 15 rfl
def ldX1_valueOf_60 : List (Nat × ClassFile.Instr × Nat) := [(60, .iconst 2, 1), (61, .aload_n 0, 1), (62, .getfield 9, 3), (65, .iastore, 1), (66, .aload_n 0, 1), (67, .getfield 24, 3), (70, .iconst 3, 1), (71, .aload_n 0, 1), (72, .getfield 21, 3), (75, .iastore, 1), (76, .aload_n 0, 1), (77, .getfield 24, 3), (80, .iconst 4, 1), (81, .iload_n 2, 1), (82, .ifCond .eq 7, 3), (85, .iconst 1, 1)]
theorem kdX1_valueOf_60 : dkO cX1_valueOf 60 ldX1_valueOf_60 = true := by decide +kernel
theorem dX1_valueOf_60 : decode cX1_valueOf 60 = .ok (.iconst 2, 1) := dk_i kdX1_valueOf_60 0 rfl
theorem dX1_valueOf_61 : decode cX1_valueOf 61 = .ok (.aload_n 0, 1) := dk_i kdX1_valueOf_60 1 rfl
theorem dX1_valueOf_62 : decode cX1_valueOf 62 = .ok (.getfield 9, 3) := dk_i kdX1_valueOf_60 2 rfl
theorem dX1_valueOf_65 : decode cX1_valueOf 65 = .ok (.iastore, 1) := dk_i kdX1_valueOf_60 3 rfl
theorem dX1_valueOf_66 : decode cX1_valueOf 66 = .ok (.aload_n 0, 1) := dk_i kdX1_valueOf_60 4 rfl
theorem dX1_valueOf_67 : decode cX1_valueOf 67 = .ok (.getfield 24, 3) := dk_i kdX1_valueOf_60 5 rfl
theorem dX1_valueOf_70 : decode cX1_valueOf 70 = .ok (.iconst 3, 1) := dk_i kdX1_valueOf_60 6 rfl
theorem dX1_valueOf_71 : decode cX1_valueOf 71 = .ok (.aload_n 0, 1) := dk_i kdX1_valueOf_60 7 rfl
theorem dX1_valueOf_72 : decode cX1_valueOf 72 = .ok (.getfield 21, 3) := dk_i kdX1_valueOf_60 8 rfl
theorem dX1_valueOf_75 : decode cX1_valueOf 75 = .ok (.iastore, 1) := dk_i kdX1_valueOf_60 9 rfl
theorem dX1_valueOf_76 : decode cX1_valueOf 76 = .ok (.aload_n 0, 1) := dk_i kdX1_valueOf_60 10 rfl
theorem dX1_valueOf_77 : decode cX1_valueOf 77 = .ok (.getfield 24, 3) := dk_i kdX1_valueOf_60 11 rfl
theorem dX1_valueOf_80 : decode cX1_valueOf 80 = .ok (.iconst 4, 1) := dk_i kdX1_valueOf_60 12 rfl
theorem dX1_valueOf_81 : decode cX1_valueOf 81 = .ok (.iload_n 2, 1) := dk_i kdX1_valueOf_60 13 rfl
theorem dX1_valueOf_82 : decode cX1_valueOf 82 = .ok (.ifCond .eq 7, 3) := dk_i kdX1_valueOf_60 14 rfl
theorem dX1_valueOf_85 : decode cX1_valueOf 85 = .ok (.iconst 1, 1) := dk_i kdX1_valueOf_60 15 rfl
def ldX1_valueOf_86 : List (Nat × ClassFile.Instr × Nat) := [(86, .goto 4, 3), (89, .iconst 0, 1), (90, .iastore, 1), (91, .aload_n 0, 1), (92, .getfield 24, 3), (95, .iconst 5, 1), (96, .iload_n 2, 1), (97, .ifCond .eq 7, 3), (100, .iconst 0, 1), (101, .goto 15, 3), (104, .aload_n 0, 1), (105, .getfield 34, 3), (108, .getfield 73, 3), (111, .aload_n 0, 1), (112, .getfield 15, 3), (115, .iaload, 1)]
theorem kdX1_valueOf_86 : dkO cX1_valueOf 86 ldX1_valueOf_86 = true := by decide +kernel
theorem dX1_valueOf_86 : decode cX1_valueOf 86 = .ok (.goto 4, 3) := dk_i kdX1_valueOf_86 0 rfl
theorem dX1_valueOf_89 : decode cX1_valueOf 89 = .ok (.iconst 0, 1) := dk_i kdX1_valueOf_86 1 rfl
theorem dX1_valueOf_90 : decode cX1_valueOf 90 = .ok (.iastore, 1) := dk_i kdX1_valueOf_86 2 rfl
theorem dX1_valueOf_91 : decode cX1_valueOf 91 = .ok (.aload_n 0, 1) := dk_i kdX1_valueOf_86 3 rfl
theorem dX1_valueOf_92 : decode cX1_valueOf 92 = .ok (.getfield 24, 3) := dk_i kdX1_valueOf_86 4 rfl
theorem dX1_valueOf_95 : decode cX1_valueOf 95 = .ok (.iconst 5, 1) := dk_i kdX1_valueOf_86 5 rfl
theorem dX1_valueOf_96 : decode cX1_valueOf 96 = .ok (.iload_n 2, 1) := dk_i kdX1_valueOf_86 6 rfl
theorem dX1_valueOf_97 : decode cX1_valueOf 97 = .ok (.ifCond .eq 7, 3) := dk_i kdX1_valueOf_86 7 rfl
theorem dX1_valueOf_100 : decode cX1_valueOf 100 = .ok (.iconst 0, 1) := dk_i kdX1_valueOf_86 8 rfl
theorem dX1_valueOf_101 : decode cX1_valueOf 101 = .ok (.goto 15, 3) := dk_i kdX1_valueOf_86 9 rfl
theorem dX1_valueOf_104 : decode cX1_valueOf 104 = .ok (.aload_n 0, 1) := dk_i kdX1_valueOf_86 10 rfl
theorem dX1_valueOf_105 : decode cX1_valueOf 105 = .ok (.getfield 34, 3) := dk_i kdX1_valueOf_86 11 rfl
theorem dX1_valueOf_108 : decode cX1_valueOf 108 = .ok (.getfield 73, 3) := dk_i kdX1_valueOf_86 12 rfl
theorem dX1_valueOf_111 : decode cX1_valueOf 111 = .ok (.aload_n 0, 1) := dk_i kdX1_valueOf_86 13 rfl
theorem dX1_valueOf_112 : decode cX1_valueOf 112 = .ok (.getfield 15, 3) := dk_i kdX1_valueOf_86 14 rfl
theorem dX1_valueOf_115 : decode cX1_valueOf 115 = .ok (.iaload, 1) := dk_i kdX1_valueOf_86 15 rfl
def ldX1_valueOf_116 : List (Nat × ClassFile.Instr × Nat) := [(116, .iastore, 1), (117, .aload_n 0, 1), (118, .iconst 0, 1), (119, .putfield 31, 3), (122, .iconst 0, 1), (123, .istore_n 3, 1), (124, .iload_n 3, 1), (125, .aload_n 1, 1), (126, .getfield 83, 3), (129, .if_icmp .ge 80, 3), (132, .aload_n 1, 1), (133, .getfield 86, 3), (136, .iload_n 3, 1), (137, .iaload, 1), (138, .istore 4, 2), (140, .iload 4, 2)]
theorem kdX1_valueOf_116 : dkO cX1_valueOf 116 ldX1_valueOf_116 = true := by decide +kernel
theorem dX1_valueOf_116 : decode cX1_valueOf 116 = .ok (.iastore, 1) := dk_i kdX1_valueOf_116 0 rfl
theorem dX1_valueOf_117 : decode cX1_valueOf 117 = .ok (.aload_n 0, 1) := dk_i kdX1_valueOf_116 1 rfl
theorem dX1_valueOf_118 : decode cX1_valueOf 118 = .ok (.iconst 0, 1) := dk_i kdX1_valueOf_116 2 rfl
theorem dX1_valueOf_119 : decode cX1_valueOf 119 = .ok (.putfield 31, 3) := dk_i kdX1_valueOf_116 3 rfl
theorem dX1_valueOf_122 : decode cX1_valueOf 122 = .ok (.iconst 0, 1) := dk_i kdX1_valueOf_116 4 rfl
theorem dX1_valueOf_123 : decode cX1_valueOf 123 = .ok (.istore_n 3, 1) := dk_i kdX1_valueOf_116 5 rfl
theorem dX1_valueOf_124 : decode cX1_valueOf 124 = .ok (.iload_n 3, 1) := dk_i kdX1_valueOf_116 6 rfl
theorem dX1_valueOf_125 : decode cX1_valueOf 125 = .ok (.aload_n 1, 1) := dk_i kdX1_valueOf_116 7 rfl
theorem dX1_valueOf_126 : decode cX1_valueOf 126 = .ok (.getfield 83, 3) := dk_i kdX1_valueOf_116 8 rfl
theorem dX1_valueOf_129 : decode cX1_valueOf 129 = .ok (.if_icmp .ge 80, 3) := dk_i kdX1_valueOf_116 9 rfl
theorem dX1_valueOf_132 : decode cX1_valueOf 132 = .ok (.aload_n 1, 1) := dk_i kdX1_valueOf_116 10 rfl
theorem dX1_valueOf_133 : decode cX1_valueOf 133 = .ok (.getfield 86, 3) := dk_i kdX1_valueOf_116 11 rfl
theorem dX1_valueOf_136 : decode cX1_valueOf 136 = .ok (.iload_n 3, 1) := dk_i kdX1_valueOf_116 12 rfl
theorem dX1_valueOf_137 : decode cX1_valueOf 137 = .ok (.iaload, 1) := dk_i kdX1_valueOf_116 13 rfl
theorem dX1_valueOf_138 : decode cX1_valueOf 138 = .ok (.istore 4, 2) := dk_i kdX1_valueOf_116 14 rfl
theorem dX1_valueOf_140 : decode cX1_valueOf 140 = .ok (.iload 4, 2) := dk_i kdX1_valueOf_116 15 rfl
def ldX1_valueOf_142 : List (Nat × ClassFile.Instr × Nat) := [(142, .bipush (-6), 2), (144, .if_icmp .ge 12, 3), (147, .aload_n 0, 1), (148, .iload 4, 2), (150, .invokevirtual 89, 3), (153, .goto 50, 3), (156, .aload_n 0, 1), (157, .getfield 31, 3), (160, .bipush 64, 2), (162, .if_icmp .ge 41, 3), (165, .aload_n 0, 1), (166, .getfield 28, 3), (169, .aload_n 0, 1), (170, .getfield 31, 3), (173, .iload 4, 2), (175, .ifCond .lt 8, 3)]
theorem kdX1_valueOf_142 : dkO cX1_valueOf 142 ldX1_valueOf_142 = true := by decide +kernel
theorem dX1_valueOf_142 : decode cX1_valueOf 142 = .ok (.bipush (-6), 2) := dk_i kdX1_valueOf_142 0 rfl
theorem dX1_valueOf_144 : decode cX1_valueOf 144 = .ok (.if_icmp .ge 12, 3) := dk_i kdX1_valueOf_142 1 rfl
theorem dX1_valueOf_147 : decode cX1_valueOf 147 = .ok (.aload_n 0, 1) := dk_i kdX1_valueOf_142 2 rfl
theorem dX1_valueOf_148 : decode cX1_valueOf 148 = .ok (.iload 4, 2) := dk_i kdX1_valueOf_142 3 rfl
theorem dX1_valueOf_150 : decode cX1_valueOf 150 = .ok (.invokevirtual 89, 3) := dk_i kdX1_valueOf_142 4 rfl
theorem dX1_valueOf_153 : decode cX1_valueOf 153 = .ok (.goto 50, 3) := dk_i kdX1_valueOf_142 5 rfl
theorem dX1_valueOf_156 : decode cX1_valueOf 156 = .ok (.aload_n 0, 1) := dk_i kdX1_valueOf_142 6 rfl
theorem dX1_valueOf_157 : decode cX1_valueOf 157 = .ok (.getfield 31, 3) := dk_i kdX1_valueOf_142 7 rfl
theorem dX1_valueOf_160 : decode cX1_valueOf 160 = .ok (.bipush 64, 2) := dk_i kdX1_valueOf_142 8 rfl
theorem dX1_valueOf_162 : decode cX1_valueOf 162 = .ok (.if_icmp .ge 41, 3) := dk_i kdX1_valueOf_142 9 rfl
theorem dX1_valueOf_165 : decode cX1_valueOf 165 = .ok (.aload_n 0, 1) := dk_i kdX1_valueOf_142 10 rfl
theorem dX1_valueOf_166 : decode cX1_valueOf 166 = .ok (.getfield 28, 3) := dk_i kdX1_valueOf_142 11 rfl
theorem dX1_valueOf_169 : decode cX1_valueOf 169 = .ok (.aload_n 0, 1) := dk_i kdX1_valueOf_142 12 rfl
theorem dX1_valueOf_170 : decode cX1_valueOf 170 = .ok (.getfield 31, 3) := dk_i kdX1_valueOf_142 13 rfl
theorem dX1_valueOf_173 : decode cX1_valueOf 173 = .ok (.iload 4, 2) := dk_i kdX1_valueOf_142 14 rfl
theorem dX1_valueOf_175 : decode cX1_valueOf 175 = .ok (.ifCond .lt 8, 3) := dk_i kdX1_valueOf_142 15 rfl
def ldX1_valueOf_178 : List (Nat × ClassFile.Instr × Nat) := [(178, .iload 4, 2), (180, .goto 12, 3), (183, .aload_n 0, 1), (184, .getfield 24, 3), (187, .iconst (-1), 1), (188, .iload 4, 2), (190, .isub, 1), (191, .iaload, 1), (192, .iastore, 1), (193, .aload_n 0, 1), (194, .dup, 1), (195, .getfield 31, 3), (198, .iconst 1, 1), (199, .iadd, 1), (200, .putfield 31, 3), (203, .iinc 3 1, 3)]
theorem kdX1_valueOf_178 : dkO cX1_valueOf 178 ldX1_valueOf_178 = true := by decide +kernel
theorem dX1_valueOf_178 : decode cX1_valueOf 178 = .ok (.iload 4, 2) := dk_i kdX1_valueOf_178 0 rfl
theorem dX1_valueOf_180 : decode cX1_valueOf 180 = .ok (.goto 12, 3) := dk_i kdX1_valueOf_178 1 rfl
theorem dX1_valueOf_183 : decode cX1_valueOf 183 = .ok (.aload_n 0, 1) := dk_i kdX1_valueOf_178 2 rfl
theorem dX1_valueOf_184 : decode cX1_valueOf 184 = .ok (.getfield 24, 3) := dk_i kdX1_valueOf_178 3 rfl
theorem dX1_valueOf_187 : decode cX1_valueOf 187 = .ok (.iconst (-1), 1) := dk_i kdX1_valueOf_178 4 rfl
theorem dX1_valueOf_188 : decode cX1_valueOf 188 = .ok (.iload 4, 2) := dk_i kdX1_valueOf_178 5 rfl
theorem dX1_valueOf_190 : decode cX1_valueOf 190 = .ok (.isub, 1) := dk_i kdX1_valueOf_178 6 rfl
theorem dX1_valueOf_191 : decode cX1_valueOf 191 = .ok (.iaload, 1) := dk_i kdX1_valueOf_178 7 rfl
theorem dX1_valueOf_192 : decode cX1_valueOf 192 = .ok (.iastore, 1) := dk_i kdX1_valueOf_178 8 rfl
theorem dX1_valueOf_193 : decode cX1_valueOf 193 = .ok (.aload_n 0, 1) := dk_i kdX1_valueOf_178 9 rfl
theorem dX1_valueOf_194 : decode cX1_valueOf 194 = .ok (.dup, 1) := dk_i kdX1_valueOf_178 10 rfl
theorem dX1_valueOf_195 : decode cX1_valueOf 195 = .ok (.getfield 31, 3) := dk_i kdX1_valueOf_178 11 rfl
theorem dX1_valueOf_198 : decode cX1_valueOf 198 = .ok (.iconst 1, 1) := dk_i kdX1_valueOf_178 12 rfl
theorem dX1_valueOf_199 : decode cX1_valueOf 199 = .ok (.iadd, 1) := dk_i kdX1_valueOf_178 13 rfl
theorem dX1_valueOf_200 : decode cX1_valueOf 200 = .ok (.putfield 31, 3) := dk_i kdX1_valueOf_178 14 rfl
theorem dX1_valueOf_203 : decode cX1_valueOf 203 = .ok (.iinc 3 1, 3) := dk_i kdX1_valueOf_178 15 rfl
def ldX1_valueOf_206 : List (Nat × ClassFile.Instr × Nat) := [(206, .goto (-82), 3), (209, .aload_n 0, 1), (210, .getfield 31, 3), (213, .ifCond .le 12, 3), (216, .aload_n 0, 1), (217, .getfield 28, 3), (220, .iconst 0, 1), (221, .iaload, 1), (222, .goto 4, 3), (225, .iconst 0, 1), (226, .ireturn, 1)]
theorem kdX1_valueOf_206 : dkO cX1_valueOf 206 ldX1_valueOf_206 = true := by decide +kernel
theorem dX1_valueOf_206 : decode cX1_valueOf 206 = .ok (.goto (-82), 3) := dk_i kdX1_valueOf_206 0 rfl
theorem dX1_valueOf_209 : decode cX1_valueOf 209 = .ok (.aload_n 0, 1) := dk_i kdX1_valueOf_206 1 rfl
theorem dX1_valueOf_210 : decode cX1_valueOf 210 = .ok (.getfield 31, 3) := dk_i kdX1_valueOf_206 2 rfl
theorem dX1_valueOf_213 : decode cX1_valueOf 213 = .ok (.ifCond .le 12, 3) := dk_i kdX1_valueOf_206 3 rfl
theorem dX1_valueOf_216 : decode cX1_valueOf 216 = .ok (.aload_n 0, 1) := dk_i kdX1_valueOf_206 4 rfl
theorem dX1_valueOf_217 : decode cX1_valueOf 217 = .ok (.getfield 28, 3) := dk_i kdX1_valueOf_206 5 rfl
theorem dX1_valueOf_220 : decode cX1_valueOf 220 = .ok (.iconst 0, 1) := dk_i kdX1_valueOf_206 6 rfl
theorem dX1_valueOf_221 : decode cX1_valueOf 221 = .ok (.iaload, 1) := dk_i kdX1_valueOf_206 7 rfl
theorem dX1_valueOf_222 : decode cX1_valueOf 222 = .ok (.goto 4, 3) := dk_i kdX1_valueOf_206 8 rfl
theorem dX1_valueOf_225 : decode cX1_valueOf 225 = .ok (.iconst 0, 1) := dk_i kdX1_valueOf_206 9 rfl
theorem dX1_valueOf_226 : decode cX1_valueOf 226 = .ok (.ireturn, 1) := dk_i kdX1_valueOf_206 10 rfl
def ldX1_join_0 : List (Nat × ClassFile.Instr × Nat) := [(0, .iload_n 1, 1), (1, .bipush (-14), 2), (3, .if_icmp .ne 7, 3), (6, .iconst 3, 1), (7, .goto 4, 3), (10, .iconst 2, 1), (11, .istore_n 2, 1), (12, .aload_n 0, 1), (13, .getfield 31, 3), (16, .iload_n 2, 1), (17, .if_icmp .ge 4, 3), (20, .return_, 1), (21, .aload_n 0, 1), (22, .dup, 1), (23, .getfield 31, 3), (26, .iload_n 2, 1)]
theorem kdX1_join_0 : dkO cX1_join 0 ldX1_join_0 = true := by decide +kernel
theorem dX1_join_0 : decode cX1_join 0 = .ok (.iload_n 1, 1) := dk_i kdX1_join_0 0 rfl
theorem dX1_join_1 : decode cX1_join 1 = .ok (.bipush (-14), 2) := dk_i kdX1_join_0 1 rfl
theorem dX1_join_3 : decode cX1_join 3 = .ok (.if_icmp .ne 7, 3) := dk_i kdX1_join_0 2 rfl
theorem dX1_join_6 : decode cX1_join 6 = .ok (.iconst 3, 1) := dk_i kdX1_join_0 3 rfl
theorem dX1_join_7 : decode cX1_join 7 = .ok (.goto 4, 3) := dk_i kdX1_join_0 4 rfl
theorem dX1_join_10 : decode cX1_join 10 = .ok (.iconst 2, 1) := dk_i kdX1_join_0 5 rfl
theorem dX1_join_11 : decode cX1_join 11 = .ok (.istore_n 2, 1) := dk_i kdX1_join_0 6 rfl
theorem dX1_join_12 : decode cX1_join 12 = .ok (.aload_n 0, 1) := dk_i kdX1_join_0 7 rfl
theorem dX1_join_13 : decode cX1_join 13 = .ok (.getfield 31, 3) := dk_i kdX1_join_0 8 rfl
theorem dX1_join_16 : decode cX1_join 16 = .ok (.iload_n 2, 1) := dk_i kdX1_join_0 9 rfl
theorem dX1_join_17 : decode cX1_join 17 = .ok (.if_icmp .ge 4, 3) := dk_i kdX1_join_0 10 rfl
theorem dX1_join_20 : decode cX1_join 20 = .ok (.return_, 1) := dk_i kdX1_join_0 11 rfl
theorem dX1_join_21 : decode cX1_join 21 = .ok (.aload_n 0, 1) := dk_i kdX1_join_0 12 rfl
theorem dX1_join_22 : decode cX1_join 22 = .ok (.dup, 1) := dk_i kdX1_join_0 13 rfl
theorem dX1_join_23 : decode cX1_join 23 = .ok (.getfield 31, 3) := dk_i kdX1_join_0 14 rfl
theorem dX1_join_26 : decode cX1_join 26 = .ok (.iload_n 2, 1) := dk_i kdX1_join_0 15 rfl
def ldX1_join_27 : List (Nat × ClassFile.Instr × Nat) := [(27, .iconst 1, 1), (28, .isub, 1), (29, .isub, 1), (30, .putfield 31, 3), (33, .aload_n 0, 1), (34, .getfield 31, 3), (37, .iconst 1, 1), (38, .isub, 1), (39, .istore_n 3, 1), (40, .aload_n 0, 1), (41, .getfield 28, 3), (44, .iload_n 3, 1), (45, .iaload, 1), (46, .istore 4, 2), (48, .aload_n 0, 1), (49, .getfield 28, 3)]
theorem kdX1_join_27 : dkO cX1_join 27 ldX1_join_27 = true := by decide +kernel
theorem dX1_join_27 : decode cX1_join 27 = .ok (.iconst 1, 1) := dk_i kdX1_join_27 0 rfl
theorem dX1_join_28 : decode cX1_join 28 = .ok (.isub, 1) := dk_i kdX1_join_27 1 rfl
theorem dX1_join_29 : decode cX1_join 29 = .ok (.isub, 1) := dk_i kdX1_join_27 2 rfl
theorem dX1_join_30 : decode cX1_join 30 = .ok (.putfield 31, 3) := dk_i kdX1_join_27 3 rfl
theorem dX1_join_33 : decode cX1_join 33 = .ok (.aload_n 0, 1) := dk_i kdX1_join_27 4 rfl
theorem dX1_join_34 : decode cX1_join 34 = .ok (.getfield 31, 3) := dk_i kdX1_join_27 5 rfl
theorem dX1_join_37 : decode cX1_join 37 = .ok (.iconst 1, 1) := dk_i kdX1_join_27 6 rfl
theorem dX1_join_38 : decode cX1_join 38 = .ok (.isub, 1) := dk_i kdX1_join_27 7 rfl
theorem dX1_join_39 : decode cX1_join 39 = .ok (.istore_n 3, 1) := dk_i kdX1_join_27 8 rfl
theorem dX1_join_40 : decode cX1_join 40 = .ok (.aload_n 0, 1) := dk_i kdX1_join_27 9 rfl
theorem dX1_join_41 : decode cX1_join 41 = .ok (.getfield 28, 3) := dk_i kdX1_join_27 10 rfl
theorem dX1_join_44 : decode cX1_join 44 = .ok (.iload_n 3, 1) := dk_i kdX1_join_27 11 rfl
theorem dX1_join_45 : decode cX1_join 45 = .ok (.iaload, 1) := dk_i kdX1_join_27 12 rfl
theorem dX1_join_46 : decode cX1_join 46 = .ok (.istore 4, 2) := dk_i kdX1_join_27 13 rfl
theorem dX1_join_48 : decode cX1_join 48 = .ok (.aload_n 0, 1) := dk_i kdX1_join_27 14 rfl
theorem dX1_join_49 : decode cX1_join 49 = .ok (.getfield 28, 3) := dk_i kdX1_join_27 15 rfl
def ldX1_join_52 : List (Nat × ClassFile.Instr × Nat) := [(52, .iload_n 3, 1), (53, .iconst 1, 1), (54, .iadd, 1), (55, .iaload, 1), (56, .istore 5, 2), (58, .lconst 0, 1), (59, .lstore 6, 2), (61, .iload_n 1, 1), (62, .tableswitch 270 (-19) (-7) #[259, 248, 231, 214, 197, 172, 159, 146, 124, 102, 90, 78, 66], 66), (128, .iload 4, 2), (130, .i2l, 1), (131, .iload 5, 2), (133, .i2l, 1), (134, .ladd, 1), (135, .lstore 6, 2), (137, .goto 195, 3)]
theorem kdX1_join_52 : dkO cX1_join 52 ldX1_join_52 = true := by decide +kernel
theorem dX1_join_52 : decode cX1_join 52 = .ok (.iload_n 3, 1) := dk_i kdX1_join_52 0 rfl
theorem dX1_join_53 : decode cX1_join 53 = .ok (.iconst 1, 1) := dk_i kdX1_join_52 1 rfl
theorem dX1_join_54 : decode cX1_join 54 = .ok (.iadd, 1) := dk_i kdX1_join_52 2 rfl
theorem dX1_join_55 : decode cX1_join 55 = .ok (.iaload, 1) := dk_i kdX1_join_52 3 rfl
theorem dX1_join_56 : decode cX1_join 56 = .ok (.istore 5, 2) := dk_i kdX1_join_52 4 rfl
theorem dX1_join_58 : decode cX1_join 58 = .ok (.lconst 0, 1) := dk_i kdX1_join_52 5 rfl
theorem dX1_join_59 : decode cX1_join 59 = .ok (.lstore 6, 2) := dk_i kdX1_join_52 6 rfl
theorem dX1_join_61 : decode cX1_join 61 = .ok (.iload_n 1, 1) := dk_i kdX1_join_52 7 rfl
theorem dX1_join_62 : decode cX1_join 62 = .ok (.tableswitch 270 (-19) (-7) #[259, 248, 231, 214, 197, 172, 159, 146, 124, 102, 90, 78, 66], 66) := dk_i kdX1_join_52 8 rfl
theorem dX1_join_128 : decode cX1_join 128 = .ok (.iload 4, 2) := dk_i kdX1_join_52 9 rfl
theorem dX1_join_130 : decode cX1_join 130 = .ok (.i2l, 1) := dk_i kdX1_join_52 10 rfl
theorem dX1_join_131 : decode cX1_join 131 = .ok (.iload 5, 2) := dk_i kdX1_join_52 11 rfl
theorem dX1_join_133 : decode cX1_join 133 = .ok (.i2l, 1) := dk_i kdX1_join_52 12 rfl
theorem dX1_join_134 : decode cX1_join 134 = .ok (.ladd, 1) := dk_i kdX1_join_52 13 rfl
theorem dX1_join_135 : decode cX1_join 135 = .ok (.lstore 6, 2) := dk_i kdX1_join_52 14 rfl
theorem dX1_join_137 : decode cX1_join 137 = .ok (.goto 195, 3) := dk_i kdX1_join_52 15 rfl
def ldX1_join_140 : List (Nat × ClassFile.Instr × Nat) := [(140, .iload 4, 2), (142, .i2l, 1), (143, .iload 5, 2), (145, .i2l, 1), (146, .lsub, 1), (147, .lstore 6, 2), (149, .goto 183, 3), (152, .iload 4, 2), (154, .i2l, 1), (155, .iload 5, 2), (157, .i2l, 1), (158, .lmul, 1), (159, .lstore 6, 2), (161, .goto 171, 3), (164, .iload 5, 2), (166, .ifCond .ne 7, 3)]
theorem kdX1_join_140 : dkO cX1_join 140 ldX1_join_140 = true := by decide +kernel
theorem dX1_join_140 : decode cX1_join 140 = .ok (.iload 4, 2) := dk_i kdX1_join_140 0 rfl
theorem dX1_join_142 : decode cX1_join 142 = .ok (.i2l, 1) := dk_i kdX1_join_140 1 rfl
theorem dX1_join_143 : decode cX1_join 143 = .ok (.iload 5, 2) := dk_i kdX1_join_140 2 rfl
theorem dX1_join_145 : decode cX1_join 145 = .ok (.i2l, 1) := dk_i kdX1_join_140 3 rfl
theorem dX1_join_146 : decode cX1_join 146 = .ok (.lsub, 1) := dk_i kdX1_join_140 4 rfl
theorem dX1_join_147 : decode cX1_join 147 = .ok (.lstore 6, 2) := dk_i kdX1_join_140 5 rfl
theorem dX1_join_149 : decode cX1_join 149 = .ok (.goto 183, 3) := dk_i kdX1_join_140 6 rfl
theorem dX1_join_152 : decode cX1_join 152 = .ok (.iload 4, 2) := dk_i kdX1_join_140 7 rfl
theorem dX1_join_154 : decode cX1_join 154 = .ok (.i2l, 1) := dk_i kdX1_join_140 8 rfl
theorem dX1_join_155 : decode cX1_join 155 = .ok (.iload 5, 2) := dk_i kdX1_join_140 9 rfl
theorem dX1_join_157 : decode cX1_join 157 = .ok (.i2l, 1) := dk_i kdX1_join_140 10 rfl
theorem dX1_join_158 : decode cX1_join 158 = .ok (.lmul, 1) := dk_i kdX1_join_140 11 rfl
theorem dX1_join_159 : decode cX1_join 159 = .ok (.lstore 6, 2) := dk_i kdX1_join_140 12 rfl
theorem dX1_join_161 : decode cX1_join 161 = .ok (.goto 171, 3) := dk_i kdX1_join_140 13 rfl
theorem dX1_join_164 : decode cX1_join 164 = .ok (.iload 5, 2) := dk_i kdX1_join_140 14 rfl
theorem dX1_join_166 : decode cX1_join 166 = .ok (.ifCond .ne 7, 3) := dk_i kdX1_join_140 15 rfl
def ldX1_join_169 : List (Nat × ClassFile.Instr × Nat) := [(169, .lconst 0, 1), (170, .goto 11, 3), (173, .iload 4, 2), (175, .iload 5, 2), (177, .invokestatic 93, 3), (180, .i2l, 1), (181, .lstore 6, 2), (183, .goto 149, 3), (186, .iload 5, 2), (188, .ifCond .ne 7, 3), (191, .lconst 0, 1), (192, .goto 11, 3), (195, .iload 4, 2), (197, .iload 5, 2), (199, .invokestatic 96, 3), (202, .i2l, 1)]
theorem kdX1_join_169 : dkO cX1_join 169 ldX1_join_169 = true := by decide +kernel
theorem dX1_join_169 : decode cX1_join 169 = .ok (.lconst 0, 1) := dk_i kdX1_join_169 0 rfl
theorem dX1_join_170 : decode cX1_join 170 = .ok (.goto 11, 3) := dk_i kdX1_join_169 1 rfl
theorem dX1_join_173 : decode cX1_join 173 = .ok (.iload 4, 2) := dk_i kdX1_join_169 2 rfl
theorem dX1_join_175 : decode cX1_join 175 = .ok (.iload 5, 2) := dk_i kdX1_join_169 3 rfl
theorem dX1_join_177 : decode cX1_join 177 = .ok (.invokestatic 93, 3) := dk_i kdX1_join_169 4 rfl
theorem dX1_join_180 : decode cX1_join 180 = .ok (.i2l, 1) := dk_i kdX1_join_169 5 rfl
theorem dX1_join_181 : decode cX1_join 181 = .ok (.lstore 6, 2) := dk_i kdX1_join_169 6 rfl
theorem dX1_join_183 : decode cX1_join 183 = .ok (.goto 149, 3) := dk_i kdX1_join_169 7 rfl
theorem dX1_join_186 : decode cX1_join 186 = .ok (.iload 5, 2) := dk_i kdX1_join_169 8 rfl
theorem dX1_join_188 : decode cX1_join 188 = .ok (.ifCond .ne 7, 3) := dk_i kdX1_join_169 9 rfl
theorem dX1_join_191 : decode cX1_join 191 = .ok (.lconst 0, 1) := dk_i kdX1_join_169 10 rfl
theorem dX1_join_192 : decode cX1_join 192 = .ok (.goto 11, 3) := dk_i kdX1_join_169 11 rfl
theorem dX1_join_195 : decode cX1_join 195 = .ok (.iload 4, 2) := dk_i kdX1_join_169 12 rfl
theorem dX1_join_197 : decode cX1_join 197 = .ok (.iload 5, 2) := dk_i kdX1_join_169 13 rfl
theorem dX1_join_199 : decode cX1_join 199 = .ok (.invokestatic 96, 3) := dk_i kdX1_join_169 14 rfl
theorem dX1_join_202 : decode cX1_join 202 = .ok (.i2l, 1) := dk_i kdX1_join_169 15 rfl
def ldX1_join_203 : List (Nat × ClassFile.Instr × Nat) := [(203, .lstore 6, 2), (205, .goto 127, 3), (208, .iload 4, 2), (210, .iload 5, 2), (212, .invokestatic 61, 3), (215, .i2l, 1), (216, .lstore 6, 2), (218, .goto 114, 3), (221, .iload 4, 2), (223, .iload 5, 2), (225, .invokestatic 67, 3), (228, .i2l, 1), (229, .lstore 6, 2), (231, .goto 101, 3), (234, .iload 4, 2), (236, .ifCond .eq 9, 3)]
theorem kdX1_join_203 : dkO cX1_join 203 ldX1_join_203 = true := by decide +kernel
theorem dX1_join_203 : decode cX1_join 203 = .ok (.lstore 6, 2) := dk_i kdX1_join_203 0 rfl
theorem dX1_join_205 : decode cX1_join 205 = .ok (.goto 127, 3) := dk_i kdX1_join_203 1 rfl
theorem dX1_join_208 : decode cX1_join 208 = .ok (.iload 4, 2) := dk_i kdX1_join_203 2 rfl
theorem dX1_join_210 : decode cX1_join 210 = .ok (.iload 5, 2) := dk_i kdX1_join_203 3 rfl
theorem dX1_join_212 : decode cX1_join 212 = .ok (.invokestatic 61, 3) := dk_i kdX1_join_203 4 rfl
theorem dX1_join_215 : decode cX1_join 215 = .ok (.i2l, 1) := dk_i kdX1_join_203 5 rfl
theorem dX1_join_216 : decode cX1_join 216 = .ok (.lstore 6, 2) := dk_i kdX1_join_203 6 rfl
theorem dX1_join_218 : decode cX1_join 218 = .ok (.goto 114, 3) := dk_i kdX1_join_203 7 rfl
theorem dX1_join_221 : decode cX1_join 221 = .ok (.iload 4, 2) := dk_i kdX1_join_203 8 rfl
theorem dX1_join_223 : decode cX1_join 223 = .ok (.iload 5, 2) := dk_i kdX1_join_203 9 rfl
theorem dX1_join_225 : decode cX1_join 225 = .ok (.invokestatic 67, 3) := dk_i kdX1_join_203 10 rfl
theorem dX1_join_228 : decode cX1_join 228 = .ok (.i2l, 1) := dk_i kdX1_join_203 11 rfl
theorem dX1_join_229 : decode cX1_join 229 = .ok (.lstore 6, 2) := dk_i kdX1_join_203 12 rfl
theorem dX1_join_231 : decode cX1_join 231 = .ok (.goto 101, 3) := dk_i kdX1_join_203 13 rfl
theorem dX1_join_234 : decode cX1_join 234 = .ok (.iload 4, 2) := dk_i kdX1_join_203 14 rfl
theorem dX1_join_236 : decode cX1_join 236 = .ok (.ifCond .eq 9, 3) := dk_i kdX1_join_203 15 rfl
def ldX1_join_239 : List (Nat × ClassFile.Instr × Nat) := [(239, .iload 5, 2), (241, .i2l, 1), (242, .goto 12, 3), (245, .aload_n 0, 1), (246, .getfield 28, 3), (249, .iload_n 3, 1), (250, .iconst 2, 1), (251, .iadd, 1), (252, .iaload, 1), (253, .i2l, 1), (254, .lstore 6, 2), (256, .goto 76, 3), (259, .iload 4, 2), (261, .iload 5, 2), (263, .if_icmp .ge 7, 3), (266, .lconst 1, 1)]
theorem kdX1_join_239 : dkO cX1_join 239 ldX1_join_239 = true := by decide +kernel
theorem dX1_join_239 : decode cX1_join 239 = .ok (.iload 5, 2) := dk_i kdX1_join_239 0 rfl
theorem dX1_join_241 : decode cX1_join 241 = .ok (.i2l, 1) := dk_i kdX1_join_239 1 rfl
theorem dX1_join_242 : decode cX1_join 242 = .ok (.goto 12, 3) := dk_i kdX1_join_239 2 rfl
theorem dX1_join_245 : decode cX1_join 245 = .ok (.aload_n 0, 1) := dk_i kdX1_join_239 3 rfl
theorem dX1_join_246 : decode cX1_join 246 = .ok (.getfield 28, 3) := dk_i kdX1_join_239 4 rfl
theorem dX1_join_249 : decode cX1_join 249 = .ok (.iload_n 3, 1) := dk_i kdX1_join_239 5 rfl
theorem dX1_join_250 : decode cX1_join 250 = .ok (.iconst 2, 1) := dk_i kdX1_join_239 6 rfl
theorem dX1_join_251 : decode cX1_join 251 = .ok (.iadd, 1) := dk_i kdX1_join_239 7 rfl
theorem dX1_join_252 : decode cX1_join 252 = .ok (.iaload, 1) := dk_i kdX1_join_239 8 rfl
theorem dX1_join_253 : decode cX1_join 253 = .ok (.i2l, 1) := dk_i kdX1_join_239 9 rfl
theorem dX1_join_254 : decode cX1_join 254 = .ok (.lstore 6, 2) := dk_i kdX1_join_239 10 rfl
theorem dX1_join_256 : decode cX1_join 256 = .ok (.goto 76, 3) := dk_i kdX1_join_239 11 rfl
theorem dX1_join_259 : decode cX1_join 259 = .ok (.iload 4, 2) := dk_i kdX1_join_239 12 rfl
theorem dX1_join_261 : decode cX1_join 261 = .ok (.iload 5, 2) := dk_i kdX1_join_239 13 rfl
theorem dX1_join_263 : decode cX1_join 263 = .ok (.if_icmp .ge 7, 3) := dk_i kdX1_join_239 14 rfl
theorem dX1_join_266 : decode cX1_join 266 = .ok (.lconst 1, 1) := dk_i kdX1_join_239 15 rfl
def ldX1_join_267 : List (Nat × ClassFile.Instr × Nat) := [(267, .goto 4, 3), (270, .lconst 0, 1), (271, .lstore 6, 2), (273, .goto 59, 3), (276, .iload 4, 2), (278, .iload 5, 2), (280, .if_icmp .le 7, 3), (283, .lconst 1, 1), (284, .goto 4, 3), (287, .lconst 0, 1), (288, .lstore 6, 2), (290, .goto 42, 3), (293, .iload 4, 2), (295, .iload 5, 2), (297, .if_icmp .ne 7, 3), (300, .lconst 1, 1)]
theorem kdX1_join_267 : dkO cX1_join 267 ldX1_join_267 = true := by decide +kernel
theorem dX1_join_267 : decode cX1_join 267 = .ok (.goto 4, 3) := dk_i kdX1_join_267 0 rfl
theorem dX1_join_270 : decode cX1_join 270 = .ok (.lconst 0, 1) := dk_i kdX1_join_267 1 rfl
theorem dX1_join_271 : decode cX1_join 271 = .ok (.lstore 6, 2) := dk_i kdX1_join_267 2 rfl
theorem dX1_join_273 : decode cX1_join 273 = .ok (.goto 59, 3) := dk_i kdX1_join_267 3 rfl
theorem dX1_join_276 : decode cX1_join 276 = .ok (.iload 4, 2) := dk_i kdX1_join_267 4 rfl
theorem dX1_join_278 : decode cX1_join 278 = .ok (.iload 5, 2) := dk_i kdX1_join_267 5 rfl
theorem dX1_join_280 : decode cX1_join 280 = .ok (.if_icmp .le 7, 3) := dk_i kdX1_join_267 6 rfl
theorem dX1_join_283 : decode cX1_join 283 = .ok (.lconst 1, 1) := dk_i kdX1_join_267 7 rfl
theorem dX1_join_284 : decode cX1_join 284 = .ok (.goto 4, 3) := dk_i kdX1_join_267 8 rfl
theorem dX1_join_287 : decode cX1_join 287 = .ok (.lconst 0, 1) := dk_i kdX1_join_267 9 rfl
theorem dX1_join_288 : decode cX1_join 288 = .ok (.lstore 6, 2) := dk_i kdX1_join_267 10 rfl
theorem dX1_join_290 : decode cX1_join 290 = .ok (.goto 42, 3) := dk_i kdX1_join_267 11 rfl
theorem dX1_join_293 : decode cX1_join 293 = .ok (.iload 4, 2) := dk_i kdX1_join_267 12 rfl
theorem dX1_join_295 : decode cX1_join 295 = .ok (.iload 5, 2) := dk_i kdX1_join_267 13 rfl
theorem dX1_join_297 : decode cX1_join 297 = .ok (.if_icmp .ne 7, 3) := dk_i kdX1_join_267 14 rfl
theorem dX1_join_300 : decode cX1_join 300 = .ok (.lconst 1, 1) := dk_i kdX1_join_267 15 rfl
def ldX1_join_301 : List (Nat × ClassFile.Instr × Nat) := [(301, .goto 4, 3), (304, .lconst 0, 1), (305, .lstore 6, 2), (307, .goto 25, 3), (310, .iload 4, 2), (312, .iload 5, 2), (314, .iand, 1), (315, .i2l, 1), (316, .lstore 6, 2), (318, .goto 14, 3), (321, .iload 4, 2), (323, .iload 5, 2), (325, .ior, 1), (326, .i2l, 1), (327, .lstore 6, 2), (329, .goto 3, 3)]
theorem kdX1_join_301 : dkO cX1_join 301 ldX1_join_301 = true := by decide +kernel
theorem dX1_join_301 : decode cX1_join 301 = .ok (.goto 4, 3) := dk_i kdX1_join_301 0 rfl
theorem dX1_join_304 : decode cX1_join 304 = .ok (.lconst 0, 1) := dk_i kdX1_join_301 1 rfl
theorem dX1_join_305 : decode cX1_join 305 = .ok (.lstore 6, 2) := dk_i kdX1_join_301 2 rfl
theorem dX1_join_307 : decode cX1_join 307 = .ok (.goto 25, 3) := dk_i kdX1_join_301 3 rfl
theorem dX1_join_310 : decode cX1_join 310 = .ok (.iload 4, 2) := dk_i kdX1_join_301 4 rfl
theorem dX1_join_312 : decode cX1_join 312 = .ok (.iload 5, 2) := dk_i kdX1_join_301 5 rfl
theorem dX1_join_314 : decode cX1_join 314 = .ok (.iand, 1) := dk_i kdX1_join_301 6 rfl
theorem dX1_join_315 : decode cX1_join 315 = .ok (.i2l, 1) := dk_i kdX1_join_301 7 rfl
theorem dX1_join_316 : decode cX1_join 316 = .ok (.lstore 6, 2) := dk_i kdX1_join_301 8 rfl
theorem dX1_join_318 : decode cX1_join 318 = .ok (.goto 14, 3) := dk_i kdX1_join_301 9 rfl
theorem dX1_join_321 : decode cX1_join 321 = .ok (.iload 4, 2) := dk_i kdX1_join_301 10 rfl
theorem dX1_join_323 : decode cX1_join 323 = .ok (.iload 5, 2) := dk_i kdX1_join_301 11 rfl
theorem dX1_join_325 : decode cX1_join 325 = .ok (.ior, 1) := dk_i kdX1_join_301 12 rfl
theorem dX1_join_326 : decode cX1_join 326 = .ok (.i2l, 1) := dk_i kdX1_join_301 13 rfl
theorem dX1_join_327 : decode cX1_join 327 = .ok (.lstore 6, 2) := dk_i kdX1_join_301 14 rfl
theorem dX1_join_329 : decode cX1_join 329 = .ok (.goto 3, 3) := dk_i kdX1_join_301 15 rfl
def ldX1_join_332 : List (Nat × ClassFile.Instr × Nat) := [(332, .aload_n 0, 1), (333, .getfield 28, 3), (336, .iload_n 3, 1), (337, .ldc2_w 99, 3), (340, .ldc2_w 101, 3), (343, .lload 6, 2), (345, .invokestatic 103, 3), (348, .invokestatic 106, 3), (351, .l2i, 1), (352, .iastore, 1), (353, .return_, 1)]
theorem kdX1_join_332 : dkO cX1_join 332 ldX1_join_332 = true := by decide +kernel
theorem dX1_join_332 : decode cX1_join 332 = .ok (.aload_n 0, 1) := dk_i kdX1_join_332 0 rfl
theorem dX1_join_333 : decode cX1_join 333 = .ok (.getfield 28, 3) := dk_i kdX1_join_332 1 rfl
theorem dX1_join_336 : decode cX1_join 336 = .ok (.iload_n 3, 1) := dk_i kdX1_join_332 2 rfl
theorem dX1_join_337 : decode cX1_join 337 = .ok (.ldc2_w 99, 3) := dk_i kdX1_join_332 3 rfl
theorem dX1_join_340 : decode cX1_join 340 = .ok (.ldc2_w 101, 3) := dk_i kdX1_join_332 4 rfl
theorem dX1_join_343 : decode cX1_join 343 = .ok (.lload 6, 2) := dk_i kdX1_join_332 5 rfl
theorem dX1_join_345 : decode cX1_join 345 = .ok (.invokestatic 103, 3) := dk_i kdX1_join_332 6 rfl
theorem dX1_join_348 : decode cX1_join 348 = .ok (.invokestatic 106, 3) := dk_i kdX1_join_332 7 rfl
theorem dX1_join_351 : decode cX1_join 351 = .ok (.l2i, 1) := dk_i kdX1_join_332 8 rfl
theorem dX1_join_352 : decode cX1_join 352 = .ok (.iastore, 1) := dk_i kdX1_join_332 9 rfl
theorem dX1_join_353 : decode cX1_join 353 = .ok (.return_, 1) := dk_i kdX1_join_332 10 rfl
end
section
def ldX10_init_0 : List (Nat × ClassFile.Instr × Nat) := [(0, .aload_n 0, 1), (1, .invokespecial 3, 3), (4, .aload_n 0, 1), (5, .iconst 5, 1), (6, .newarray .int, 2), (8, .putfield 9, 3), (11, .aload_n 0, 1), (12, .bipush 61, 2), (14, .newarray .int, 2), (16, .putfield 15, 3), (19, .return_, 1)]
theorem kdX10_init_0 : dkO cX10_init 0 ldX10_init_0 = true := by decide +kernel
theorem dX10_init_0 : decode cX10_init 0 = .ok (.aload_n 0, 1) := dk_i kdX10_init_0 0 rfl
theorem dX10_init_1 : decode cX10_init 1 = .ok (.invokespecial 3, 3) := dk_i kdX10_init_0 1 rfl
theorem dX10_init_4 : decode cX10_init 4 = .ok (.aload_n 0, 1) := dk_i kdX10_init_0 2 rfl
theorem dX10_init_5 : decode cX10_init 5 = .ok (.iconst 5, 1) := dk_i kdX10_init_0 3 rfl
theorem dX10_init_6 : decode cX10_init 6 = .ok (.newarray .int, 2) := dk_i kdX10_init_0 4 rfl
theorem dX10_init_8 : decode cX10_init 8 = .ok (.putfield 9, 3) := dk_i kdX10_init_0 5 rfl
theorem dX10_init_11 : decode cX10_init 11 = .ok (.aload_n 0, 1) := dk_i kdX10_init_0 6 rfl
theorem dX10_init_12 : decode cX10_init 12 = .ok (.bipush 61, 2) := dk_i kdX10_init_0 7 rfl
theorem dX10_init_14 : decode cX10_init 14 = .ok (.newarray .int, 2) := dk_i kdX10_init_0 8 rfl
theorem dX10_init_16 : decode cX10_init 16 = .ok (.putfield 15, 3) := dk_i kdX10_init_0 9 rfl
theorem dX10_init_19 : decode cX10_init 19 = .ok (.return_, 1) := dk_i kdX10_init_0 10 rfl
def ldX10_stepsOf_0 : List (Nat × ClassFile.Instr × Nat) := [(0, .iconst 0, 1), (1, .istore 4, 2), (3, .iload 4, 2), (5, .iconst 5, 1), (6, .if_icmp .ge 28, 3), (9, .aload_n 0, 1), (10, .getfield 9, 3), (13, .iload 4, 2), (15, .iload 4, 2), (17, .iload_n 2, 1), (18, .if_icmp .ne 7, 3), (21, .iconst 0, 1), (22, .goto 5, 3), (25, .ldc 18, 2), (27, .iastore, 1), (28, .iinc 4 1, 3)]
theorem kdX10_stepsOf_0 : dkO cX10_stepsOf 0 ldX10_stepsOf_0 = true := by decide +kernel
theorem dX10_stepsOf_0 : decode cX10_stepsOf 0 = .ok (.iconst 0, 1) := dk_i kdX10_stepsOf_0 0 rfl
theorem dX10_stepsOf_1 : decode cX10_stepsOf 1 = .ok (.istore 4, 2) := dk_i kdX10_stepsOf_0 1 rfl
theorem dX10_stepsOf_3 : decode cX10_stepsOf 3 = .ok (.iload 4, 2) := dk_i kdX10_stepsOf_0 2 rfl
theorem dX10_stepsOf_5 : decode cX10_stepsOf 5 = .ok (.iconst 5, 1) := dk_i kdX10_stepsOf_0 3 rfl
theorem dX10_stepsOf_6 : decode cX10_stepsOf 6 = .ok (.if_icmp .ge 28, 3) := dk_i kdX10_stepsOf_0 4 rfl
theorem dX10_stepsOf_9 : decode cX10_stepsOf 9 = .ok (.aload_n 0, 1) := dk_i kdX10_stepsOf_0 5 rfl
theorem dX10_stepsOf_10 : decode cX10_stepsOf 10 = .ok (.getfield 9, 3) := dk_i kdX10_stepsOf_0 6 rfl
theorem dX10_stepsOf_13 : decode cX10_stepsOf 13 = .ok (.iload 4, 2) := dk_i kdX10_stepsOf_0 7 rfl
theorem dX10_stepsOf_15 : decode cX10_stepsOf 15 = .ok (.iload 4, 2) := dk_i kdX10_stepsOf_0 8 rfl
theorem dX10_stepsOf_17 : decode cX10_stepsOf 17 = .ok (.iload_n 2, 1) := dk_i kdX10_stepsOf_0 9 rfl
theorem dX10_stepsOf_18 : decode cX10_stepsOf 18 = .ok (.if_icmp .ne 7, 3) := dk_i kdX10_stepsOf_0 10 rfl
theorem dX10_stepsOf_21 : decode cX10_stepsOf 21 = .ok (.iconst 0, 1) := dk_i kdX10_stepsOf_0 11 rfl
theorem dX10_stepsOf_22 : decode cX10_stepsOf 22 = .ok (.goto 5, 3) := dk_i kdX10_stepsOf_0 12 rfl
theorem dX10_stepsOf_25 : decode cX10_stepsOf 25 = .ok (.ldc 18, 2) := dk_i kdX10_stepsOf_0 13 rfl
theorem dX10_stepsOf_27 : decode cX10_stepsOf 27 = .ok (.iastore, 1) := dk_i kdX10_stepsOf_0 14 rfl
theorem dX10_stepsOf_28 : decode cX10_stepsOf 28 = .ok (.iinc 4 1, 3) := dk_i kdX10_stepsOf_0 15 rfl
def ldX10_stepsOf_31 : List (Nat × ClassFile.Instr × Nat) := [(31, .goto (-28), 3), (34, .iconst 0, 1), (35, .istore 4, 2), (37, .iload 4, 2), (39, .aload_n 1, 1), (40, .getfield 19, 3), (43, .if_icmp .ge 77, 3), (46, .iconst 0, 1), (47, .istore 5, 2), (49, .iload 5, 2), (51, .aload_n 1, 1), (52, .getfield 25, 3), (55, .if_icmp .ge 59, 3), (58, .aload_n 0, 1), (59, .aload_n 1, 1), (60, .getfield 28, 3)]
theorem kdX10_stepsOf_31 : dkO cX10_stepsOf 31 ldX10_stepsOf_31 = true := by decide +kernel
theorem dX10_stepsOf_31 : decode cX10_stepsOf 31 = .ok (.goto (-28), 3) := dk_i kdX10_stepsOf_31 0 rfl
theorem dX10_stepsOf_34 : decode cX10_stepsOf 34 = .ok (.iconst 0, 1) := dk_i kdX10_stepsOf_31 1 rfl
theorem dX10_stepsOf_35 : decode cX10_stepsOf 35 = .ok (.istore 4, 2) := dk_i kdX10_stepsOf_31 2 rfl
theorem dX10_stepsOf_37 : decode cX10_stepsOf 37 = .ok (.iload 4, 2) := dk_i kdX10_stepsOf_31 3 rfl
theorem dX10_stepsOf_39 : decode cX10_stepsOf 39 = .ok (.aload_n 1, 1) := dk_i kdX10_stepsOf_31 4 rfl
theorem dX10_stepsOf_40 : decode cX10_stepsOf 40 = .ok (.getfield 19, 3) := dk_i kdX10_stepsOf_31 5 rfl
theorem dX10_stepsOf_43 : decode cX10_stepsOf 43 = .ok (.if_icmp .ge 77, 3) := dk_i kdX10_stepsOf_31 6 rfl
theorem dX10_stepsOf_46 : decode cX10_stepsOf 46 = .ok (.iconst 0, 1) := dk_i kdX10_stepsOf_31 7 rfl
theorem dX10_stepsOf_47 : decode cX10_stepsOf 47 = .ok (.istore 5, 2) := dk_i kdX10_stepsOf_31 8 rfl
theorem dX10_stepsOf_49 : decode cX10_stepsOf 49 = .ok (.iload 5, 2) := dk_i kdX10_stepsOf_31 9 rfl
theorem dX10_stepsOf_51 : decode cX10_stepsOf 51 = .ok (.aload_n 1, 1) := dk_i kdX10_stepsOf_31 10 rfl
theorem dX10_stepsOf_52 : decode cX10_stepsOf 52 = .ok (.getfield 25, 3) := dk_i kdX10_stepsOf_31 11 rfl
theorem dX10_stepsOf_55 : decode cX10_stepsOf 55 = .ok (.if_icmp .ge 59, 3) := dk_i kdX10_stepsOf_31 12 rfl
theorem dX10_stepsOf_58 : decode cX10_stepsOf 58 = .ok (.aload_n 0, 1) := dk_i kdX10_stepsOf_31 13 rfl
theorem dX10_stepsOf_59 : decode cX10_stepsOf 59 = .ok (.aload_n 1, 1) := dk_i kdX10_stepsOf_31 14 rfl
theorem dX10_stepsOf_60 : decode cX10_stepsOf 60 = .ok (.getfield 28, 3) := dk_i kdX10_stepsOf_31 15 rfl
def ldX10_stepsOf_63 : List (Nat × ClassFile.Instr × Nat) := [(63, .iload 5, 2), (65, .iaload, 1), (66, .aload_n 1, 1), (67, .getfield 31, 3), (70, .iload 5, 2), (72, .iaload, 1), (73, .aload_n 1, 1), (74, .getfield 34, 3), (77, .iload 5, 2), (79, .iaload, 1), (80, .invokevirtual 37, 3), (83, .aload_n 0, 1), (84, .aload_n 1, 1), (85, .getfield 31, 3), (88, .iload 5, 2), (90, .iaload, 1)]
theorem kdX10_stepsOf_63 : dkO cX10_stepsOf 63 ldX10_stepsOf_63 = true := by decide +kernel
theorem dX10_stepsOf_63 : decode cX10_stepsOf 63 = .ok (.iload 5, 2) := dk_i kdX10_stepsOf_63 0 rfl
theorem dX10_stepsOf_65 : decode cX10_stepsOf 65 = .ok (.iaload, 1) := dk_i kdX10_stepsOf_63 1 rfl
theorem dX10_stepsOf_66 : decode cX10_stepsOf 66 = .ok (.aload_n 1, 1) := dk_i kdX10_stepsOf_63 2 rfl
theorem dX10_stepsOf_67 : decode cX10_stepsOf 67 = .ok (.getfield 31, 3) := dk_i kdX10_stepsOf_63 3 rfl
theorem dX10_stepsOf_70 : decode cX10_stepsOf 70 = .ok (.iload 5, 2) := dk_i kdX10_stepsOf_63 4 rfl
theorem dX10_stepsOf_72 : decode cX10_stepsOf 72 = .ok (.iaload, 1) := dk_i kdX10_stepsOf_63 5 rfl
theorem dX10_stepsOf_73 : decode cX10_stepsOf 73 = .ok (.aload_n 1, 1) := dk_i kdX10_stepsOf_63 6 rfl
theorem dX10_stepsOf_74 : decode cX10_stepsOf 74 = .ok (.getfield 34, 3) := dk_i kdX10_stepsOf_63 7 rfl
theorem dX10_stepsOf_77 : decode cX10_stepsOf 77 = .ok (.iload 5, 2) := dk_i kdX10_stepsOf_63 8 rfl
theorem dX10_stepsOf_79 : decode cX10_stepsOf 79 = .ok (.iaload, 1) := dk_i kdX10_stepsOf_63 9 rfl
theorem dX10_stepsOf_80 : decode cX10_stepsOf 80 = .ok (.invokevirtual 37, 3) := dk_i kdX10_stepsOf_63 10 rfl
theorem dX10_stepsOf_83 : decode cX10_stepsOf 83 = .ok (.aload_n 0, 1) := dk_i kdX10_stepsOf_63 11 rfl
theorem dX10_stepsOf_84 : decode cX10_stepsOf 84 = .ok (.aload_n 1, 1) := dk_i kdX10_stepsOf_63 12 rfl
theorem dX10_stepsOf_85 : decode cX10_stepsOf 85 = .ok (.getfield 31, 3) := dk_i kdX10_stepsOf_63 13 rfl
theorem dX10_stepsOf_88 : decode cX10_stepsOf 88 = .ok (.iload 5, 2) := dk_i kdX10_stepsOf_63 14 rfl
theorem dX10_stepsOf_90 : decode cX10_stepsOf 90 = .ok (.iaload, 1) := dk_i kdX10_stepsOf_63 15 rfl
def ldX10_stepsOf_91 : List (Nat × ClassFile.Instr × Nat) := [(91, .aload_n 1, 1), (92, .getfield 28, 3), (95, .iload 5, 2), (97, .iaload, 1), (98, .aload_n 1, 1), (99, .getfield 34, 3), (102, .iload 5, 2), (104, .iaload, 1), (105, .invokevirtual 37, 3), (108, .iinc 5 1, 3), (111, .goto (-62), 3), (114, .iinc 4 1, 3), (117, .goto (-80), 3), (120, .aload_n 1, 1), (121, .iload_n 3, 1), (122, .invokevirtual 41, 3)]
theorem kdX10_stepsOf_91 : dkO cX10_stepsOf 91 ldX10_stepsOf_91 = true := by decide +kernel
theorem dX10_stepsOf_91 : decode cX10_stepsOf 91 = .ok (.aload_n 1, 1) := dk_i kdX10_stepsOf_91 0 rfl
theorem dX10_stepsOf_92 : decode cX10_stepsOf 92 = .ok (.getfield 28, 3) := dk_i kdX10_stepsOf_91 1 rfl
theorem dX10_stepsOf_95 : decode cX10_stepsOf 95 = .ok (.iload 5, 2) := dk_i kdX10_stepsOf_91 2 rfl
theorem dX10_stepsOf_97 : decode cX10_stepsOf 97 = .ok (.iaload, 1) := dk_i kdX10_stepsOf_91 3 rfl
theorem dX10_stepsOf_98 : decode cX10_stepsOf 98 = .ok (.aload_n 1, 1) := dk_i kdX10_stepsOf_91 4 rfl
theorem dX10_stepsOf_99 : decode cX10_stepsOf 99 = .ok (.getfield 34, 3) := dk_i kdX10_stepsOf_91 5 rfl
theorem dX10_stepsOf_102 : decode cX10_stepsOf 102 = .ok (.iload 5, 2) := dk_i kdX10_stepsOf_91 6 rfl
theorem dX10_stepsOf_104 : decode cX10_stepsOf 104 = .ok (.iaload, 1) := dk_i kdX10_stepsOf_91 7 rfl
theorem dX10_stepsOf_105 : decode cX10_stepsOf 105 = .ok (.invokevirtual 37, 3) := dk_i kdX10_stepsOf_91 8 rfl
theorem dX10_stepsOf_108 : decode cX10_stepsOf 108 = .ok (.iinc 5 1, 3) := dk_i kdX10_stepsOf_91 9 rfl
theorem dX10_stepsOf_111 : decode cX10_stepsOf 111 = .ok (.goto (-62), 3) := dk_i kdX10_stepsOf_91 10 rfl
theorem dX10_stepsOf_114 : decode cX10_stepsOf 114 = .ok (.iinc 4 1, 3) := dk_i kdX10_stepsOf_91 11 rfl
theorem dX10_stepsOf_117 : decode cX10_stepsOf 117 = .ok (.goto (-80), 3) := dk_i kdX10_stepsOf_91 12 rfl
theorem dX10_stepsOf_120 : decode cX10_stepsOf 120 = .ok (.aload_n 1, 1) := dk_i kdX10_stepsOf_91 13 rfl
theorem dX10_stepsOf_121 : decode cX10_stepsOf 121 = .ok (.iload_n 3, 1) := dk_i kdX10_stepsOf_91 14 rfl
theorem dX10_stepsOf_122 : decode cX10_stepsOf 122 = .ok (.invokevirtual 41, 3) := dk_i kdX10_stepsOf_91 15 rfl
def ldX10_stepsOf_125 : List (Nat × ClassFile.Instr × Nat) := [(125, .ifCond .eq 23, 3), (128, .aload_n 0, 1), (129, .getfield 9, 3), (132, .iload_n 3, 1), (133, .iaload, 1), (134, .ldc 18, 2), (136, .if_icmp .ge 12, 3), (139, .aload_n 0, 1), (140, .getfield 9, 3), (143, .iload_n 3, 1), (144, .iaload, 1), (145, .goto 4, 3), (148, .iconst (-1), 1), (149, .ireturn, 1)]
theorem kdX10_stepsOf_125 : dkO cX10_stepsOf 125 ldX10_stepsOf_125 = true := by decide +kernel
theorem dX10_stepsOf_125 : decode cX10_stepsOf 125 = .ok (.ifCond .eq 23, 3) := dk_i kdX10_stepsOf_125 0 rfl
theorem dX10_stepsOf_128 : decode cX10_stepsOf 128 = .ok (.aload_n 0, 1) := dk_i kdX10_stepsOf_125 1 rfl
theorem dX10_stepsOf_129 : decode cX10_stepsOf 129 = .ok (.getfield 9, 3) := dk_i kdX10_stepsOf_125 2 rfl
theorem dX10_stepsOf_132 : decode cX10_stepsOf 132 = .ok (.iload_n 3, 1) := dk_i kdX10_stepsOf_125 3 rfl
theorem dX10_stepsOf_133 : decode cX10_stepsOf 133 = .ok (.iaload, 1) := dk_i kdX10_stepsOf_125 4 rfl
theorem dX10_stepsOf_134 : decode cX10_stepsOf 134 = .ok (.ldc 18, 2) := dk_i kdX10_stepsOf_125 5 rfl
theorem dX10_stepsOf_136 : decode cX10_stepsOf 136 = .ok (.if_icmp .ge 12, 3) := dk_i kdX10_stepsOf_125 6 rfl
theorem dX10_stepsOf_139 : decode cX10_stepsOf 139 = .ok (.aload_n 0, 1) := dk_i kdX10_stepsOf_125 7 rfl
theorem dX10_stepsOf_140 : decode cX10_stepsOf 140 = .ok (.getfield 9, 3) := dk_i kdX10_stepsOf_125 8 rfl
theorem dX10_stepsOf_143 : decode cX10_stepsOf 143 = .ok (.iload_n 3, 1) := dk_i kdX10_stepsOf_125 9 rfl
theorem dX10_stepsOf_144 : decode cX10_stepsOf 144 = .ok (.iaload, 1) := dk_i kdX10_stepsOf_125 10 rfl
theorem dX10_stepsOf_145 : decode cX10_stepsOf 145 = .ok (.goto 4, 3) := dk_i kdX10_stepsOf_125 11 rfl
theorem dX10_stepsOf_148 : decode cX10_stepsOf 148 = .ok (.iconst (-1), 1) := dk_i kdX10_stepsOf_125 12 rfl
theorem dX10_stepsOf_149 : decode cX10_stepsOf 149 = .ok (.ireturn, 1) := dk_i kdX10_stepsOf_125 13 rfl
def ldX10_shorten_0 : List (Nat × ClassFile.Instr × Nat) := [(0, .aload_n 0, 1), (1, .getfield 9, 3), (4, .iload_n 2, 1), (5, .aload_n 0, 1), (6, .getfield 9, 3), (9, .iload_n 2, 1), (10, .iaload, 1), (11, .aload_n 0, 1), (12, .getfield 9, 3), (15, .iload_n 1, 1), (16, .iaload, 1), (17, .iload_n 3, 1), (18, .iadd, 1), (19, .invokestatic 45, 3), (22, .iastore, 1), (23, .return_, 1)]
theorem kdX10_shorten_0 : dkO cX10_shorten 0 ldX10_shorten_0 = true := by decide +kernel
theorem dX10_shorten_0 : decode cX10_shorten 0 = .ok (.aload_n 0, 1) := dk_i kdX10_shorten_0 0 rfl
theorem dX10_shorten_1 : decode cX10_shorten 1 = .ok (.getfield 9, 3) := dk_i kdX10_shorten_0 1 rfl
theorem dX10_shorten_4 : decode cX10_shorten 4 = .ok (.iload_n 2, 1) := dk_i kdX10_shorten_0 2 rfl
theorem dX10_shorten_5 : decode cX10_shorten 5 = .ok (.aload_n 0, 1) := dk_i kdX10_shorten_0 3 rfl
theorem dX10_shorten_6 : decode cX10_shorten 6 = .ok (.getfield 9, 3) := dk_i kdX10_shorten_0 4 rfl
theorem dX10_shorten_9 : decode cX10_shorten 9 = .ok (.iload_n 2, 1) := dk_i kdX10_shorten_0 5 rfl
theorem dX10_shorten_10 : decode cX10_shorten 10 = .ok (.iaload, 1) := dk_i kdX10_shorten_0 6 rfl
theorem dX10_shorten_11 : decode cX10_shorten 11 = .ok (.aload_n 0, 1) := dk_i kdX10_shorten_0 7 rfl
theorem dX10_shorten_12 : decode cX10_shorten 12 = .ok (.getfield 9, 3) := dk_i kdX10_shorten_0 8 rfl
theorem dX10_shorten_15 : decode cX10_shorten 15 = .ok (.iload_n 1, 1) := dk_i kdX10_shorten_0 9 rfl
theorem dX10_shorten_16 : decode cX10_shorten 16 = .ok (.iaload, 1) := dk_i kdX10_shorten_0 10 rfl
theorem dX10_shorten_17 : decode cX10_shorten 17 = .ok (.iload_n 3, 1) := dk_i kdX10_shorten_0 11 rfl
theorem dX10_shorten_18 : decode cX10_shorten 18 = .ok (.iadd, 1) := dk_i kdX10_shorten_0 12 rfl
theorem dX10_shorten_19 : decode cX10_shorten 19 = .ok (.invokestatic 45, 3) := dk_i kdX10_shorten_0 13 rfl
theorem dX10_shorten_22 : decode cX10_shorten 22 = .ok (.iastore, 1) := dk_i kdX10_shorten_0 14 rfl
theorem dX10_shorten_23 : decode cX10_shorten 23 = .ok (.return_, 1) := dk_i kdX10_shorten_0 15 rfl
def ldX10_goOutFrom_0 : List (Nat × ClassFile.Instr × Nat) := [(0, .aload_n 0, 1), (1, .getfield 15, 3), (4, .iconst 0, 1), (5, .iconst 1, 1), (6, .iload_n 2, 1), (7, .ishl, 1), (8, .iastore, 1), (9, .iconst 1, 1), (10, .istore_n 3, 1), (11, .iload_n 3, 1), (12, .bipush 60, 2), (14, .if_icmp .gt 72, 3), (17, .aload_n 0, 1), (18, .getfield 15, 3), (21, .iload_n 3, 1), (22, .iconst 0, 1)]
theorem kdX10_goOutFrom_0 : dkO cX10_goOutFrom 0 ldX10_goOutFrom_0 = true := by decide +kernel
theorem dX10_goOutFrom_0 : decode cX10_goOutFrom 0 = .ok (.aload_n 0, 1) := dk_i kdX10_goOutFrom_0 0 rfl
theorem dX10_goOutFrom_1 : decode cX10_goOutFrom 1 = .ok (.getfield 15, 3) := dk_i kdX10_goOutFrom_0 1 rfl
theorem dX10_goOutFrom_4 : decode cX10_goOutFrom 4 = .ok (.iconst 0, 1) := dk_i kdX10_goOutFrom_0 2 rfl
theorem dX10_goOutFrom_5 : decode cX10_goOutFrom 5 = .ok (.iconst 1, 1) := dk_i kdX10_goOutFrom_0 3 rfl
theorem dX10_goOutFrom_6 : decode cX10_goOutFrom 6 = .ok (.iload_n 2, 1) := dk_i kdX10_goOutFrom_0 4 rfl
theorem dX10_goOutFrom_7 : decode cX10_goOutFrom 7 = .ok (.ishl, 1) := dk_i kdX10_goOutFrom_0 5 rfl
theorem dX10_goOutFrom_8 : decode cX10_goOutFrom 8 = .ok (.iastore, 1) := dk_i kdX10_goOutFrom_0 6 rfl
theorem dX10_goOutFrom_9 : decode cX10_goOutFrom 9 = .ok (.iconst 1, 1) := dk_i kdX10_goOutFrom_0 7 rfl
theorem dX10_goOutFrom_10 : decode cX10_goOutFrom 10 = .ok (.istore_n 3, 1) := dk_i kdX10_goOutFrom_0 8 rfl
theorem dX10_goOutFrom_11 : decode cX10_goOutFrom 11 = .ok (.iload_n 3, 1) := dk_i kdX10_goOutFrom_0 9 rfl
theorem dX10_goOutFrom_12 : decode cX10_goOutFrom 12 = .ok (.bipush 60, 2) := dk_i kdX10_goOutFrom_0 10 rfl
theorem dX10_goOutFrom_14 : decode cX10_goOutFrom 14 = .ok (.if_icmp .gt 72, 3) := dk_i kdX10_goOutFrom_0 11 rfl
theorem dX10_goOutFrom_17 : decode cX10_goOutFrom 17 = .ok (.aload_n 0, 1) := dk_i kdX10_goOutFrom_0 12 rfl
theorem dX10_goOutFrom_18 : decode cX10_goOutFrom 18 = .ok (.getfield 15, 3) := dk_i kdX10_goOutFrom_0 13 rfl
theorem dX10_goOutFrom_21 : decode cX10_goOutFrom 21 = .ok (.iload_n 3, 1) := dk_i kdX10_goOutFrom_0 14 rfl
theorem dX10_goOutFrom_22 : decode cX10_goOutFrom 22 = .ok (.iconst 0, 1) := dk_i kdX10_goOutFrom_0 15 rfl
def ldX10_goOutFrom_23 : List (Nat × ClassFile.Instr × Nat) := [(23, .iastore, 1), (24, .iconst 0, 1), (25, .istore 4, 2), (27, .iload 4, 2), (29, .aload_n 1, 1), (30, .getfield 25, 3), (33, .if_icmp .ge 47, 3), (36, .iload_n 3, 1), (37, .aload_n 1, 1), (38, .getfield 34, 3), (41, .iload 4, 2), (43, .iaload, 1), (44, .isub, 1), (45, .istore 5, 2), (47, .iload 5, 2), (49, .ifCond .lt 25, 3)]
theorem kdX10_goOutFrom_23 : dkO cX10_goOutFrom 23 ldX10_goOutFrom_23 = true := by decide +kernel
theorem dX10_goOutFrom_23 : decode cX10_goOutFrom 23 = .ok (.iastore, 1) := dk_i kdX10_goOutFrom_23 0 rfl
theorem dX10_goOutFrom_24 : decode cX10_goOutFrom 24 = .ok (.iconst 0, 1) := dk_i kdX10_goOutFrom_23 1 rfl
theorem dX10_goOutFrom_25 : decode cX10_goOutFrom 25 = .ok (.istore 4, 2) := dk_i kdX10_goOutFrom_23 2 rfl
theorem dX10_goOutFrom_27 : decode cX10_goOutFrom 27 = .ok (.iload 4, 2) := dk_i kdX10_goOutFrom_23 3 rfl
theorem dX10_goOutFrom_29 : decode cX10_goOutFrom 29 = .ok (.aload_n 1, 1) := dk_i kdX10_goOutFrom_23 4 rfl
theorem dX10_goOutFrom_30 : decode cX10_goOutFrom 30 = .ok (.getfield 25, 3) := dk_i kdX10_goOutFrom_23 5 rfl
theorem dX10_goOutFrom_33 : decode cX10_goOutFrom 33 = .ok (.if_icmp .ge 47, 3) := dk_i kdX10_goOutFrom_23 6 rfl
theorem dX10_goOutFrom_36 : decode cX10_goOutFrom 36 = .ok (.iload_n 3, 1) := dk_i kdX10_goOutFrom_23 7 rfl
theorem dX10_goOutFrom_37 : decode cX10_goOutFrom 37 = .ok (.aload_n 1, 1) := dk_i kdX10_goOutFrom_23 8 rfl
theorem dX10_goOutFrom_38 : decode cX10_goOutFrom 38 = .ok (.getfield 34, 3) := dk_i kdX10_goOutFrom_23 9 rfl
theorem dX10_goOutFrom_41 : decode cX10_goOutFrom 41 = .ok (.iload 4, 2) := dk_i kdX10_goOutFrom_23 10 rfl
theorem dX10_goOutFrom_43 : decode cX10_goOutFrom 43 = .ok (.iaload, 1) := dk_i kdX10_goOutFrom_23 11 rfl
theorem dX10_goOutFrom_44 : decode cX10_goOutFrom 44 = .ok (.isub, 1) := dk_i kdX10_goOutFrom_23 12 rfl
theorem dX10_goOutFrom_45 : decode cX10_goOutFrom 45 = .ok (.istore 5, 2) := dk_i kdX10_goOutFrom_23 13 rfl
theorem dX10_goOutFrom_47 : decode cX10_goOutFrom 47 = .ok (.iload 5, 2) := dk_i kdX10_goOutFrom_23 14 rfl
theorem dX10_goOutFrom_49 : decode cX10_goOutFrom 49 = .ok (.ifCond .lt 25, 3) := dk_i kdX10_goOutFrom_23 15 rfl
def ldX10_goOutFrom_52 : List (Nat × ClassFile.Instr × Nat) := [(52, .aload_n 0, 1), (53, .getfield 15, 3), (56, .iload_n 3, 1), (57, .dup2, 1), (58, .iaload, 1), (59, .aload_n 1, 1), (60, .iload 4, 2), (62, .aload_n 0, 1), (63, .getfield 15, 3), (66, .iload 5, 2), (68, .iaload, 1), (69, .invokestatic 51, 3), (72, .ior, 1), (73, .iastore, 1), (74, .iinc 4 1, 3), (77, .goto (-50), 3)]
theorem kdX10_goOutFrom_52 : dkO cX10_goOutFrom 52 ldX10_goOutFrom_52 = true := by decide +kernel
theorem dX10_goOutFrom_52 : decode cX10_goOutFrom 52 = .ok (.aload_n 0, 1) := dk_i kdX10_goOutFrom_52 0 rfl
theorem dX10_goOutFrom_53 : decode cX10_goOutFrom 53 = .ok (.getfield 15, 3) := dk_i kdX10_goOutFrom_52 1 rfl
theorem dX10_goOutFrom_56 : decode cX10_goOutFrom 56 = .ok (.iload_n 3, 1) := dk_i kdX10_goOutFrom_52 2 rfl
theorem dX10_goOutFrom_57 : decode cX10_goOutFrom 57 = .ok (.dup2, 1) := dk_i kdX10_goOutFrom_52 3 rfl
theorem dX10_goOutFrom_58 : decode cX10_goOutFrom 58 = .ok (.iaload, 1) := dk_i kdX10_goOutFrom_52 4 rfl
theorem dX10_goOutFrom_59 : decode cX10_goOutFrom 59 = .ok (.aload_n 1, 1) := dk_i kdX10_goOutFrom_52 5 rfl
theorem dX10_goOutFrom_60 : decode cX10_goOutFrom 60 = .ok (.iload 4, 2) := dk_i kdX10_goOutFrom_52 6 rfl
theorem dX10_goOutFrom_62 : decode cX10_goOutFrom 62 = .ok (.aload_n 0, 1) := dk_i kdX10_goOutFrom_52 7 rfl
theorem dX10_goOutFrom_63 : decode cX10_goOutFrom 63 = .ok (.getfield 15, 3) := dk_i kdX10_goOutFrom_52 8 rfl
theorem dX10_goOutFrom_66 : decode cX10_goOutFrom 66 = .ok (.iload 5, 2) := dk_i kdX10_goOutFrom_52 9 rfl
theorem dX10_goOutFrom_68 : decode cX10_goOutFrom 68 = .ok (.iaload, 1) := dk_i kdX10_goOutFrom_52 10 rfl
theorem dX10_goOutFrom_69 : decode cX10_goOutFrom 69 = .ok (.invokestatic 51, 3) := dk_i kdX10_goOutFrom_52 11 rfl
theorem dX10_goOutFrom_72 : decode cX10_goOutFrom 72 = .ok (.ior, 1) := dk_i kdX10_goOutFrom_52 12 rfl
theorem dX10_goOutFrom_73 : decode cX10_goOutFrom 73 = .ok (.iastore, 1) := dk_i kdX10_goOutFrom_52 13 rfl
theorem dX10_goOutFrom_74 : decode cX10_goOutFrom 74 = .ok (.iinc 4 1, 3) := dk_i kdX10_goOutFrom_52 14 rfl
theorem dX10_goOutFrom_77 : decode cX10_goOutFrom 77 = .ok (.goto (-50), 3) := dk_i kdX10_goOutFrom_52 15 rfl
def ldX10_goOutFrom_80 : List (Nat × ClassFile.Instr × Nat) := [(80, .iinc 3 1, 3), (83, .goto (-72), 3), (86, .return_, 1)]
theorem kdX10_goOutFrom_80 : dkO cX10_goOutFrom 80 ldX10_goOutFrom_80 = true := by decide +kernel
theorem dX10_goOutFrom_80 : decode cX10_goOutFrom 80 = .ok (.iinc 3 1, 3) := dk_i kdX10_goOutFrom_80 0 rfl
theorem dX10_goOutFrom_83 : decode cX10_goOutFrom 83 = .ok (.goto (-72), 3) := dk_i kdX10_goOutFrom_80 1 rfl
theorem dX10_goOutFrom_86 : decode cX10_goOutFrom 86 = .ok (.return_, 1) := dk_i kdX10_goOutFrom_80 2 rfl
def ldX10_across_0 : List (Nat × ClassFile.Instr × Nat) := [(0, .aload_n 0, 1), (1, .getfield 28, 3), (4, .iload_n 1, 1), (5, .iaload, 1), (6, .istore_n 3, 1), (7, .aload_n 0, 1), (8, .getfield 31, 3), (11, .iload_n 1, 1), (12, .iaload, 1), (13, .istore 4, 2), (15, .iload_n 2, 1), (16, .iload_n 3, 1), (17, .ishr, 1), (18, .iconst 1, 1), (19, .iand, 1), (20, .iload 4, 2)]
theorem kdX10_across_0 : dkO cX10_across 0 ldX10_across_0 = true := by decide +kernel
theorem dX10_across_0 : decode cX10_across 0 = .ok (.aload_n 0, 1) := dk_i kdX10_across_0 0 rfl
theorem dX10_across_1 : decode cX10_across 1 = .ok (.getfield 28, 3) := dk_i kdX10_across_0 1 rfl
theorem dX10_across_4 : decode cX10_across 4 = .ok (.iload_n 1, 1) := dk_i kdX10_across_0 2 rfl
theorem dX10_across_5 : decode cX10_across 5 = .ok (.iaload, 1) := dk_i kdX10_across_0 3 rfl
theorem dX10_across_6 : decode cX10_across 6 = .ok (.istore_n 3, 1) := dk_i kdX10_across_0 4 rfl
theorem dX10_across_7 : decode cX10_across 7 = .ok (.aload_n 0, 1) := dk_i kdX10_across_0 5 rfl
theorem dX10_across_8 : decode cX10_across 8 = .ok (.getfield 31, 3) := dk_i kdX10_across_0 6 rfl
theorem dX10_across_11 : decode cX10_across 11 = .ok (.iload_n 1, 1) := dk_i kdX10_across_0 7 rfl
theorem dX10_across_12 : decode cX10_across 12 = .ok (.iaload, 1) := dk_i kdX10_across_0 8 rfl
theorem dX10_across_13 : decode cX10_across 13 = .ok (.istore 4, 2) := dk_i kdX10_across_0 9 rfl
theorem dX10_across_15 : decode cX10_across 15 = .ok (.iload_n 2, 1) := dk_i kdX10_across_0 10 rfl
theorem dX10_across_16 : decode cX10_across 16 = .ok (.iload_n 3, 1) := dk_i kdX10_across_0 11 rfl
theorem dX10_across_17 : decode cX10_across 17 = .ok (.ishr, 1) := dk_i kdX10_across_0 12 rfl
theorem dX10_across_18 : decode cX10_across 18 = .ok (.iconst 1, 1) := dk_i kdX10_across_0 13 rfl
theorem dX10_across_19 : decode cX10_across 19 = .ok (.iand, 1) := dk_i kdX10_across_0 14 rfl
theorem dX10_across_20 : decode cX10_across 20 = .ok (.iload 4, 2) := dk_i kdX10_across_0 15 rfl
def ldX10_across_22 : List (Nat × ClassFile.Instr × Nat) := [(22, .ishl, 1), (23, .iload_n 2, 1), (24, .iload 4, 2), (26, .ishr, 1), (27, .iconst 1, 1), (28, .iand, 1), (29, .iload_n 3, 1), (30, .ishl, 1), (31, .ior, 1), (32, .ireturn, 1)]
theorem kdX10_across_22 : dkO cX10_across 22 ldX10_across_22 = true := by decide +kernel
theorem dX10_across_22 : decode cX10_across 22 = .ok (.ishl, 1) := dk_i kdX10_across_22 0 rfl
theorem dX10_across_23 : decode cX10_across 23 = .ok (.iload_n 2, 1) := dk_i kdX10_across_22 1 rfl
theorem dX10_across_24 : decode cX10_across 24 = .ok (.iload 4, 2) := dk_i kdX10_across_22 2 rfl
theorem dX10_across_26 : decode cX10_across 26 = .ok (.ishr, 1) := dk_i kdX10_across_22 3 rfl
theorem dX10_across_27 : decode cX10_across 27 = .ok (.iconst 1, 1) := dk_i kdX10_across_22 4 rfl
theorem dX10_across_28 : decode cX10_across 28 = .ok (.iand, 1) := dk_i kdX10_across_22 5 rfl
theorem dX10_across_29 : decode cX10_across 29 = .ok (.iload_n 3, 1) := dk_i kdX10_across_22 6 rfl
theorem dX10_across_30 : decode cX10_across 30 = .ok (.ishl, 1) := dk_i kdX10_across_22 7 rfl
theorem dX10_across_31 : decode cX10_across 31 = .ok (.ior, 1) := dk_i kdX10_across_22 8 rfl
theorem dX10_across_32 : decode cX10_across 32 = .ok (.ireturn, 1) := dk_i kdX10_across_22 9 rfl
def ldX10_canBeAt_0 : List (Nat × ClassFile.Instr × Nat) := [(0, .iload_n 2, 1), (1, .ifCond .lt 27, 3), (4, .iload_n 2, 1), (5, .bipush 60, 2), (7, .if_icmp .gt 21, 3), (10, .aload_n 0, 1), (11, .getfield 15, 3), (14, .iload_n 2, 1), (15, .iaload, 1), (16, .iload_n 1, 1), (17, .ishr, 1), (18, .iconst 1, 1), (19, .iand, 1), (20, .iconst 1, 1), (21, .if_icmp .ne 7, 3), (24, .iconst 1, 1)]
theorem kdX10_canBeAt_0 : dkO cX10_canBeAt 0 ldX10_canBeAt_0 = true := by decide +kernel
theorem dX10_canBeAt_0 : decode cX10_canBeAt 0 = .ok (.iload_n 2, 1) := dk_i kdX10_canBeAt_0 0 rfl
theorem dX10_canBeAt_1 : decode cX10_canBeAt 1 = .ok (.ifCond .lt 27, 3) := dk_i kdX10_canBeAt_0 1 rfl
theorem dX10_canBeAt_4 : decode cX10_canBeAt 4 = .ok (.iload_n 2, 1) := dk_i kdX10_canBeAt_0 2 rfl
theorem dX10_canBeAt_5 : decode cX10_canBeAt 5 = .ok (.bipush 60, 2) := dk_i kdX10_canBeAt_0 3 rfl
theorem dX10_canBeAt_7 : decode cX10_canBeAt 7 = .ok (.if_icmp .gt 21, 3) := dk_i kdX10_canBeAt_0 4 rfl
theorem dX10_canBeAt_10 : decode cX10_canBeAt 10 = .ok (.aload_n 0, 1) := dk_i kdX10_canBeAt_0 5 rfl
theorem dX10_canBeAt_11 : decode cX10_canBeAt 11 = .ok (.getfield 15, 3) := dk_i kdX10_canBeAt_0 6 rfl
theorem dX10_canBeAt_14 : decode cX10_canBeAt 14 = .ok (.iload_n 2, 1) := dk_i kdX10_canBeAt_0 7 rfl
theorem dX10_canBeAt_15 : decode cX10_canBeAt 15 = .ok (.iaload, 1) := dk_i kdX10_canBeAt_0 8 rfl
theorem dX10_canBeAt_16 : decode cX10_canBeAt 16 = .ok (.iload_n 1, 1) := dk_i kdX10_canBeAt_0 9 rfl
theorem dX10_canBeAt_17 : decode cX10_canBeAt 17 = .ok (.ishr, 1) := dk_i kdX10_canBeAt_0 10 rfl
theorem dX10_canBeAt_18 : decode cX10_canBeAt 18 = .ok (.iconst 1, 1) := dk_i kdX10_canBeAt_0 11 rfl
theorem dX10_canBeAt_19 : decode cX10_canBeAt 19 = .ok (.iand, 1) := dk_i kdX10_canBeAt_0 12 rfl
theorem dX10_canBeAt_20 : decode cX10_canBeAt 20 = .ok (.iconst 1, 1) := dk_i kdX10_canBeAt_0 13 rfl
theorem dX10_canBeAt_21 : decode cX10_canBeAt 21 = .ok (.if_icmp .ne 7, 3) := dk_i kdX10_canBeAt_0 14 rfl
theorem dX10_canBeAt_24 : decode cX10_canBeAt 24 = .ok (.iconst 1, 1) := dk_i kdX10_canBeAt_0 15 rfl
def ldX10_canBeAt_25 : List (Nat × ClassFile.Instr × Nat) := [(25, .goto 4, 3), (28, .iconst 0, 1), (29, .ireturn, 1)]
theorem kdX10_canBeAt_25 : dkO cX10_canBeAt 25 ldX10_canBeAt_25 = true := by decide +kernel
theorem dX10_canBeAt_25 : decode cX10_canBeAt 25 = .ok (.goto 4, 3) := dk_i kdX10_canBeAt_25 0 rfl
theorem dX10_canBeAt_28 : decode cX10_canBeAt 28 = .ok (.iconst 0, 1) := dk_i kdX10_canBeAt_25 1 rfl
theorem dX10_canBeAt_29 : decode cX10_canBeAt 29 = .ok (.ireturn, 1) := dk_i kdX10_canBeAt_25 2 rfl
end
