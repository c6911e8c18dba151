section
def ldX6_init_0 : List (Nat × ClassFile.Instr × Nat) := [(0, .aload_n 0, 1), (1, .invokespecial 3, 3), (4, .aload_n 0, 1), (5, .iconst 0, 1), (6, .putfield 9, 3), (9, .aload_n 0, 1), (10, .iconst 5, 1), (11, .newarray .int, 2), (13, .putfield 15, 3), (16, .aload_n 0, 1), (17, .iconst 5, 1), (18, .newarray .int, 2), (20, .putfield 19, 3), (23, .aload_n 0, 1), (24, .bipush 6, 2), (26, .newarray .int, 2)]
theorem kdX6_init_0 : dkO cX6_init 0 ldX6_init_0 = true := by decide +kernel
theorem dX6_init_0 : decode cX6_init 0 = .ok (.aload_n 0, 1) := dk_i kdX6_init_0 0 rfl
theorem dX6_init_1 : decode cX6_init 1 = .ok (.invokespecial 3, 3) := dk_i kdX6_init_0 1 rfl
theorem dX6_init_4 : decode cX6_init 4 = .ok (.aload_n 0, 1) := dk_i kdX6_init_0 2 rfl
theorem dX6_init_5 : decode cX6_init 5 = .ok (.iconst 0, 1) := dk_i kdX6_init_0 3 rfl
theorem dX6_init_6 : decode cX6_init 6 = .ok (.putfield 9, 3) := dk_i kdX6_init_0 4 rfl
theorem dX6_init_9 : decode cX6_init 9 = .ok (.aload_n 0, 1) := dk_i kdX6_init_0 5 rfl
theorem dX6_init_10 : decode cX6_init 10 = .ok (.iconst 5, 1) := dk_i kdX6_init_0 6 rfl
theorem dX6_init_11 : decode cX6_init 11 = .ok (.newarray .int, 2) := dk_i kdX6_init_0 7 rfl
theorem dX6_init_13 : decode cX6_init 13 = .ok (.putfield 15, 3) := dk_i kdX6_init_0 8 rfl
theorem dX6_init_16 : decode cX6_init 16 = .ok (.aload_n 0, 1) := dk_i kdX6_init_0 9 rfl
theorem dX6_init_17 : decode cX6_init 17 = .ok (.iconst 5, 1) := dk_i kdX6_init_0 10 rfl
theorem dX6_init_18 : decode cX6_init 18 = .ok (.newarray .int, 2) := dk_i kdX6_init_0 11 rfl
theorem dX6_init_20 : decode cX6_init 20 = .ok (.putfield 19, 3) := dk_i kdX6_init_0 12 rfl
theorem dX6_init_23 : decode cX6_init 23 = .ok (.aload_n 0, 1) := dk_i kdX6_init_0 13 rfl
theorem dX6_init_24 : decode cX6_init 24 = .ok (.bipush 6, 2) := dk_i kdX6_init_0 14 rfl
theorem dX6_init_26 : decode cX6_init 26 = .ok (.newarray .int, 2) := dk_i kdX6_init_0 15 rfl
def ldX6_init_28 : List (Nat × ClassFile.Instr × Nat) := [(28, .putfield 22, 3), (31, .aload_n 0, 1), (32, .iconst 0, 1), (33, .putfield 25, 3), (36, .aload_n 0, 1), (37, .bipush 6, 2), (39, .newarray .int, 2), (41, .putfield 28, 3), (44, .aload_n 0, 1), (45, .bipush 6, 2), (47, .newarray .int, 2), (49, .putfield 31, 3), (52, .aload_n 0, 1), (53, .aload_n 1, 1), (54, .putfield 34, 3), (57, .return_, 1)]
theorem kdX6_init_28 : dkO cX6_init 28 ldX6_init_28 = true := by decide +kernel
theorem dX6_init_28 : decode cX6_init 28 = .ok (.putfield 22, 3) := dk_i kdX6_init_28 0 rfl
theorem dX6_init_31 : decode cX6_init 31 = .ok (.aload_n 0, 1) := dk_i kdX6_init_28 1 rfl
theorem dX6_init_32 : decode cX6_init 32 = .ok (.iconst 0, 1) := dk_i kdX6_init_28 2 rfl
theorem dX6_init_33 : decode cX6_init 33 = .ok (.putfield 25, 3) := dk_i kdX6_init_28 3 rfl
theorem dX6_init_36 : decode cX6_init 36 = .ok (.aload_n 0, 1) := dk_i kdX6_init_28 4 rfl
theorem dX6_init_37 : decode cX6_init 37 = .ok (.bipush 6, 2) := dk_i kdX6_init_28 5 rfl
theorem dX6_init_39 : decode cX6_init 39 = .ok (.newarray .int, 2) := dk_i kdX6_init_28 6 rfl
theorem dX6_init_41 : decode cX6_init 41 = .ok (.putfield 28, 3) := dk_i kdX6_init_28 7 rfl
theorem dX6_init_44 : decode cX6_init 44 = .ok (.aload_n 0, 1) := dk_i kdX6_init_28 8 rfl
theorem dX6_init_45 : decode cX6_init 45 = .ok (.bipush 6, 2) := dk_i kdX6_init_28 9 rfl
theorem dX6_init_47 : decode cX6_init 47 = .ok (.newarray .int, 2) := dk_i kdX6_init_28 10 rfl
theorem dX6_init_49 : decode cX6_init 49 = .ok (.putfield 31, 3) := dk_i kdX6_init_28 11 rfl
theorem dX6_init_52 : decode cX6_init 52 = .ok (.aload_n 0, 1) := dk_i kdX6_init_28 12 rfl
theorem dX6_init_53 : decode cX6_init 53 = .ok (.aload_n 1, 1) := dk_i kdX6_init_28 13 rfl
theorem dX6_init_54 : decode cX6_init 54 = .ok (.putfield 34, 3) := dk_i kdX6_init_28 14 rfl
theorem dX6_init_57 : decode cX6_init 57 = .ok (.return_, 1) := dk_i kdX6_init_28 15 rfl
def ldX6_begin_0 : List (Nat × ClassFile.Instr × Nat) := [(0, .aload_n 0, 1), (1, .aload_n 1, 1), (2, .putfield 34, 3), (5, .aload_n 0, 1), (6, .iconst 0, 1), (7, .putfield 9, 3), (10, .aload_n 0, 1), (11, .iconst 0, 1), (12, .putfield 25, 3), (15, .iconst 0, 1), (16, .istore_n 2, 1), (17, .iload_n 2, 1), (18, .aload_n 0, 1), (19, .getfield 34, 3), (22, .getfield 38, 3), (25, .if_icmp .ge 23, 3)]
theorem kdX6_begin_0 : dkO cX6_begin 0 ldX6_begin_0 = true := by decide +kernel
theorem dX6_begin_0 : decode cX6_begin 0 = .ok (.aload_n 0, 1) := dk_i kdX6_begin_0 0 rfl
theorem dX6_begin_1 : decode cX6_begin 1 = .ok (.aload_n 1, 1) := dk_i kdX6_begin_0 1 rfl
theorem dX6_begin_2 : decode cX6_begin 2 = .ok (.putfield 34, 3) := dk_i kdX6_begin_0 2 rfl
theorem dX6_begin_5 : decode cX6_begin 5 = .ok (.aload_n 0, 1) := dk_i kdX6_begin_0 3 rfl
theorem dX6_begin_6 : decode cX6_begin 6 = .ok (.iconst 0, 1) := dk_i kdX6_begin_0 4 rfl
theorem dX6_begin_7 : decode cX6_begin 7 = .ok (.putfield 9, 3) := dk_i kdX6_begin_0 5 rfl
theorem dX6_begin_10 : decode cX6_begin 10 = .ok (.aload_n 0, 1) := dk_i kdX6_begin_0 6 rfl
theorem dX6_begin_11 : decode cX6_begin 11 = .ok (.iconst 0, 1) := dk_i kdX6_begin_0 7 rfl
theorem dX6_begin_12 : decode cX6_begin 12 = .ok (.putfield 25, 3) := dk_i kdX6_begin_0 8 rfl
theorem dX6_begin_15 : decode cX6_begin 15 = .ok (.iconst 0, 1) := dk_i kdX6_begin_0 9 rfl
theorem dX6_begin_16 : decode cX6_begin 16 = .ok (.istore_n 2, 1) := dk_i kdX6_begin_0 10 rfl
theorem dX6_begin_17 : decode cX6_begin 17 = .ok (.iload_n 2, 1) := dk_i kdX6_begin_0 11 rfl
theorem dX6_begin_18 : decode cX6_begin 18 = .ok (.aload_n 0, 1) := dk_i kdX6_begin_0 12 rfl
theorem dX6_begin_19 : decode cX6_begin 19 = .ok (.getfield 34, 3) := dk_i kdX6_begin_0 13 rfl
theorem dX6_begin_22 : decode cX6_begin 22 = .ok (.getfield 38, 3) := dk_i kdX6_begin_0 14 rfl
theorem dX6_begin_25 : decode cX6_begin 25 = .ok (.if_icmp .ge 23, 3) := dk_i kdX6_begin_0 15 rfl
def ldX6_begin_28 : List (Nat × ClassFile.Instr × Nat) := [(28, .aload_n 0, 1), (29, .iload_n 2, 1), (30, .aload_n 0, 1), (31, .getfield 34, 3), (34, .getfield 43, 3), (37, .iload_n 2, 1), (38, .iaload, 1), (39, .invokevirtual 46, 3), (42, .iinc 2 1, 3), (45, .goto (-28), 3), (48, .iconst 0, 1), (49, .istore_n 2, 1), (50, .iload_n 2, 1), (51, .aload_n 0, 1), (52, .getfield 34, 3), (55, .getfield 50, 3)]
theorem kdX6_begin_28 : dkO cX6_begin 28 ldX6_begin_28 = true := by decide +kernel
theorem dX6_begin_28 : decode cX6_begin 28 = .ok (.aload_n 0, 1) := dk_i kdX6_begin_28 0 rfl
theorem dX6_begin_29 : decode cX6_begin 29 = .ok (.iload_n 2, 1) := dk_i kdX6_begin_28 1 rfl
theorem dX6_begin_30 : decode cX6_begin 30 = .ok (.aload_n 0, 1) := dk_i kdX6_begin_28 2 rfl
theorem dX6_begin_31 : decode cX6_begin 31 = .ok (.getfield 34, 3) := dk_i kdX6_begin_28 3 rfl
theorem dX6_begin_34 : decode cX6_begin 34 = .ok (.getfield 43, 3) := dk_i kdX6_begin_28 4 rfl
theorem dX6_begin_37 : decode cX6_begin 37 = .ok (.iload_n 2, 1) := dk_i kdX6_begin_28 5 rfl
theorem dX6_begin_38 : decode cX6_begin 38 = .ok (.iaload, 1) := dk_i kdX6_begin_28 6 rfl
theorem dX6_begin_39 : decode cX6_begin 39 = .ok (.invokevirtual 46, 3) := dk_i kdX6_begin_28 7 rfl
theorem dX6_begin_42 : decode cX6_begin 42 = .ok (.iinc 2 1, 3) := dk_i kdX6_begin_28 8 rfl
theorem dX6_begin_45 : decode cX6_begin 45 = .ok (.goto (-28), 3) := dk_i kdX6_begin_28 9 rfl
theorem dX6_begin_48 : decode cX6_begin 48 = .ok (.iconst 0, 1) := dk_i kdX6_begin_28 10 rfl
theorem dX6_begin_49 : decode cX6_begin 49 = .ok (.istore_n 2, 1) := dk_i kdX6_begin_28 11 rfl
theorem dX6_begin_50 : decode cX6_begin 50 = .ok (.iload_n 2, 1) := dk_i kdX6_begin_28 12 rfl
theorem dX6_begin_51 : decode cX6_begin 51 = .ok (.aload_n 0, 1) := dk_i kdX6_begin_28 13 rfl
theorem dX6_begin_52 : decode cX6_begin 52 = .ok (.getfield 34, 3) := dk_i kdX6_begin_28 14 rfl
theorem dX6_begin_55 : decode cX6_begin 55 = .ok (.getfield 50, 3) := dk_i kdX6_begin_28 15 rfl
def ldX6_begin_58 : List (Nat × ClassFile.Instr × Nat) := [(58, .if_icmp .ge 16, 3), (61, .aload_n 0, 1), (62, .getfield 22, 3), (65, .iload_n 2, 1), (66, .iconst 0, 1), (67, .iastore, 1), (68, .iinc 2 1, 3), (71, .goto (-21), 3), (74, .return_, 1)]
theorem kdX6_begin_58 : dkO cX6_begin 58 ldX6_begin_58 = true := by decide +kernel
theorem dX6_begin_58 : decode cX6_begin 58 = .ok (.if_icmp .ge 16, 3) := dk_i kdX6_begin_58 0 rfl
theorem dX6_begin_61 : decode cX6_begin 61 = .ok (.aload_n 0, 1) := dk_i kdX6_begin_58 1 rfl
theorem dX6_begin_62 : decode cX6_begin 62 = .ok (.getfield 22, 3) := dk_i kdX6_begin_58 2 rfl
theorem dX6_begin_65 : decode cX6_begin 65 = .ok (.iload_n 2, 1) := dk_i kdX6_begin_58 3 rfl
theorem dX6_begin_66 : decode cX6_begin 66 = .ok (.iconst 0, 1) := dk_i kdX6_begin_58 4 rfl
theorem dX6_begin_67 : decode cX6_begin 67 = .ok (.iastore, 1) := dk_i kdX6_begin_58 5 rfl
theorem dX6_begin_68 : decode cX6_begin 68 = .ok (.iinc 2 1, 3) := dk_i kdX6_begin_58 6 rfl
theorem dX6_begin_71 : decode cX6_begin 71 = .ok (.goto (-21), 3) := dk_i kdX6_begin_58 7 rfl
theorem dX6_begin_74 : decode cX6_begin 74 = .ok (.return_, 1) := dk_i kdX6_begin_58 8 rfl
def ldX6_countDone_0 : List (Nat × ClassFile.Instr × Nat) := [(0, .iconst 0, 1), (1, .istore_n 1, 1), (2, .iconst 0, 1), (3, .istore_n 2, 1), (4, .iload_n 2, 1), (5, .aload_n 0, 1), (6, .getfield 34, 3), (9, .getfield 50, 3), (12, .if_icmp .ge 18, 3), (15, .iload_n 1, 1), (16, .aload_n 0, 1), (17, .getfield 22, 3), (20, .iload_n 2, 1), (21, .iaload, 1), (22, .iadd, 1), (23, .istore_n 1, 1)]
theorem kdX6_countDone_0 : dkO cX6_countDone 0 ldX6_countDone_0 = true := by decide +kernel
theorem dX6_countDone_0 : decode cX6_countDone 0 = .ok (.iconst 0, 1) := dk_i kdX6_countDone_0 0 rfl
theorem dX6_countDone_1 : decode cX6_countDone 1 = .ok (.istore_n 1, 1) := dk_i kdX6_countDone_0 1 rfl
theorem dX6_countDone_2 : decode cX6_countDone 2 = .ok (.iconst 0, 1) := dk_i kdX6_countDone_0 2 rfl
theorem dX6_countDone_3 : decode cX6_countDone 3 = .ok (.istore_n 2, 1) := dk_i kdX6_countDone_0 3 rfl
theorem dX6_countDone_4 : decode cX6_countDone 4 = .ok (.iload_n 2, 1) := dk_i kdX6_countDone_0 4 rfl
theorem dX6_countDone_5 : decode cX6_countDone 5 = .ok (.aload_n 0, 1) := dk_i kdX6_countDone_0 5 rfl
theorem dX6_countDone_6 : decode cX6_countDone 6 = .ok (.getfield 34, 3) := dk_i kdX6_countDone_0 6 rfl
theorem dX6_countDone_9 : decode cX6_countDone 9 = .ok (.getfield 50, 3) := dk_i kdX6_countDone_0 7 rfl
theorem dX6_countDone_12 : decode cX6_countDone 12 = .ok (.if_icmp .ge 18, 3) := dk_i kdX6_countDone_0 8 rfl
theorem dX6_countDone_15 : decode cX6_countDone 15 = .ok (.iload_n 1, 1) := dk_i kdX6_countDone_0 9 rfl
theorem dX6_countDone_16 : decode cX6_countDone 16 = .ok (.aload_n 0, 1) := dk_i kdX6_countDone_0 10 rfl
theorem dX6_countDone_17 : decode cX6_countDone 17 = .ok (.getfield 22, 3) := dk_i kdX6_countDone_0 11 rfl
theorem dX6_countDone_20 : decode cX6_countDone 20 = .ok (.iload_n 2, 1) := dk_i kdX6_countDone_0 12 rfl
theorem dX6_countDone_21 : decode cX6_countDone 21 = .ok (.iaload, 1) := dk_i kdX6_countDone_0 13 rfl
theorem dX6_countDone_22 : decode cX6_countDone 22 = .ok (.iadd, 1) := dk_i kdX6_countDone_0 14 rfl
theorem dX6_countDone_23 : decode cX6_countDone 23 = .ok (.istore_n 1, 1) := dk_i kdX6_countDone_0 15 rfl
def ldX6_countDone_24 : List (Nat × ClassFile.Instr × Nat) := [(24, .iinc 2 1, 3), (27, .goto (-23), 3), (30, .iload_n 1, 1), (31, .ireturn, 1)]
theorem kdX6_countDone_24 : dkO cX6_countDone 24 ldX6_countDone_24 = true := by decide +kernel
theorem dX6_countDone_24 : decode cX6_countDone 24 = .ok (.iinc 2 1, 3) := dk_i kdX6_countDone_24 0 rfl
theorem dX6_countDone_27 : decode cX6_countDone 27 = .ok (.goto (-23), 3) := dk_i kdX6_countDone_24 1 rfl
theorem dX6_countDone_30 : decode cX6_countDone 30 = .ok (.iload_n 1, 1) := dk_i kdX6_countDone_24 2 rfl
theorem dX6_countDone_31 : decode cX6_countDone 31 = .ok (.ireturn, 1) := dk_i kdX6_countDone_24 3 rfl
def ldX6_countEmpty_0 : List (Nat × ClassFile.Instr × Nat) := [(0, .iconst 0, 1), (1, .istore_n 1, 1), (2, .iconst 0, 1), (3, .istore_n 2, 1), (4, .iload_n 2, 1), (5, .aload_n 0, 1), (6, .getfield 34, 3), (9, .getfield 38, 3), (12, .if_icmp .ge 22, 3), (15, .aload_n 0, 1), (16, .getfield 15, 3), (19, .iload_n 2, 1), (20, .iaload, 1), (21, .iconst (-1), 1), (22, .if_icmp .ne 6, 3), (25, .iinc 1 1, 3)]
theorem kdX6_countEmpty_0 : dkO cX6_countEmpty 0 ldX6_countEmpty_0 = true := by decide +kernel
theorem dX6_countEmpty_0 : decode cX6_countEmpty 0 = .ok (.iconst 0, 1) := dk_i kdX6_countEmpty_0 0 rfl
theorem dX6_countEmpty_1 : decode cX6_countEmpty 1 = .ok (.istore_n 1, 1) := dk_i kdX6_countEmpty_0 1 rfl
theorem dX6_countEmpty_2 : decode cX6_countEmpty 2 = .ok (.iconst 0, 1) := dk_i kdX6_countEmpty_0 2 rfl
theorem dX6_countEmpty_3 : decode cX6_countEmpty 3 = .ok (.istore_n 2, 1) := dk_i kdX6_countEmpty_0 3 rfl
theorem dX6_countEmpty_4 : decode cX6_countEmpty 4 = .ok (.iload_n 2, 1) := dk_i kdX6_countEmpty_0 4 rfl
theorem dX6_countEmpty_5 : decode cX6_countEmpty 5 = .ok (.aload_n 0, 1) := dk_i kdX6_countEmpty_0 5 rfl
theorem dX6_countEmpty_6 : decode cX6_countEmpty 6 = .ok (.getfield 34, 3) := dk_i kdX6_countEmpty_0 6 rfl
theorem dX6_countEmpty_9 : decode cX6_countEmpty 9 = .ok (.getfield 38, 3) := dk_i kdX6_countEmpty_0 7 rfl
theorem dX6_countEmpty_12 : decode cX6_countEmpty 12 = .ok (.if_icmp .ge 22, 3) := dk_i kdX6_countEmpty_0 8 rfl
theorem dX6_countEmpty_15 : decode cX6_countEmpty 15 = .ok (.aload_n 0, 1) := dk_i kdX6_countEmpty_0 9 rfl
theorem dX6_countEmpty_16 : decode cX6_countEmpty 16 = .ok (.getfield 15, 3) := dk_i kdX6_countEmpty_0 10 rfl
theorem dX6_countEmpty_19 : decode cX6_countEmpty 19 = .ok (.iload_n 2, 1) := dk_i kdX6_countEmpty_0 11 rfl
theorem dX6_countEmpty_20 : decode cX6_countEmpty 20 = .ok (.iaload, 1) := dk_i kdX6_countEmpty_0 12 rfl
theorem dX6_countEmpty_21 : decode cX6_countEmpty 21 = .ok (.iconst (-1), 1) := dk_i kdX6_countEmpty_0 13 rfl
theorem dX6_countEmpty_22 : decode cX6_countEmpty 22 = .ok (.if_icmp .ne 6, 3) := dk_i kdX6_countEmpty_0 14 rfl
theorem dX6_countEmpty_25 : decode cX6_countEmpty 25 = .ok (.iinc 1 1, 3) := dk_i kdX6_countEmpty_0 15 rfl
def ldX6_countEmpty_28 : List (Nat × ClassFile.Instr × Nat) := [(28, .iinc 2 1, 3), (31, .goto (-27), 3), (34, .iload_n 1, 1), (35, .ireturn, 1)]
theorem kdX6_countEmpty_28 : dkO cX6_countEmpty 28 ldX6_countEmpty_28 = true := by decide +kernel
theorem dX6_countEmpty_28 : decode cX6_countEmpty 28 = .ok (.iinc 2 1, 3) := dk_i kdX6_countEmpty_28 0 rfl
theorem dX6_countEmpty_31 : decode cX6_countEmpty 31 = .ok (.goto (-27), 3) := dk_i kdX6_countEmpty_28 1 rfl
theorem dX6_countEmpty_34 : decode cX6_countEmpty 34 = .ok (.iload_n 1, 1) := dk_i kdX6_countEmpty_28 2 rfl
theorem dX6_countEmpty_35 : decode cX6_countEmpty 35 = .ok (.ireturn, 1) := dk_i kdX6_countEmpty_28 3 rfl
def ldX6_put_0 : List (Nat × ClassFile.Instr × Nat) := [(0, .iload_n 1, 1), (1, .ifCond .lt 22, 3), (4, .iload_n 1, 1), (5, .iconst 5, 1), (6, .if_icmp .ge 17, 3), (9, .aload_n 0, 1), (10, .getfield 15, 3), (13, .iload_n 1, 1), (14, .iload_n 2, 1), (15, .iastore, 1), (16, .aload_n 0, 1), (17, .getfield 19, 3), (20, .iload_n 1, 1), (21, .iconst 0, 1), (22, .iastore, 1), (23, .return_, 1)]
theorem kdX6_put_0 : dkO cX6_put 0 ldX6_put_0 = true := by decide +kernel
theorem dX6_put_0 : decode cX6_put 0 = .ok (.iload_n 1, 1) := dk_i kdX6_put_0 0 rfl
theorem dX6_put_1 : decode cX6_put 1 = .ok (.ifCond .lt 22, 3) := dk_i kdX6_put_0 1 rfl
theorem dX6_put_4 : decode cX6_put 4 = .ok (.iload_n 1, 1) := dk_i kdX6_put_0 2 rfl
theorem dX6_put_5 : decode cX6_put 5 = .ok (.iconst 5, 1) := dk_i kdX6_put_0 3 rfl
theorem dX6_put_6 : decode cX6_put 6 = .ok (.if_icmp .ge 17, 3) := dk_i kdX6_put_0 4 rfl
theorem dX6_put_9 : decode cX6_put 9 = .ok (.aload_n 0, 1) := dk_i kdX6_put_0 5 rfl
theorem dX6_put_10 : decode cX6_put 10 = .ok (.getfield 15, 3) := dk_i kdX6_put_0 6 rfl
theorem dX6_put_13 : decode cX6_put 13 = .ok (.iload_n 1, 1) := dk_i kdX6_put_0 7 rfl
theorem dX6_put_14 : decode cX6_put 14 = .ok (.iload_n 2, 1) := dk_i kdX6_put_0 8 rfl
theorem dX6_put_15 : decode cX6_put 15 = .ok (.iastore, 1) := dk_i kdX6_put_0 9 rfl
theorem dX6_put_16 : decode cX6_put 16 = .ok (.aload_n 0, 1) := dk_i kdX6_put_0 10 rfl
theorem dX6_put_17 : decode cX6_put 17 = .ok (.getfield 19, 3) := dk_i kdX6_put_0 11 rfl
theorem dX6_put_20 : decode cX6_put 20 = .ok (.iload_n 1, 1) := dk_i kdX6_put_0 12 rfl
theorem dX6_put_21 : decode cX6_put 21 = .ok (.iconst 0, 1) := dk_i kdX6_put_0 13 rfl
theorem dX6_put_22 : decode cX6_put 22 = .ok (.iastore, 1) := dk_i kdX6_put_0 14 rfl
theorem dX6_put_23 : decode cX6_put 23 = .ok (.return_, 1) := dk_i kdX6_put_0 15 rfl
def ldX6_goOn_0 : List (Nat × ClassFile.Instr × Nat) := [(0, .iconst 0, 1), (1, .istore_n 2, 1), (2, .iload_n 2, 1), (3, .aload_n 0, 1), (4, .getfield 34, 3), (7, .getfield 38, 3), (10, .if_icmp .ge 54, 3), (13, .aload_n 1, 1), (14, .iload_n 2, 1), (15, .aload_n 0, 1), (16, .getfield 15, 3), (19, .iload_n 2, 1), (20, .iaload, 1), (21, .aload_n 0, 1), (22, .getfield 19, 3), (25, .iload_n 2, 1)]
theorem kdX6_goOn_0 : dkO cX6_goOn 0 ldX6_goOn_0 = true := by decide +kernel
theorem dX6_goOn_0 : decode cX6_goOn 0 = .ok (.iconst 0, 1) := dk_i kdX6_goOn_0 0 rfl
theorem dX6_goOn_1 : decode cX6_goOn 1 = .ok (.istore_n 2, 1) := dk_i kdX6_goOn_0 1 rfl
theorem dX6_goOn_2 : decode cX6_goOn 2 = .ok (.iload_n 2, 1) := dk_i kdX6_goOn_0 2 rfl
theorem dX6_goOn_3 : decode cX6_goOn 3 = .ok (.aload_n 0, 1) := dk_i kdX6_goOn_0 3 rfl
theorem dX6_goOn_4 : decode cX6_goOn 4 = .ok (.getfield 34, 3) := dk_i kdX6_goOn_0 4 rfl
theorem dX6_goOn_7 : decode cX6_goOn 7 = .ok (.getfield 38, 3) := dk_i kdX6_goOn_0 5 rfl
theorem dX6_goOn_10 : decode cX6_goOn 10 = .ok (.if_icmp .ge 54, 3) := dk_i kdX6_goOn_0 6 rfl
theorem dX6_goOn_13 : decode cX6_goOn 13 = .ok (.aload_n 1, 1) := dk_i kdX6_goOn_0 7 rfl
theorem dX6_goOn_14 : decode cX6_goOn 14 = .ok (.iload_n 2, 1) := dk_i kdX6_goOn_0 8 rfl
theorem dX6_goOn_15 : decode cX6_goOn 15 = .ok (.aload_n 0, 1) := dk_i kdX6_goOn_0 9 rfl
theorem dX6_goOn_16 : decode cX6_goOn 16 = .ok (.getfield 15, 3) := dk_i kdX6_goOn_0 10 rfl
theorem dX6_goOn_19 : decode cX6_goOn 19 = .ok (.iload_n 2, 1) := dk_i kdX6_goOn_0 11 rfl
theorem dX6_goOn_20 : decode cX6_goOn 20 = .ok (.iaload, 1) := dk_i kdX6_goOn_0 12 rfl
theorem dX6_goOn_21 : decode cX6_goOn 21 = .ok (.aload_n 0, 1) := dk_i kdX6_goOn_0 13 rfl
theorem dX6_goOn_22 : decode cX6_goOn 22 = .ok (.getfield 19, 3) := dk_i kdX6_goOn_0 14 rfl
theorem dX6_goOn_25 : decode cX6_goOn 25 = .ok (.iload_n 2, 1) := dk_i kdX6_goOn_0 15 rfl
def ldX6_goOn_26 : List (Nat × ClassFile.Instr × Nat) := [(26, .iaload, 1), (27, .aload_n 0, 1), (28, .getfield 9, 3), (31, .invokevirtual 53, 3), (34, .aload_n 1, 1), (35, .invokevirtual 59, 3), (38, .aload_n 0, 1), (39, .getfield 15, 3), (42, .iload_n 2, 1), (43, .aload_n 1, 1), (44, .getfield 62, 3), (47, .iastore, 1), (48, .aload_n 0, 1), (49, .getfield 19, 3), (52, .iload_n 2, 1), (53, .aload_n 1, 1)]
theorem kdX6_goOn_26 : dkO cX6_goOn 26 ldX6_goOn_26 = true := by decide +kernel
theorem dX6_goOn_26 : decode cX6_goOn 26 = .ok (.iaload, 1) := dk_i kdX6_goOn_26 0 rfl
theorem dX6_goOn_27 : decode cX6_goOn 27 = .ok (.aload_n 0, 1) := dk_i kdX6_goOn_26 1 rfl
theorem dX6_goOn_28 : decode cX6_goOn 28 = .ok (.getfield 9, 3) := dk_i kdX6_goOn_26 2 rfl
theorem dX6_goOn_31 : decode cX6_goOn 31 = .ok (.invokevirtual 53, 3) := dk_i kdX6_goOn_26 3 rfl
theorem dX6_goOn_34 : decode cX6_goOn 34 = .ok (.aload_n 1, 1) := dk_i kdX6_goOn_26 4 rfl
theorem dX6_goOn_35 : decode cX6_goOn 35 = .ok (.invokevirtual 59, 3) := dk_i kdX6_goOn_26 5 rfl
theorem dX6_goOn_38 : decode cX6_goOn 38 = .ok (.aload_n 0, 1) := dk_i kdX6_goOn_26 6 rfl
theorem dX6_goOn_39 : decode cX6_goOn 39 = .ok (.getfield 15, 3) := dk_i kdX6_goOn_26 7 rfl
theorem dX6_goOn_42 : decode cX6_goOn 42 = .ok (.iload_n 2, 1) := dk_i kdX6_goOn_26 8 rfl
theorem dX6_goOn_43 : decode cX6_goOn 43 = .ok (.aload_n 1, 1) := dk_i kdX6_goOn_26 9 rfl
theorem dX6_goOn_44 : decode cX6_goOn 44 = .ok (.getfield 62, 3) := dk_i kdX6_goOn_26 10 rfl
theorem dX6_goOn_47 : decode cX6_goOn 47 = .ok (.iastore, 1) := dk_i kdX6_goOn_26 11 rfl
theorem dX6_goOn_48 : decode cX6_goOn 48 = .ok (.aload_n 0, 1) := dk_i kdX6_goOn_26 12 rfl
theorem dX6_goOn_49 : decode cX6_goOn 49 = .ok (.getfield 19, 3) := dk_i kdX6_goOn_26 13 rfl
theorem dX6_goOn_52 : decode cX6_goOn 52 = .ok (.iload_n 2, 1) := dk_i kdX6_goOn_26 14 rfl
theorem dX6_goOn_53 : decode cX6_goOn 53 = .ok (.aload_n 1, 1) := dk_i kdX6_goOn_26 15 rfl
def ldX6_goOn_54 : List (Nat × ClassFile.Instr × Nat) := [(54, .getfield 65, 3), (57, .iastore, 1), (58, .iinc 2 1, 3), (61, .goto (-59), 3), (64, .aload_n 0, 1), (65, .sipush 9999, 3), (68, .aload_n 0, 1), (69, .getfield 9, 3), (72, .iconst 1, 1), (73, .iadd, 1), (74, .invokestatic 67, 3), (77, .putfield 9, 3), (80, .return_, 1)]
theorem kdX6_goOn_54 : dkO cX6_goOn 54 ldX6_goOn_54 = true := by decide +kernel
theorem dX6_goOn_54 : decode cX6_goOn 54 = .ok (.getfield 65, 3) := dk_i kdX6_goOn_54 0 rfl
theorem dX6_goOn_57 : decode cX6_goOn 57 = .ok (.iastore, 1) := dk_i kdX6_goOn_54 1 rfl
theorem dX6_goOn_58 : decode cX6_goOn 58 = .ok (.iinc 2 1, 3) := dk_i kdX6_goOn_54 2 rfl
theorem dX6_goOn_61 : decode cX6_goOn 61 = .ok (.goto (-59), 3) := dk_i kdX6_goOn_54 3 rfl
theorem dX6_goOn_64 : decode cX6_goOn 64 = .ok (.aload_n 0, 1) := dk_i kdX6_goOn_54 4 rfl
theorem dX6_goOn_65 : decode cX6_goOn 65 = .ok (.sipush 9999, 3) := dk_i kdX6_goOn_54 5 rfl
theorem dX6_goOn_68 : decode cX6_goOn 68 = .ok (.aload_n 0, 1) := dk_i kdX6_goOn_54 6 rfl
theorem dX6_goOn_69 : decode cX6_goOn 69 = .ok (.getfield 9, 3) := dk_i kdX6_goOn_54 7 rfl
theorem dX6_goOn_72 : decode cX6_goOn 72 = .ok (.iconst 1, 1) := dk_i kdX6_goOn_54 8 rfl
theorem dX6_goOn_73 : decode cX6_goOn 73 = .ok (.iadd, 1) := dk_i kdX6_goOn_54 9 rfl
theorem dX6_goOn_74 : decode cX6_goOn 74 = .ok (.invokestatic 67, 3) := dk_i kdX6_goOn_54 10 rfl
theorem dX6_goOn_77 : decode cX6_goOn 77 = .ok (.putfield 9, 3) := dk_i kdX6_goOn_54 11 rfl
theorem dX6_goOn_80 : decode cX6_goOn 80 = .ok (.return_, 1) := dk_i kdX6_goOn_54 12 rfl
def ldX6_doWhatIsDue_0 : List (Nat × ClassFile.Instr × Nat) := [(0, .iconst 0, 1), (1, .istore_n 2, 1), (2, .iconst 0, 1), (3, .istore_n 3, 1), (4, .iload_n 3, 1), (5, .aload_n 0, 1), (6, .getfield 34, 3), (9, .getfield 50, 3), (12, .if_icmp .ge 42, 3), (15, .aload_n 0, 1), (16, .getfield 22, 3), (19, .iload_n 3, 1), (20, .iaload, 1), (21, .ifCond .ne 27, 3), (24, .aload_n 0, 1), (25, .iload_n 3, 1)]
theorem kdX6_doWhatIsDue_0 : dkO cX6_doWhatIsDue 0 ldX6_doWhatIsDue_0 = true := by decide +kernel
theorem dX6_doWhatIsDue_0 : decode cX6_doWhatIsDue 0 = .ok (.iconst 0, 1) := dk_i kdX6_doWhatIsDue_0 0 rfl
theorem dX6_doWhatIsDue_1 : decode cX6_doWhatIsDue 1 = .ok (.istore_n 2, 1) := dk_i kdX6_doWhatIsDue_0 1 rfl
theorem dX6_doWhatIsDue_2 : decode cX6_doWhatIsDue 2 = .ok (.iconst 0, 1) := dk_i kdX6_doWhatIsDue_0 2 rfl
theorem dX6_doWhatIsDue_3 : decode cX6_doWhatIsDue 3 = .ok (.istore_n 3, 1) := dk_i kdX6_doWhatIsDue_0 3 rfl
theorem dX6_doWhatIsDue_4 : decode cX6_doWhatIsDue 4 = .ok (.iload_n 3, 1) := dk_i kdX6_doWhatIsDue_0 4 rfl
theorem dX6_doWhatIsDue_5 : decode cX6_doWhatIsDue 5 = .ok (.aload_n 0, 1) := dk_i kdX6_doWhatIsDue_0 5 rfl
theorem dX6_doWhatIsDue_6 : decode cX6_doWhatIsDue 6 = .ok (.getfield 34, 3) := dk_i kdX6_doWhatIsDue_0 6 rfl
theorem dX6_doWhatIsDue_9 : decode cX6_doWhatIsDue 9 = .ok (.getfield 50, 3) := dk_i kdX6_doWhatIsDue_0 7 rfl
theorem dX6_doWhatIsDue_12 : decode cX6_doWhatIsDue 12 = .ok (.if_icmp .ge 42, 3) := dk_i kdX6_doWhatIsDue_0 8 rfl
theorem dX6_doWhatIsDue_15 : decode cX6_doWhatIsDue 15 = .ok (.aload_n 0, 1) := dk_i kdX6_doWhatIsDue_0 9 rfl
theorem dX6_doWhatIsDue_16 : decode cX6_doWhatIsDue 16 = .ok (.getfield 22, 3) := dk_i kdX6_doWhatIsDue_0 10 rfl
theorem dX6_doWhatIsDue_19 : decode cX6_doWhatIsDue 19 = .ok (.iload_n 3, 1) := dk_i kdX6_doWhatIsDue_0 11 rfl
theorem dX6_doWhatIsDue_20 : decode cX6_doWhatIsDue 20 = .ok (.iaload, 1) := dk_i kdX6_doWhatIsDue_0 12 rfl
theorem dX6_doWhatIsDue_21 : decode cX6_doWhatIsDue 21 = .ok (.ifCond .ne 27, 3) := dk_i kdX6_doWhatIsDue_0 13 rfl
theorem dX6_doWhatIsDue_24 : decode cX6_doWhatIsDue 24 = .ok (.aload_n 0, 1) := dk_i kdX6_doWhatIsDue_0 14 rfl
theorem dX6_doWhatIsDue_25 : decode cX6_doWhatIsDue 25 = .ok (.iload_n 3, 1) := dk_i kdX6_doWhatIsDue_0 15 rfl
def ldX6_doWhatIsDue_26 : List (Nat × ClassFile.Instr × Nat) := [(26, .aload_n 1, 1), (27, .invokevirtual 73, 3), (30, .ifCond .eq 18, 3), (33, .aload_n 0, 1), (34, .getfield 22, 3), (37, .iload_n 3, 1), (38, .iconst 1, 1), (39, .iastore, 1), (40, .aload_n 0, 1), (41, .iload_n 3, 1), (42, .invokevirtual 77, 3), (45, .iinc 2 1, 3), (48, .iinc 3 1, 3), (51, .goto (-47), 3), (54, .iload_n 2, 1), (55, .ireturn, 1)]
theorem kdX6_doWhatIsDue_26 : dkO cX6_doWhatIsDue 26 ldX6_doWhatIsDue_26 = true := by decide +kernel
theorem dX6_doWhatIsDue_26 : decode cX6_doWhatIsDue 26 = .ok (.aload_n 1, 1) := dk_i kdX6_doWhatIsDue_26 0 rfl
theorem dX6_doWhatIsDue_27 : decode cX6_doWhatIsDue 27 = .ok (.invokevirtual 73, 3) := dk_i kdX6_doWhatIsDue_26 1 rfl
theorem dX6_doWhatIsDue_30 : decode cX6_doWhatIsDue 30 = .ok (.ifCond .eq 18, 3) := dk_i kdX6_doWhatIsDue_26 2 rfl
theorem dX6_doWhatIsDue_33 : decode cX6_doWhatIsDue 33 = .ok (.aload_n 0, 1) := dk_i kdX6_doWhatIsDue_26 3 rfl
theorem dX6_doWhatIsDue_34 : decode cX6_doWhatIsDue 34 = .ok (.getfield 22, 3) := dk_i kdX6_doWhatIsDue_26 4 rfl
theorem dX6_doWhatIsDue_37 : decode cX6_doWhatIsDue 37 = .ok (.iload_n 3, 1) := dk_i kdX6_doWhatIsDue_26 5 rfl
theorem dX6_doWhatIsDue_38 : decode cX6_doWhatIsDue 38 = .ok (.iconst 1, 1) := dk_i kdX6_doWhatIsDue_26 6 rfl
theorem dX6_doWhatIsDue_39 : decode cX6_doWhatIsDue 39 = .ok (.iastore, 1) := dk_i kdX6_doWhatIsDue_26 7 rfl
theorem dX6_doWhatIsDue_40 : decode cX6_doWhatIsDue 40 = .ok (.aload_n 0, 1) := dk_i kdX6_doWhatIsDue_26 8 rfl
theorem dX6_doWhatIsDue_41 : decode cX6_doWhatIsDue 41 = .ok (.iload_n 3, 1) := dk_i kdX6_doWhatIsDue_26 9 rfl
theorem dX6_doWhatIsDue_42 : decode cX6_doWhatIsDue 42 = .ok (.invokevirtual 77, 3) := dk_i kdX6_doWhatIsDue_26 10 rfl
theorem dX6_doWhatIsDue_45 : decode cX6_doWhatIsDue 45 = .ok (.iinc 2 1, 3) := dk_i kdX6_doWhatIsDue_26 11 rfl
theorem dX6_doWhatIsDue_48 : decode cX6_doWhatIsDue 48 = .ok (.iinc 3 1, 3) := dk_i kdX6_doWhatIsDue_26 12 rfl
theorem dX6_doWhatIsDue_51 : decode cX6_doWhatIsDue 51 = .ok (.goto (-47), 3) := dk_i kdX6_doWhatIsDue_26 13 rfl
theorem dX6_doWhatIsDue_54 : decode cX6_doWhatIsDue 54 = .ok (.iload_n 2, 1) := dk_i kdX6_doWhatIsDue_26 14 rfl
theorem dX6_doWhatIsDue_55 : decode cX6_doWhatIsDue 55 = .ok (.ireturn, 1) := dk_i kdX6_doWhatIsDue_26 15 rfl
def ldX6_isDue_0 : List (Nat × ClassFile.Instr × Nat) := [(0, .aload_n 0, 1), (1, .getfield 34, 3), (4, .getfield 81, 3), (7, .iload_n 1, 1), (8, .iaload, 1), (9, .istore_n 3, 1), (10, .aload_n 2, 1), (11, .iload_n 3, 1), (12, .aload_n 0, 1), (13, .getfield 15, 3), (16, .iload_n 3, 1), (17, .iaload, 1), (18, .aload_n 0, 1), (19, .getfield 19, 3), (22, .iload_n 3, 1), (23, .iaload, 1)]
theorem kdX6_isDue_0 : dkO cX6_isDue 0 ldX6_isDue_0 = true := by decide +kernel
theorem dX6_isDue_0 : decode cX6_isDue 0 = .ok (.aload_n 0, 1) := dk_i kdX6_isDue_0 0 rfl
theorem dX6_isDue_1 : decode cX6_isDue 1 = .ok (.getfield 34, 3) := dk_i kdX6_isDue_0 1 rfl
theorem dX6_isDue_4 : decode cX6_isDue 4 = .ok (.getfield 81, 3) := dk_i kdX6_isDue_0 2 rfl
theorem dX6_isDue_7 : decode cX6_isDue 7 = .ok (.iload_n 1, 1) := dk_i kdX6_isDue_0 3 rfl
theorem dX6_isDue_8 : decode cX6_isDue 8 = .ok (.iaload, 1) := dk_i kdX6_isDue_0 4 rfl
theorem dX6_isDue_9 : decode cX6_isDue 9 = .ok (.istore_n 3, 1) := dk_i kdX6_isDue_0 5 rfl
theorem dX6_isDue_10 : decode cX6_isDue 10 = .ok (.aload_n 2, 1) := dk_i kdX6_isDue_0 6 rfl
theorem dX6_isDue_11 : decode cX6_isDue 11 = .ok (.iload_n 3, 1) := dk_i kdX6_isDue_0 7 rfl
theorem dX6_isDue_12 : decode cX6_isDue 12 = .ok (.aload_n 0, 1) := dk_i kdX6_isDue_0 8 rfl
theorem dX6_isDue_13 : decode cX6_isDue 13 = .ok (.getfield 15, 3) := dk_i kdX6_isDue_0 9 rfl
theorem dX6_isDue_16 : decode cX6_isDue 16 = .ok (.iload_n 3, 1) := dk_i kdX6_isDue_0 10 rfl
theorem dX6_isDue_17 : decode cX6_isDue 17 = .ok (.iaload, 1) := dk_i kdX6_isDue_0 11 rfl
theorem dX6_isDue_18 : decode cX6_isDue 18 = .ok (.aload_n 0, 1) := dk_i kdX6_isDue_0 12 rfl
theorem dX6_isDue_19 : decode cX6_isDue 19 = .ok (.getfield 19, 3) := dk_i kdX6_isDue_0 13 rfl
theorem dX6_isDue_22 : decode cX6_isDue 22 = .ok (.iload_n 3, 1) := dk_i kdX6_isDue_0 14 rfl
theorem dX6_isDue_23 : decode cX6_isDue 23 = .ok (.iaload, 1) := dk_i kdX6_isDue_0 15 rfl
def ldX6_isDue_24 : List (Nat × ClassFile.Instr × Nat) := [(24, .aload_n 0, 1), (25, .getfield 9, 3), (28, .invokevirtual 53, 3), (31, .aload_n 2, 1), (32, .invokevirtual 84, 3), (35, .aload_n 0, 1), (36, .getfield 34, 3), (39, .getfield 88, 3), (42, .iload_n 1, 1), (43, .iaload, 1), (44, .if_icmp .ne 7, 3), (47, .iconst 1, 1), (48, .goto 4, 3), (51, .iconst 0, 1), (52, .ireturn, 1)]
theorem kdX6_isDue_24 : dkO cX6_isDue 24 ldX6_isDue_24 = true := by decide +kernel
theorem dX6_isDue_24 : decode cX6_isDue 24 = .ok (.aload_n 0, 1) := dk_i kdX6_isDue_24 0 rfl
theorem dX6_isDue_25 : decode cX6_isDue 25 = .ok (.getfield 9, 3) := dk_i kdX6_isDue_24 1 rfl
theorem dX6_isDue_28 : decode cX6_isDue 28 = .ok (.invokevirtual 53, 3) := dk_i kdX6_isDue_24 2 rfl
theorem dX6_isDue_31 : decode cX6_isDue 31 = .ok (.aload_n 2, 1) := dk_i kdX6_isDue_24 3 rfl
theorem dX6_isDue_32 : decode cX6_isDue 32 = .ok (.invokevirtual 84, 3) := dk_i kdX6_isDue_24 4 rfl
theorem dX6_isDue_35 : decode cX6_isDue 35 = .ok (.aload_n 0, 1) := dk_i kdX6_isDue_24 5 rfl
theorem dX6_isDue_36 : decode cX6_isDue 36 = .ok (.getfield 34, 3) := dk_i kdX6_isDue_24 6 rfl
theorem dX6_isDue_39 : decode cX6_isDue 39 = .ok (.getfield 88, 3) := dk_i kdX6_isDue_24 7 rfl
theorem dX6_isDue_42 : decode cX6_isDue 42 = .ok (.iload_n 1, 1) := dk_i kdX6_isDue_24 8 rfl
theorem dX6_isDue_43 : decode cX6_isDue 43 = .ok (.iaload, 1) := dk_i kdX6_isDue_24 9 rfl
theorem dX6_isDue_44 : decode cX6_isDue 44 = .ok (.if_icmp .ne 7, 3) := dk_i kdX6_isDue_24 10 rfl
theorem dX6_isDue_47 : decode cX6_isDue 47 = .ok (.iconst 1, 1) := dk_i kdX6_isDue_24 11 rfl
theorem dX6_isDue_48 : decode cX6_isDue 48 = .ok (.goto 4, 3) := dk_i kdX6_isDue_24 12 rfl
theorem dX6_isDue_51 : decode cX6_isDue 51 = .ok (.iconst 0, 1) := dk_i kdX6_isDue_24 13 rfl
theorem dX6_isDue_52 : decode cX6_isDue 52 = .ok (.ireturn, 1) := dk_i kdX6_isDue_24 14 rfl
def ldX6_keep_0 : List (Nat × ClassFile.Instr × Nat) := [(0, .aload_n 0, 1), (1, .getfield 25, 3), (4, .bipush 6, 2), (6, .if_icmp .ge 36, 3), (9, .aload_n 0, 1), (10, .getfield 28, 3), (13, .aload_n 0, 1), (14, .getfield 25, 3), (17, .aload_n 0, 1), (18, .getfield 9, 3), (21, .iastore, 1), (22, .aload_n 0, 1), (23, .getfield 31, 3), (26, .aload_n 0, 1), (27, .getfield 25, 3), (30, .iload_n 1, 1)]
theorem kdX6_keep_0 : dkO cX6_keep 0 ldX6_keep_0 = true := by decide +kernel
theorem dX6_keep_0 : decode cX6_keep 0 = .ok (.aload_n 0, 1) := dk_i kdX6_keep_0 0 rfl
theorem dX6_keep_1 : decode cX6_keep 1 = .ok (.getfield 25, 3) := dk_i kdX6_keep_0 1 rfl
theorem dX6_keep_4 : decode cX6_keep 4 = .ok (.bipush 6, 2) := dk_i kdX6_keep_0 2 rfl
theorem dX6_keep_6 : decode cX6_keep 6 = .ok (.if_icmp .ge 36, 3) := dk_i kdX6_keep_0 3 rfl
theorem dX6_keep_9 : decode cX6_keep 9 = .ok (.aload_n 0, 1) := dk_i kdX6_keep_0 4 rfl
theorem dX6_keep_10 : decode cX6_keep 10 = .ok (.getfield 28, 3) := dk_i kdX6_keep_0 5 rfl
theorem dX6_keep_13 : decode cX6_keep 13 = .ok (.aload_n 0, 1) := dk_i kdX6_keep_0 6 rfl
theorem dX6_keep_14 : decode cX6_keep 14 = .ok (.getfield 25, 3) := dk_i kdX6_keep_0 7 rfl
theorem dX6_keep_17 : decode cX6_keep 17 = .ok (.aload_n 0, 1) := dk_i kdX6_keep_0 8 rfl
theorem dX6_keep_18 : decode cX6_keep 18 = .ok (.getfield 9, 3) := dk_i kdX6_keep_0 9 rfl
theorem dX6_keep_21 : decode cX6_keep 21 = .ok (.iastore, 1) := dk_i kdX6_keep_0 10 rfl
theorem dX6_keep_22 : decode cX6_keep 22 = .ok (.aload_n 0, 1) := dk_i kdX6_keep_0 11 rfl
theorem dX6_keep_23 : decode cX6_keep 23 = .ok (.getfield 31, 3) := dk_i kdX6_keep_0 12 rfl
theorem dX6_keep_26 : decode cX6_keep 26 = .ok (.aload_n 0, 1) := dk_i kdX6_keep_0 13 rfl
theorem dX6_keep_27 : decode cX6_keep 27 = .ok (.getfield 25, 3) := dk_i kdX6_keep_0 14 rfl
theorem dX6_keep_30 : decode cX6_keep 30 = .ok (.iload_n 1, 1) := dk_i kdX6_keep_0 15 rfl
def ldX6_keep_31 : List (Nat × ClassFile.Instr × Nat) := [(31, .iastore, 1), (32, .aload_n 0, 1), (33, .dup, 1), (34, .getfield 25, 3), (37, .iconst 1, 1), (38, .iadd, 1), (39, .putfield 25, 3), (42, .return_, 1)]
theorem kdX6_keep_31 : dkO cX6_keep 31 ldX6_keep_31 = true := by decide +kernel
theorem dX6_keep_31 : decode cX6_keep 31 = .ok (.iastore, 1) := dk_i kdX6_keep_31 0 rfl
theorem dX6_keep_32 : decode cX6_keep 32 = .ok (.aload_n 0, 1) := dk_i kdX6_keep_31 1 rfl
theorem dX6_keep_33 : decode cX6_keep 33 = .ok (.dup, 1) := dk_i kdX6_keep_31 2 rfl
theorem dX6_keep_34 : decode cX6_keep 34 = .ok (.getfield 25, 3) := dk_i kdX6_keep_31 3 rfl
theorem dX6_keep_37 : decode cX6_keep 37 = .ok (.iconst 1, 1) := dk_i kdX6_keep_31 4 rfl
theorem dX6_keep_38 : decode cX6_keep 38 = .ok (.iadd, 1) := dk_i kdX6_keep_31 5 rfl
theorem dX6_keep_39 : decode cX6_keep 39 = .ok (.putfield 25, 3) := dk_i kdX6_keep_31 6 rfl
theorem dX6_keep_42 : decode cX6_keep 42 = .ok (.return_, 1) := dk_i kdX6_keep_31 7 rfl
def ldX6_save_0 : List (Nat × ClassFile.Instr × Nat) := [(0, .aload_n 1, 1), (1, .arraylength, 1), (2, .bipush 18, 2), (4, .if_icmp .ge 4, 3), (7, .return_, 1), (8, .aload_n 1, 1), (9, .iconst 0, 1), (10, .aload_n 0, 1), (11, .getfield 9, 3), (14, .iastore, 1), (15, .aload_n 1, 1), (16, .iconst 1, 1), (17, .aload_n 0, 1), (18, .getfield 25, 3), (21, .iastore, 1), (22, .aload_n 0, 1)]
theorem kdX6_save_0 : dkO cX6_save 0 ldX6_save_0 = true := by decide +kernel
theorem dX6_save_0 : decode cX6_save 0 = .ok (.aload_n 1, 1) := dk_i kdX6_save_0 0 rfl
theorem dX6_save_1 : decode cX6_save 1 = .ok (.arraylength, 1) := dk_i kdX6_save_0 1 rfl
theorem dX6_save_2 : decode cX6_save 2 = .ok (.bipush 18, 2) := dk_i kdX6_save_0 2 rfl
theorem dX6_save_4 : decode cX6_save 4 = .ok (.if_icmp .ge 4, 3) := dk_i kdX6_save_0 3 rfl
theorem dX6_save_7 : decode cX6_save 7 = .ok (.return_, 1) := dk_i kdX6_save_0 4 rfl
theorem dX6_save_8 : decode cX6_save 8 = .ok (.aload_n 1, 1) := dk_i kdX6_save_0 5 rfl
theorem dX6_save_9 : decode cX6_save 9 = .ok (.iconst 0, 1) := dk_i kdX6_save_0 6 rfl
theorem dX6_save_10 : decode cX6_save 10 = .ok (.aload_n 0, 1) := dk_i kdX6_save_0 7 rfl
theorem dX6_save_11 : decode cX6_save 11 = .ok (.getfield 9, 3) := dk_i kdX6_save_0 8 rfl
theorem dX6_save_14 : decode cX6_save 14 = .ok (.iastore, 1) := dk_i kdX6_save_0 9 rfl
theorem dX6_save_15 : decode cX6_save 15 = .ok (.aload_n 1, 1) := dk_i kdX6_save_0 10 rfl
theorem dX6_save_16 : decode cX6_save 16 = .ok (.iconst 1, 1) := dk_i kdX6_save_0 11 rfl
theorem dX6_save_17 : decode cX6_save 17 = .ok (.aload_n 0, 1) := dk_i kdX6_save_0 12 rfl
theorem dX6_save_18 : decode cX6_save 18 = .ok (.getfield 25, 3) := dk_i kdX6_save_0 13 rfl
theorem dX6_save_21 : decode cX6_save 21 = .ok (.iastore, 1) := dk_i kdX6_save_0 14 rfl
theorem dX6_save_22 : decode cX6_save 22 = .ok (.aload_n 0, 1) := dk_i kdX6_save_0 15 rfl
def ldX6_save_23 : List (Nat × ClassFile.Instr × Nat) := [(23, .getfield 15, 3), (26, .iconst 0, 1), (27, .aload_n 1, 1), (28, .iconst 2, 1), (29, .iconst 5, 1), (30, .invokestatic 91, 3), (33, .aload_n 0, 1), (34, .getfield 19, 3), (37, .iconst 0, 1), (38, .aload_n 1, 1), (39, .bipush 7, 2), (41, .iconst 5, 1), (42, .invokestatic 91, 3), (45, .aload_n 0, 1), (46, .getfield 22, 3), (49, .iconst 0, 1)]
theorem kdX6_save_23 : dkO cX6_save 23 ldX6_save_23 = true := by decide +kernel
theorem dX6_save_23 : decode cX6_save 23 = .ok (.getfield 15, 3) := dk_i kdX6_save_23 0 rfl
theorem dX6_save_26 : decode cX6_save 26 = .ok (.iconst 0, 1) := dk_i kdX6_save_23 1 rfl
theorem dX6_save_27 : decode cX6_save 27 = .ok (.aload_n 1, 1) := dk_i kdX6_save_23 2 rfl
theorem dX6_save_28 : decode cX6_save 28 = .ok (.iconst 2, 1) := dk_i kdX6_save_23 3 rfl
theorem dX6_save_29 : decode cX6_save 29 = .ok (.iconst 5, 1) := dk_i kdX6_save_23 4 rfl
theorem dX6_save_30 : decode cX6_save 30 = .ok (.invokestatic 91, 3) := dk_i kdX6_save_23 5 rfl
theorem dX6_save_33 : decode cX6_save 33 = .ok (.aload_n 0, 1) := dk_i kdX6_save_23 6 rfl
theorem dX6_save_34 : decode cX6_save 34 = .ok (.getfield 19, 3) := dk_i kdX6_save_23 7 rfl
theorem dX6_save_37 : decode cX6_save 37 = .ok (.iconst 0, 1) := dk_i kdX6_save_23 8 rfl
theorem dX6_save_38 : decode cX6_save 38 = .ok (.aload_n 1, 1) := dk_i kdX6_save_23 9 rfl
theorem dX6_save_39 : decode cX6_save 39 = .ok (.bipush 7, 2) := dk_i kdX6_save_23 10 rfl
theorem dX6_save_41 : decode cX6_save 41 = .ok (.iconst 5, 1) := dk_i kdX6_save_23 11 rfl
theorem dX6_save_42 : decode cX6_save 42 = .ok (.invokestatic 91, 3) := dk_i kdX6_save_23 12 rfl
theorem dX6_save_45 : decode cX6_save 45 = .ok (.aload_n 0, 1) := dk_i kdX6_save_23 13 rfl
theorem dX6_save_46 : decode cX6_save 46 = .ok (.getfield 22, 3) := dk_i kdX6_save_23 14 rfl
theorem dX6_save_49 : decode cX6_save 49 = .ok (.iconst 0, 1) := dk_i kdX6_save_23 15 rfl
def ldX6_save_50 : List (Nat × ClassFile.Instr × Nat) := [(50, .aload_n 1, 1), (51, .bipush 12, 2), (53, .bipush 6, 2), (55, .invokestatic 91, 3), (58, .return_, 1)]
theorem kdX6_save_50 : dkO cX6_save 50 ldX6_save_50 = true := by decide +kernel
theorem dX6_save_50 : decode cX6_save 50 = .ok (.aload_n 1, 1) := dk_i kdX6_save_50 0 rfl
theorem dX6_save_51 : decode cX6_save 51 = .ok (.bipush 12, 2) := dk_i kdX6_save_50 1 rfl
theorem dX6_save_53 : decode cX6_save 53 = .ok (.bipush 6, 2) := dk_i kdX6_save_50 2 rfl
theorem dX6_save_55 : decode cX6_save 55 = .ok (.invokestatic 91, 3) := dk_i kdX6_save_50 3 rfl
theorem dX6_save_58 : decode cX6_save 58 = .ok (.return_, 1) := dk_i kdX6_save_50 4 rfl
def ldX6_bringBack_0 : List (Nat × ClassFile.Instr × Nat) := [(0, .aload_n 1, 1), (1, .arraylength, 1), (2, .bipush 18, 2), (4, .if_icmp .ge 4, 3), (7, .return_, 1), (8, .aload_n 0, 1), (9, .aload_n 1, 1), (10, .iconst 0, 1), (11, .iaload, 1), (12, .putfield 9, 3), (15, .aload_n 0, 1), (16, .aload_n 1, 1), (17, .iconst 1, 1), (18, .iaload, 1), (19, .putfield 25, 3), (22, .aload_n 1, 1)]
theorem kdX6_bringBack_0 : dkO cX6_bringBack 0 ldX6_bringBack_0 = true := by decide +kernel
theorem dX6_bringBack_0 : decode cX6_bringBack 0 = .ok (.aload_n 1, 1) := dk_i kdX6_bringBack_0 0 rfl
theorem dX6_bringBack_1 : decode cX6_bringBack 1 = .ok (.arraylength, 1) := dk_i kdX6_bringBack_0 1 rfl
theorem dX6_bringBack_2 : decode cX6_bringBack 2 = .ok (.bipush 18, 2) := dk_i kdX6_bringBack_0 2 rfl
theorem dX6_bringBack_4 : decode cX6_bringBack 4 = .ok (.if_icmp .ge 4, 3) := dk_i kdX6_bringBack_0 3 rfl
theorem dX6_bringBack_7 : decode cX6_bringBack 7 = .ok (.return_, 1) := dk_i kdX6_bringBack_0 4 rfl
theorem dX6_bringBack_8 : decode cX6_bringBack 8 = .ok (.aload_n 0, 1) := dk_i kdX6_bringBack_0 5 rfl
theorem dX6_bringBack_9 : decode cX6_bringBack 9 = .ok (.aload_n 1, 1) := dk_i kdX6_bringBack_0 6 rfl
theorem dX6_bringBack_10 : decode cX6_bringBack 10 = .ok (.iconst 0, 1) := dk_i kdX6_bringBack_0 7 rfl
theorem dX6_bringBack_11 : decode cX6_bringBack 11 = .ok (.iaload, 1) := dk_i kdX6_bringBack_0 8 rfl
theorem dX6_bringBack_12 : decode cX6_bringBack 12 = .ok (.putfield 9, 3) := dk_i kdX6_bringBack_0 9 rfl
theorem dX6_bringBack_15 : decode cX6_bringBack 15 = .ok (.aload_n 0, 1) := dk_i kdX6_bringBack_0 10 rfl
theorem dX6_bringBack_16 : decode cX6_bringBack 16 = .ok (.aload_n 1, 1) := dk_i kdX6_bringBack_0 11 rfl
theorem dX6_bringBack_17 : decode cX6_bringBack 17 = .ok (.iconst 1, 1) := dk_i kdX6_bringBack_0 12 rfl
theorem dX6_bringBack_18 : decode cX6_bringBack 18 = .ok (.iaload, 1) := dk_i kdX6_bringBack_0 13 rfl
theorem dX6_bringBack_19 : decode cX6_bringBack 19 = .ok (.putfield 25, 3) := dk_i kdX6_bringBack_0 14 rfl
theorem dX6_bringBack_22 : decode cX6_bringBack 22 = .ok (.aload_n 1, 1) := dk_i kdX6_bringBack_0 15 rfl
def ldX6_bringBack_23 : List (Nat × ClassFile.Instr × Nat) := [(23, .iconst 2, 1), (24, .aload_n 0, 1), (25, .getfield 15, 3), (28, .iconst 0, 1), (29, .iconst 5, 1), (30, .invokestatic 91, 3), (33, .aload_n 1, 1), (34, .bipush 7, 2), (36, .aload_n 0, 1), (37, .getfield 19, 3), (40, .iconst 0, 1), (41, .iconst 5, 1), (42, .invokestatic 91, 3), (45, .aload_n 1, 1), (46, .bipush 12, 2), (48, .aload_n 0, 1)]
theorem kdX6_bringBack_23 : dkO cX6_bringBack 23 ldX6_bringBack_23 = true := by decide +kernel
theorem dX6_bringBack_23 : decode cX6_bringBack 23 = .ok (.iconst 2, 1) := dk_i kdX6_bringBack_23 0 rfl
theorem dX6_bringBack_24 : decode cX6_bringBack 24 = .ok (.aload_n 0, 1) := dk_i kdX6_bringBack_23 1 rfl
theorem dX6_bringBack_25 : decode cX6_bringBack 25 = .ok (.getfield 15, 3) := dk_i kdX6_bringBack_23 2 rfl
theorem dX6_bringBack_28 : decode cX6_bringBack 28 = .ok (.iconst 0, 1) := dk_i kdX6_bringBack_23 3 rfl
theorem dX6_bringBack_29 : decode cX6_bringBack 29 = .ok (.iconst 5, 1) := dk_i kdX6_bringBack_23 4 rfl
theorem dX6_bringBack_30 : decode cX6_bringBack 30 = .ok (.invokestatic 91, 3) := dk_i kdX6_bringBack_23 5 rfl
theorem dX6_bringBack_33 : decode cX6_bringBack 33 = .ok (.aload_n 1, 1) := dk_i kdX6_bringBack_23 6 rfl
theorem dX6_bringBack_34 : decode cX6_bringBack 34 = .ok (.bipush 7, 2) := dk_i kdX6_bringBack_23 7 rfl
theorem dX6_bringBack_36 : decode cX6_bringBack 36 = .ok (.aload_n 0, 1) := dk_i kdX6_bringBack_23 8 rfl
theorem dX6_bringBack_37 : decode cX6_bringBack 37 = .ok (.getfield 19, 3) := dk_i kdX6_bringBack_23 9 rfl
theorem dX6_bringBack_40 : decode cX6_bringBack 40 = .ok (.iconst 0, 1) := dk_i kdX6_bringBack_23 10 rfl
theorem dX6_bringBack_41 : decode cX6_bringBack 41 = .ok (.iconst 5, 1) := dk_i kdX6_bringBack_23 11 rfl
theorem dX6_bringBack_42 : decode cX6_bringBack 42 = .ok (.invokestatic 91, 3) := dk_i kdX6_bringBack_23 12 rfl
theorem dX6_bringBack_45 : decode cX6_bringBack 45 = .ok (.aload_n 1, 1) := dk_i kdX6_bringBack_23 13 rfl
theorem dX6_bringBack_46 : decode cX6_bringBack 46 = .ok (.bipush 12, 2) := dk_i kdX6_bringBack_23 14 rfl
theorem dX6_bringBack_48 : decode cX6_bringBack 48 = .ok (.aload_n 0, 1) := dk_i kdX6_bringBack_23 15 rfl
def ldX6_bringBack_49 : List (Nat × ClassFile.Instr × Nat) := [(49, .getfield 22, 3), (52, .iconst 0, 1), (53, .bipush 6, 2), (55, .invokestatic 91, 3), (58, .return_, 1)]
theorem kdX6_bringBack_49 : dkO cX6_bringBack 49 ldX6_bringBack_49 = true := by decide +kernel
theorem dX6_bringBack_49 : decode cX6_bringBack 49 = .ok (.getfield 22, 3) := dk_i kdX6_bringBack_49 0 rfl
theorem dX6_bringBack_52 : decode cX6_bringBack 52 = .ok (.iconst 0, 1) := dk_i kdX6_bringBack_49 1 rfl
theorem dX6_bringBack_53 : decode cX6_bringBack 53 = .ok (.bipush 6, 2) := dk_i kdX6_bringBack_49 2 rfl
theorem dX6_bringBack_55 : decode cX6_bringBack 55 = .ok (.invokestatic 91, 3) := dk_i kdX6_bringBack_49 3 rfl
theorem dX6_bringBack_58 : decode cX6_bringBack 58 = .ok (.return_, 1) := dk_i kdX6_bringBack_49 4 rfl
def ldX6_imageSize_0 : List (Nat × ClassFile.Instr × Nat) := [(0, .iconst 2, 1), (1, .iconst 3, 1), (2, .aload_n 0, 1), (3, .getfield 34, 3), (6, .getfield 38, 3), (9, .imul, 1), (10, .iadd, 1), (11, .aload_n 0, 1), (12, .getfield 34, 3), (15, .getfield 50, 3), (18, .iadd, 1), (19, .iconst 1, 1), (20, .iadd, 1), (21, .ireturn, 1)]
theorem kdX6_imageSize_0 : dkO cX6_imageSize 0 ldX6_imageSize_0 = true := by decide +kernel
theorem dX6_imageSize_0 : decode cX6_imageSize 0 = .ok (.iconst 2, 1) := dk_i kdX6_imageSize_0 0 rfl
theorem dX6_imageSize_1 : decode cX6_imageSize 1 = .ok (.iconst 3, 1) := dk_i kdX6_imageSize_0 1 rfl
theorem dX6_imageSize_2 : decode cX6_imageSize 2 = .ok (.aload_n 0, 1) := dk_i kdX6_imageSize_0 2 rfl
theorem dX6_imageSize_3 : decode cX6_imageSize 3 = .ok (.getfield 34, 3) := dk_i kdX6_imageSize_0 3 rfl
theorem dX6_imageSize_6 : decode cX6_imageSize 6 = .ok (.getfield 38, 3) := dk_i kdX6_imageSize_0 4 rfl
theorem dX6_imageSize_9 : decode cX6_imageSize 9 = .ok (.imul, 1) := dk_i kdX6_imageSize_0 5 rfl
theorem dX6_imageSize_10 : decode cX6_imageSize 10 = .ok (.iadd, 1) := dk_i kdX6_imageSize_0 6 rfl
theorem dX6_imageSize_11 : decode cX6_imageSize 11 = .ok (.aload_n 0, 1) := dk_i kdX6_imageSize_0 7 rfl
theorem dX6_imageSize_12 : decode cX6_imageSize 12 = .ok (.getfield 34, 3) := dk_i kdX6_imageSize_0 8 rfl
theorem dX6_imageSize_15 : decode cX6_imageSize 15 = .ok (.getfield 50, 3) := dk_i kdX6_imageSize_0 9 rfl
theorem dX6_imageSize_18 : decode cX6_imageSize 18 = .ok (.iadd, 1) := dk_i kdX6_imageSize_0 10 rfl
theorem dX6_imageSize_19 : decode cX6_imageSize 19 = .ok (.iconst 1, 1) := dk_i kdX6_imageSize_0 11 rfl
theorem dX6_imageSize_20 : decode cX6_imageSize 20 = .ok (.iadd, 1) := dk_i kdX6_imageSize_0 12 rfl
theorem dX6_imageSize_21 : decode cX6_imageSize 21 = .ok (.ireturn, 1) := dk_i kdX6_imageSize_0 13 rfl
def ldX6_checkOf_0 : List (Nat × ClassFile.Instr × Nat) := [(0, .sipush 227, 3), (3, .istore_n 2, 1), (4, .iconst 0, 1), (5, .istore_n 3, 1), (6, .iload_n 3, 1), (7, .iload_n 1, 1), (8, .if_icmp .ge 27, 3), (11, .iload_n 3, 1), (12, .aload_n 0, 1), (13, .arraylength, 1), (14, .if_icmp .ge 21, 3), (17, .iconst 5, 1), (18, .iload_n 2, 1), (19, .imul, 1), (20, .aload_n 0, 1), (21, .iload_n 3, 1)]
theorem kdX6_checkOf_0 : dkO cX6_checkOf 0 ldX6_checkOf_0 = true := by decide +kernel
theorem dX6_checkOf_0 : decode cX6_checkOf 0 = .ok (.sipush 227, 3) := dk_i kdX6_checkOf_0 0 rfl
theorem dX6_checkOf_3 : decode cX6_checkOf 3 = .ok (.istore_n 2, 1) := dk_i kdX6_checkOf_0 1 rfl
theorem dX6_checkOf_4 : decode cX6_checkOf 4 = .ok (.iconst 0, 1) := dk_i kdX6_checkOf_0 2 rfl
theorem dX6_checkOf_5 : decode cX6_checkOf 5 = .ok (.istore_n 3, 1) := dk_i kdX6_checkOf_0 3 rfl
theorem dX6_checkOf_6 : decode cX6_checkOf 6 = .ok (.iload_n 3, 1) := dk_i kdX6_checkOf_0 4 rfl
theorem dX6_checkOf_7 : decode cX6_checkOf 7 = .ok (.iload_n 1, 1) := dk_i kdX6_checkOf_0 5 rfl
theorem dX6_checkOf_8 : decode cX6_checkOf 8 = .ok (.if_icmp .ge 27, 3) := dk_i kdX6_checkOf_0 6 rfl
theorem dX6_checkOf_11 : decode cX6_checkOf 11 = .ok (.iload_n 3, 1) := dk_i kdX6_checkOf_0 7 rfl
theorem dX6_checkOf_12 : decode cX6_checkOf 12 = .ok (.aload_n 0, 1) := dk_i kdX6_checkOf_0 8 rfl
theorem dX6_checkOf_13 : decode cX6_checkOf 13 = .ok (.arraylength, 1) := dk_i kdX6_checkOf_0 9 rfl
theorem dX6_checkOf_14 : decode cX6_checkOf 14 = .ok (.if_icmp .ge 21, 3) := dk_i kdX6_checkOf_0 10 rfl
theorem dX6_checkOf_17 : decode cX6_checkOf 17 = .ok (.iconst 5, 1) := dk_i kdX6_checkOf_0 11 rfl
theorem dX6_checkOf_18 : decode cX6_checkOf 18 = .ok (.iload_n 2, 1) := dk_i kdX6_checkOf_0 12 rfl
theorem dX6_checkOf_19 : decode cX6_checkOf 19 = .ok (.imul, 1) := dk_i kdX6_checkOf_0 13 rfl
theorem dX6_checkOf_20 : decode cX6_checkOf 20 = .ok (.aload_n 0, 1) := dk_i kdX6_checkOf_0 14 rfl
theorem dX6_checkOf_21 : decode cX6_checkOf 21 = .ok (.iload_n 3, 1) := dk_i kdX6_checkOf_0 15 rfl
def ldX6_checkOf_22 : List (Nat × ClassFile.Instr × Nat) := [(22, .iaload, 1), (23, .iadd, 1), (24, .sipush 251, 3), (27, .irem, 1), (28, .istore_n 2, 1), (29, .iinc 3 1, 3), (32, .goto (-26), 3), (35, .iload_n 2, 1), (36, .ireturn, 1)]
theorem kdX6_checkOf_22 : dkO cX6_checkOf 22 ldX6_checkOf_22 = true := by decide +kernel
theorem dX6_checkOf_22 : decode cX6_checkOf 22 = .ok (.iaload, 1) := dk_i kdX6_checkOf_22 0 rfl
theorem dX6_checkOf_23 : decode cX6_checkOf 23 = .ok (.iadd, 1) := dk_i kdX6_checkOf_22 1 rfl
theorem dX6_checkOf_24 : decode cX6_checkOf 24 = .ok (.sipush 251, 3) := dk_i kdX6_checkOf_22 2 rfl
theorem dX6_checkOf_27 : decode cX6_checkOf 27 = .ok (.irem, 1) := dk_i kdX6_checkOf_22 3 rfl
theorem dX6_checkOf_28 : decode cX6_checkOf 28 = .ok (.istore_n 2, 1) := dk_i kdX6_checkOf_22 4 rfl
theorem dX6_checkOf_29 : decode cX6_checkOf 29 = .ok (.iinc 3 1, 3) := dk_i kdX6_checkOf_22 5 rfl
theorem dX6_checkOf_32 : decode cX6_checkOf 32 = .ok (.goto (-26), 3) := dk_i kdX6_checkOf_22 6 rfl
theorem dX6_checkOf_35 : decode cX6_checkOf 35 = .ok (.iload_n 2, 1) := dk_i kdX6_checkOf_22 7 rfl
theorem dX6_checkOf_36 : decode cX6_checkOf 36 = .ok (.ireturn, 1) := dk_i kdX6_checkOf_22 8 rfl
def ldX6_writeImage_0 : List (Nat × ClassFile.Instr × Nat) := [(0, .aload_n 0, 1), (1, .invokevirtual 97, 3), (4, .istore_n 2, 1), (5, .aload_n 1, 1), (6, .arraylength, 1), (7, .iload_n 2, 1), (8, .if_icmp .ge 5, 3), (11, .iconst 0, 1), (12, .ireturn, 1), (13, .aload_n 1, 1), (14, .iconst 0, 1), (15, .aload_n 0, 1), (16, .getfield 9, 3), (19, .bipush 8, 2), (21, .ishr, 1), (22, .iastore, 1)]
theorem kdX6_writeImage_0 : dkO cX6_writeImage 0 ldX6_writeImage_0 = true := by decide +kernel
theorem dX6_writeImage_0 : decode cX6_writeImage 0 = .ok (.aload_n 0, 1) := dk_i kdX6_writeImage_0 0 rfl
theorem dX6_writeImage_1 : decode cX6_writeImage 1 = .ok (.invokevirtual 97, 3) := dk_i kdX6_writeImage_0 1 rfl
theorem dX6_writeImage_4 : decode cX6_writeImage 4 = .ok (.istore_n 2, 1) := dk_i kdX6_writeImage_0 2 rfl
theorem dX6_writeImage_5 : decode cX6_writeImage 5 = .ok (.aload_n 1, 1) := dk_i kdX6_writeImage_0 3 rfl
theorem dX6_writeImage_6 : decode cX6_writeImage 6 = .ok (.arraylength, 1) := dk_i kdX6_writeImage_0 4 rfl
theorem dX6_writeImage_7 : decode cX6_writeImage 7 = .ok (.iload_n 2, 1) := dk_i kdX6_writeImage_0 5 rfl
theorem dX6_writeImage_8 : decode cX6_writeImage 8 = .ok (.if_icmp .ge 5, 3) := dk_i kdX6_writeImage_0 6 rfl
theorem dX6_writeImage_11 : decode cX6_writeImage 11 = .ok (.iconst 0, 1) := dk_i kdX6_writeImage_0 7 rfl
theorem dX6_writeImage_12 : decode cX6_writeImage 12 = .ok (.ireturn, 1) := dk_i kdX6_writeImage_0 8 rfl
theorem dX6_writeImage_13 : decode cX6_writeImage 13 = .ok (.aload_n 1, 1) := dk_i kdX6_writeImage_0 9 rfl
theorem dX6_writeImage_14 : decode cX6_writeImage 14 = .ok (.iconst 0, 1) := dk_i kdX6_writeImage_0 10 rfl
theorem dX6_writeImage_15 : decode cX6_writeImage 15 = .ok (.aload_n 0, 1) := dk_i kdX6_writeImage_0 11 rfl
theorem dX6_writeImage_16 : decode cX6_writeImage 16 = .ok (.getfield 9, 3) := dk_i kdX6_writeImage_0 12 rfl
theorem dX6_writeImage_19 : decode cX6_writeImage 19 = .ok (.bipush 8, 2) := dk_i kdX6_writeImage_0 13 rfl
theorem dX6_writeImage_21 : decode cX6_writeImage 21 = .ok (.ishr, 1) := dk_i kdX6_writeImage_0 14 rfl
theorem dX6_writeImage_22 : decode cX6_writeImage 22 = .ok (.iastore, 1) := dk_i kdX6_writeImage_0 15 rfl
def ldX6_writeImage_23 : List (Nat × ClassFile.Instr × Nat) := [(23, .aload_n 1, 1), (24, .iconst 1, 1), (25, .aload_n 0, 1), (26, .getfield 9, 3), (29, .sipush 255, 3), (32, .iand, 1), (33, .iastore, 1), (34, .iconst 0, 1), (35, .istore_n 3, 1), (36, .iload_n 3, 1), (37, .aload_n 0, 1), (38, .getfield 34, 3), (41, .getfield 38, 3), (44, .if_icmp .ge 73, 3), (47, .iconst 2, 1), (48, .iconst 3, 1)]
theorem kdX6_writeImage_23 : dkO cX6_writeImage 23 ldX6_writeImage_23 = true := by decide +kernel
theorem dX6_writeImage_23 : decode cX6_writeImage 23 = .ok (.aload_n 1, 1) := dk_i kdX6_writeImage_23 0 rfl
theorem dX6_writeImage_24 : decode cX6_writeImage 24 = .ok (.iconst 1, 1) := dk_i kdX6_writeImage_23 1 rfl
theorem dX6_writeImage_25 : decode cX6_writeImage 25 = .ok (.aload_n 0, 1) := dk_i kdX6_writeImage_23 2 rfl
theorem dX6_writeImage_26 : decode cX6_writeImage 26 = .ok (.getfield 9, 3) := dk_i kdX6_writeImage_23 3 rfl
theorem dX6_writeImage_29 : decode cX6_writeImage 29 = .ok (.sipush 255, 3) := dk_i kdX6_writeImage_23 4 rfl
theorem dX6_writeImage_32 : decode cX6_writeImage 32 = .ok (.iand, 1) := dk_i kdX6_writeImage_23 5 rfl
theorem dX6_writeImage_33 : decode cX6_writeImage 33 = .ok (.iastore, 1) := dk_i kdX6_writeImage_23 6 rfl
theorem dX6_writeImage_34 : decode cX6_writeImage 34 = .ok (.iconst 0, 1) := dk_i kdX6_writeImage_23 7 rfl
theorem dX6_writeImage_35 : decode cX6_writeImage 35 = .ok (.istore_n 3, 1) := dk_i kdX6_writeImage_23 8 rfl
theorem dX6_writeImage_36 : decode cX6_writeImage 36 = .ok (.iload_n 3, 1) := dk_i kdX6_writeImage_23 9 rfl
theorem dX6_writeImage_37 : decode cX6_writeImage 37 = .ok (.aload_n 0, 1) := dk_i kdX6_writeImage_23 10 rfl
theorem dX6_writeImage_38 : decode cX6_writeImage 38 = .ok (.getfield 34, 3) := dk_i kdX6_writeImage_23 11 rfl
theorem dX6_writeImage_41 : decode cX6_writeImage 41 = .ok (.getfield 38, 3) := dk_i kdX6_writeImage_23 12 rfl
theorem dX6_writeImage_44 : decode cX6_writeImage 44 = .ok (.if_icmp .ge 73, 3) := dk_i kdX6_writeImage_23 13 rfl
theorem dX6_writeImage_47 : decode cX6_writeImage 47 = .ok (.iconst 2, 1) := dk_i kdX6_writeImage_23 14 rfl
theorem dX6_writeImage_48 : decode cX6_writeImage 48 = .ok (.iconst 3, 1) := dk_i kdX6_writeImage_23 15 rfl
def ldX6_writeImage_49 : List (Nat × ClassFile.Instr × Nat) := [(49, .iload_n 3, 1), (50, .imul, 1), (51, .iadd, 1), (52, .istore 4, 2), (54, .aload_n 1, 1), (55, .iload 4, 2), (57, .aload_n 0, 1), (58, .getfield 15, 3), (61, .iload_n 3, 1), (62, .iaload, 1), (63, .iconst (-1), 1), (64, .if_icmp .ne 9, 3), (67, .sipush 255, 3), (70, .goto 9, 3), (73, .aload_n 0, 1), (74, .getfield 15, 3)]
theorem kdX6_writeImage_49 : dkO cX6_writeImage 49 ldX6_writeImage_49 = true := by decide +kernel
theorem dX6_writeImage_49 : decode cX6_writeImage 49 = .ok (.iload_n 3, 1) := dk_i kdX6_writeImage_49 0 rfl
theorem dX6_writeImage_50 : decode cX6_writeImage 50 = .ok (.imul, 1) := dk_i kdX6_writeImage_49 1 rfl
theorem dX6_writeImage_51 : decode cX6_writeImage 51 = .ok (.iadd, 1) := dk_i kdX6_writeImage_49 2 rfl
theorem dX6_writeImage_52 : decode cX6_writeImage 52 = .ok (.istore 4, 2) := dk_i kdX6_writeImage_49 3 rfl
theorem dX6_writeImage_54 : decode cX6_writeImage 54 = .ok (.aload_n 1, 1) := dk_i kdX6_writeImage_49 4 rfl
theorem dX6_writeImage_55 : decode cX6_writeImage 55 = .ok (.iload 4, 2) := dk_i kdX6_writeImage_49 5 rfl
theorem dX6_writeImage_57 : decode cX6_writeImage 57 = .ok (.aload_n 0, 1) := dk_i kdX6_writeImage_49 6 rfl
theorem dX6_writeImage_58 : decode cX6_writeImage 58 = .ok (.getfield 15, 3) := dk_i kdX6_writeImage_49 7 rfl
theorem dX6_writeImage_61 : decode cX6_writeImage 61 = .ok (.iload_n 3, 1) := dk_i kdX6_writeImage_49 8 rfl
theorem dX6_writeImage_62 : decode cX6_writeImage 62 = .ok (.iaload, 1) := dk_i kdX6_writeImage_49 9 rfl
theorem dX6_writeImage_63 : decode cX6_writeImage 63 = .ok (.iconst (-1), 1) := dk_i kdX6_writeImage_49 10 rfl
theorem dX6_writeImage_64 : decode cX6_writeImage 64 = .ok (.if_icmp .ne 9, 3) := dk_i kdX6_writeImage_49 11 rfl
theorem dX6_writeImage_67 : decode cX6_writeImage 67 = .ok (.sipush 255, 3) := dk_i kdX6_writeImage_49 12 rfl
theorem dX6_writeImage_70 : decode cX6_writeImage 70 = .ok (.goto 9, 3) := dk_i kdX6_writeImage_49 13 rfl
theorem dX6_writeImage_73 : decode cX6_writeImage 73 = .ok (.aload_n 0, 1) := dk_i kdX6_writeImage_49 14 rfl
theorem dX6_writeImage_74 : decode cX6_writeImage 74 = .ok (.getfield 15, 3) := dk_i kdX6_writeImage_49 15 rfl
def ldX6_writeImage_77 : List (Nat × ClassFile.Instr × Nat) := [(77, .iload_n 3, 1), (78, .iaload, 1), (79, .iastore, 1), (80, .aload_n 1, 1), (81, .iload 4, 2), (83, .iconst 1, 1), (84, .iadd, 1), (85, .aload_n 0, 1), (86, .getfield 19, 3), (89, .iload_n 3, 1), (90, .iaload, 1), (91, .bipush 8, 2), (93, .ishr, 1), (94, .iastore, 1), (95, .aload_n 1, 1), (96, .iload 4, 2)]
theorem kdX6_writeImage_77 : dkO cX6_writeImage 77 ldX6_writeImage_77 = true := by decide +kernel
theorem dX6_writeImage_77 : decode cX6_writeImage 77 = .ok (.iload_n 3, 1) := dk_i kdX6_writeImage_77 0 rfl
theorem dX6_writeImage_78 : decode cX6_writeImage 78 = .ok (.iaload, 1) := dk_i kdX6_writeImage_77 1 rfl
theorem dX6_writeImage_79 : decode cX6_writeImage 79 = .ok (.iastore, 1) := dk_i kdX6_writeImage_77 2 rfl
theorem dX6_writeImage_80 : decode cX6_writeImage 80 = .ok (.aload_n 1, 1) := dk_i kdX6_writeImage_77 3 rfl
theorem dX6_writeImage_81 : decode cX6_writeImage 81 = .ok (.iload 4, 2) := dk_i kdX6_writeImage_77 4 rfl
theorem dX6_writeImage_83 : decode cX6_writeImage 83 = .ok (.iconst 1, 1) := dk_i kdX6_writeImage_77 5 rfl
theorem dX6_writeImage_84 : decode cX6_writeImage 84 = .ok (.iadd, 1) := dk_i kdX6_writeImage_77 6 rfl
theorem dX6_writeImage_85 : decode cX6_writeImage 85 = .ok (.aload_n 0, 1) := dk_i kdX6_writeImage_77 7 rfl
theorem dX6_writeImage_86 : decode cX6_writeImage 86 = .ok (.getfield 19, 3) := dk_i kdX6_writeImage_77 8 rfl
theorem dX6_writeImage_89 : decode cX6_writeImage 89 = .ok (.iload_n 3, 1) := dk_i kdX6_writeImage_77 9 rfl
theorem dX6_writeImage_90 : decode cX6_writeImage 90 = .ok (.iaload, 1) := dk_i kdX6_writeImage_77 10 rfl
theorem dX6_writeImage_91 : decode cX6_writeImage 91 = .ok (.bipush 8, 2) := dk_i kdX6_writeImage_77 11 rfl
theorem dX6_writeImage_93 : decode cX6_writeImage 93 = .ok (.ishr, 1) := dk_i kdX6_writeImage_77 12 rfl
theorem dX6_writeImage_94 : decode cX6_writeImage 94 = .ok (.iastore, 1) := dk_i kdX6_writeImage_77 13 rfl
theorem dX6_writeImage_95 : decode cX6_writeImage 95 = .ok (.aload_n 1, 1) := dk_i kdX6_writeImage_77 14 rfl
theorem dX6_writeImage_96 : decode cX6_writeImage 96 = .ok (.iload 4, 2) := dk_i kdX6_writeImage_77 15 rfl
def ldX6_writeImage_98 : List (Nat × ClassFile.Instr × Nat) := [(98, .iconst 2, 1), (99, .iadd, 1), (100, .aload_n 0, 1), (101, .getfield 19, 3), (104, .iload_n 3, 1), (105, .iaload, 1), (106, .sipush 255, 3), (109, .iand, 1), (110, .iastore, 1), (111, .iinc 3 1, 3), (114, .goto (-78), 3), (117, .iconst 0, 1), (118, .istore_n 3, 1), (119, .iload_n 3, 1), (120, .aload_n 0, 1), (121, .getfield 34, 3)]
theorem kdX6_writeImage_98 : dkO cX6_writeImage 98 ldX6_writeImage_98 = true := by decide +kernel
theorem dX6_writeImage_98 : decode cX6_writeImage 98 = .ok (.iconst 2, 1) := dk_i kdX6_writeImage_98 0 rfl
theorem dX6_writeImage_99 : decode cX6_writeImage 99 = .ok (.iadd, 1) := dk_i kdX6_writeImage_98 1 rfl
theorem dX6_writeImage_100 : decode cX6_writeImage 100 = .ok (.aload_n 0, 1) := dk_i kdX6_writeImage_98 2 rfl
theorem dX6_writeImage_101 : decode cX6_writeImage 101 = .ok (.getfield 19, 3) := dk_i kdX6_writeImage_98 3 rfl
theorem dX6_writeImage_104 : decode cX6_writeImage 104 = .ok (.iload_n 3, 1) := dk_i kdX6_writeImage_98 4 rfl
theorem dX6_writeImage_105 : decode cX6_writeImage 105 = .ok (.iaload, 1) := dk_i kdX6_writeImage_98 5 rfl
theorem dX6_writeImage_106 : decode cX6_writeImage 106 = .ok (.sipush 255, 3) := dk_i kdX6_writeImage_98 6 rfl
theorem dX6_writeImage_109 : decode cX6_writeImage 109 = .ok (.iand, 1) := dk_i kdX6_writeImage_98 7 rfl
theorem dX6_writeImage_110 : decode cX6_writeImage 110 = .ok (.iastore, 1) := dk_i kdX6_writeImage_98 8 rfl
theorem dX6_writeImage_111 : decode cX6_writeImage 111 = .ok (.iinc 3 1, 3) := dk_i kdX6_writeImage_98 9 rfl
theorem dX6_writeImage_114 : decode cX6_writeImage 114 = .ok (.goto (-78), 3) := dk_i kdX6_writeImage_98 10 rfl
theorem dX6_writeImage_117 : decode cX6_writeImage 117 = .ok (.iconst 0, 1) := dk_i kdX6_writeImage_98 11 rfl
theorem dX6_writeImage_118 : decode cX6_writeImage 118 = .ok (.istore_n 3, 1) := dk_i kdX6_writeImage_98 12 rfl
theorem dX6_writeImage_119 : decode cX6_writeImage 119 = .ok (.iload_n 3, 1) := dk_i kdX6_writeImage_98 13 rfl
theorem dX6_writeImage_120 : decode cX6_writeImage 120 = .ok (.aload_n 0, 1) := dk_i kdX6_writeImage_98 14 rfl
theorem dX6_writeImage_121 : decode cX6_writeImage 121 = .ok (.getfield 34, 3) := dk_i kdX6_writeImage_98 15 rfl
def ldX6_writeImage_124 : List (Nat × ClassFile.Instr × Nat) := [(124, .getfield 50, 3), (127, .if_icmp .ge 30, 3), (130, .aload_n 1, 1), (131, .iconst 2, 1), (132, .iconst 3, 1), (133, .aload_n 0, 1), (134, .getfield 34, 3), (137, .getfield 38, 3), (140, .imul, 1), (141, .iadd, 1), (142, .iload_n 3, 1), (143, .iadd, 1), (144, .aload_n 0, 1), (145, .getfield 22, 3), (148, .iload_n 3, 1), (149, .iaload, 1)]
theorem kdX6_writeImage_124 : dkO cX6_writeImage 124 ldX6_writeImage_124 = true := by decide +kernel
theorem dX6_writeImage_124 : decode cX6_writeImage 124 = .ok (.getfield 50, 3) := dk_i kdX6_writeImage_124 0 rfl
theorem dX6_writeImage_127 : decode cX6_writeImage 127 = .ok (.if_icmp .ge 30, 3) := dk_i kdX6_writeImage_124 1 rfl
theorem dX6_writeImage_130 : decode cX6_writeImage 130 = .ok (.aload_n 1, 1) := dk_i kdX6_writeImage_124 2 rfl
theorem dX6_writeImage_131 : decode cX6_writeImage 131 = .ok (.iconst 2, 1) := dk_i kdX6_writeImage_124 3 rfl
theorem dX6_writeImage_132 : decode cX6_writeImage 132 = .ok (.iconst 3, 1) := dk_i kdX6_writeImage_124 4 rfl
theorem dX6_writeImage_133 : decode cX6_writeImage 133 = .ok (.aload_n 0, 1) := dk_i kdX6_writeImage_124 5 rfl
theorem dX6_writeImage_134 : decode cX6_writeImage 134 = .ok (.getfield 34, 3) := dk_i kdX6_writeImage_124 6 rfl
theorem dX6_writeImage_137 : decode cX6_writeImage 137 = .ok (.getfield 38, 3) := dk_i kdX6_writeImage_124 7 rfl
theorem dX6_writeImage_140 : decode cX6_writeImage 140 = .ok (.imul, 1) := dk_i kdX6_writeImage_124 8 rfl
theorem dX6_writeImage_141 : decode cX6_writeImage 141 = .ok (.iadd, 1) := dk_i kdX6_writeImage_124 9 rfl
theorem dX6_writeImage_142 : decode cX6_writeImage 142 = .ok (.iload_n 3, 1) := dk_i kdX6_writeImage_124 10 rfl
theorem dX6_writeImage_143 : decode cX6_writeImage 143 = .ok (.iadd, 1) := dk_i kdX6_writeImage_124 11 rfl
theorem dX6_writeImage_144 : decode cX6_writeImage 144 = .ok (.aload_n 0, 1) := dk_i kdX6_writeImage_124 12 rfl
theorem dX6_writeImage_145 : decode cX6_writeImage 145 = .ok (.getfield 22, 3) := dk_i kdX6_writeImage_124 13 rfl
theorem dX6_writeImage_148 : decode cX6_writeImage 148 = .ok (.iload_n 3, 1) := dk_i kdX6_writeImage_124 14 rfl
theorem dX6_writeImage_149 : decode cX6_writeImage 149 = .ok (.iaload, 1) := dk_i kdX6_writeImage_124 15 rfl
def ldX6_writeImage_150 : List (Nat × ClassFile.Instr × Nat) := [(150, .iastore, 1), (151, .iinc 3 1, 3), (154, .goto (-35), 3), (157, .aload_n 1, 1), (158, .iload_n 2, 1), (159, .iconst 1, 1), (160, .isub, 1), (161, .aload_n 1, 1), (162, .iload_n 2, 1), (163, .iconst 1, 1), (164, .isub, 1), (165, .invokestatic 100, 3), (168, .iastore, 1), (169, .iload_n 2, 1), (170, .ireturn, 1)]
theorem kdX6_writeImage_150 : dkO cX6_writeImage 150 ldX6_writeImage_150 = true := by decide +kernel
theorem dX6_writeImage_150 : decode cX6_writeImage 150 = .ok (.iastore, 1) := dk_i kdX6_writeImage_150 0 rfl
theorem dX6_writeImage_151 : decode cX6_writeImage 151 = .ok (.iinc 3 1, 3) := dk_i kdX6_writeImage_150 1 rfl
theorem dX6_writeImage_154 : decode cX6_writeImage 154 = .ok (.goto (-35), 3) := dk_i kdX6_writeImage_150 2 rfl
theorem dX6_writeImage_157 : decode cX6_writeImage 157 = .ok (.aload_n 1, 1) := dk_i kdX6_writeImage_150 3 rfl
theorem dX6_writeImage_158 : decode cX6_writeImage 158 = .ok (.iload_n 2, 1) := dk_i kdX6_writeImage_150 4 rfl
theorem dX6_writeImage_159 : decode cX6_writeImage 159 = .ok (.iconst 1, 1) := dk_i kdX6_writeImage_150 5 rfl
theorem dX6_writeImage_160 : decode cX6_writeImage 160 = .ok (.isub, 1) := dk_i kdX6_writeImage_150 6 rfl
theorem dX6_writeImage_161 : decode cX6_writeImage 161 = .ok (.aload_n 1, 1) := dk_i kdX6_writeImage_150 7 rfl
theorem dX6_writeImage_162 : decode cX6_writeImage 162 = .ok (.iload_n 2, 1) := dk_i kdX6_writeImage_150 8 rfl
theorem dX6_writeImage_163 : decode cX6_writeImage 163 = .ok (.iconst 1, 1) := dk_i kdX6_writeImage_150 9 rfl
theorem dX6_writeImage_164 : decode cX6_writeImage 164 = .ok (.isub, 1) := dk_i kdX6_writeImage_150 10 rfl
theorem dX6_writeImage_165 : decode cX6_writeImage 165 = .ok (.invokestatic 100, 3) := dk_i kdX6_writeImage_150 11 rfl
theorem dX6_writeImage_168 : decode cX6_writeImage 168 = .ok (.iastore, 1) := dk_i kdX6_writeImage_150 12 rfl
theorem dX6_writeImage_169 : decode cX6_writeImage 169 = .ok (.iload_n 2, 1) := dk_i kdX6_writeImage_150 13 rfl
theorem dX6_writeImage_170 : decode cX6_writeImage 170 = .ok (.ireturn, 1) := dk_i kdX6_writeImage_150 14 rfl
def ldX6_isImage_0 : List (Nat × ClassFile.Instr × Nat) := [(0, .aload_n 0, 1), (1, .invokevirtual 97, 3), (4, .istore_n 2, 1), (5, .aload_n 1, 1), (6, .getfield 104, 3), (9, .iload_n 2, 1), (10, .if_icmp .ne 14, 3), (13, .aload_n 1, 1), (14, .iconst 0, 1), (15, .invokevirtual 109, 3), (18, .sipush 9999, 3), (21, .if_icmp .le 5, 3), (24, .iconst 0, 1), (25, .ireturn, 1), (26, .iconst 0, 1), (27, .istore_n 3, 1)]
theorem kdX6_isImage_0 : dkO cX6_isImage 0 ldX6_isImage_0 = true := by decide +kernel
theorem dX6_isImage_0 : decode cX6_isImage 0 = .ok (.aload_n 0, 1) := dk_i kdX6_isImage_0 0 rfl
theorem dX6_isImage_1 : decode cX6_isImage 1 = .ok (.invokevirtual 97, 3) := dk_i kdX6_isImage_0 1 rfl
theorem dX6_isImage_4 : decode cX6_isImage 4 = .ok (.istore_n 2, 1) := dk_i kdX6_isImage_0 2 rfl
theorem dX6_isImage_5 : decode cX6_isImage 5 = .ok (.aload_n 1, 1) := dk_i kdX6_isImage_0 3 rfl
theorem dX6_isImage_6 : decode cX6_isImage 6 = .ok (.getfield 104, 3) := dk_i kdX6_isImage_0 4 rfl
theorem dX6_isImage_9 : decode cX6_isImage 9 = .ok (.iload_n 2, 1) := dk_i kdX6_isImage_0 5 rfl
theorem dX6_isImage_10 : decode cX6_isImage 10 = .ok (.if_icmp .ne 14, 3) := dk_i kdX6_isImage_0 6 rfl
theorem dX6_isImage_13 : decode cX6_isImage 13 = .ok (.aload_n 1, 1) := dk_i kdX6_isImage_0 7 rfl
theorem dX6_isImage_14 : decode cX6_isImage 14 = .ok (.iconst 0, 1) := dk_i kdX6_isImage_0 8 rfl
theorem dX6_isImage_15 : decode cX6_isImage 15 = .ok (.invokevirtual 109, 3) := dk_i kdX6_isImage_0 9 rfl
theorem dX6_isImage_18 : decode cX6_isImage 18 = .ok (.sipush 9999, 3) := dk_i kdX6_isImage_0 10 rfl
theorem dX6_isImage_21 : decode cX6_isImage 21 = .ok (.if_icmp .le 5, 3) := dk_i kdX6_isImage_0 11 rfl
theorem dX6_isImage_24 : decode cX6_isImage 24 = .ok (.iconst 0, 1) := dk_i kdX6_isImage_0 12 rfl
theorem dX6_isImage_25 : decode cX6_isImage 25 = .ok (.ireturn, 1) := dk_i kdX6_isImage_0 13 rfl
theorem dX6_isImage_26 : decode cX6_isImage 26 = .ok (.iconst 0, 1) := dk_i kdX6_isImage_0 14 rfl
theorem dX6_isImage_27 : decode cX6_isImage 27 = .ok (.istore_n 3, 1) := dk_i kdX6_isImage_0 15 rfl
def ldX6_isImage_28 : List (Nat × ClassFile.Instr × Nat) := [(28, .iload_n 3, 1), (29, .aload_n 0, 1), (30, .getfield 34, 3), (33, .getfield 38, 3), (36, .if_icmp .ge 69, 3), (39, .aload_n 1, 1), (40, .iconst 2, 1), (41, .iconst 3, 1), (42, .iload_n 3, 1), (43, .imul, 1), (44, .iadd, 1), (45, .invokevirtual 113, 3), (48, .istore 4, 2), (50, .iload 4, 2), (52, .sipush 255, 3), (55, .if_icmp .eq 15, 3)]
theorem kdX6_isImage_28 : dkO cX6_isImage 28 ldX6_isImage_28 = true := by decide +kernel
theorem dX6_isImage_28 : decode cX6_isImage 28 = .ok (.iload_n 3, 1) := dk_i kdX6_isImage_28 0 rfl
theorem dX6_isImage_29 : decode cX6_isImage 29 = .ok (.aload_n 0, 1) := dk_i kdX6_isImage_28 1 rfl
theorem dX6_isImage_30 : decode cX6_isImage 30 = .ok (.getfield 34, 3) := dk_i kdX6_isImage_28 2 rfl
theorem dX6_isImage_33 : decode cX6_isImage 33 = .ok (.getfield 38, 3) := dk_i kdX6_isImage_28 3 rfl
theorem dX6_isImage_36 : decode cX6_isImage 36 = .ok (.if_icmp .ge 69, 3) := dk_i kdX6_isImage_28 4 rfl
theorem dX6_isImage_39 : decode cX6_isImage 39 = .ok (.aload_n 1, 1) := dk_i kdX6_isImage_28 5 rfl
theorem dX6_isImage_40 : decode cX6_isImage 40 = .ok (.iconst 2, 1) := dk_i kdX6_isImage_28 6 rfl
theorem dX6_isImage_41 : decode cX6_isImage 41 = .ok (.iconst 3, 1) := dk_i kdX6_isImage_28 7 rfl
theorem dX6_isImage_42 : decode cX6_isImage 42 = .ok (.iload_n 3, 1) := dk_i kdX6_isImage_28 8 rfl
theorem dX6_isImage_43 : decode cX6_isImage 43 = .ok (.imul, 1) := dk_i kdX6_isImage_28 9 rfl
theorem dX6_isImage_44 : decode cX6_isImage 44 = .ok (.iadd, 1) := dk_i kdX6_isImage_28 10 rfl
theorem dX6_isImage_45 : decode cX6_isImage 45 = .ok (.invokevirtual 113, 3) := dk_i kdX6_isImage_28 11 rfl
theorem dX6_isImage_48 : decode cX6_isImage 48 = .ok (.istore 4, 2) := dk_i kdX6_isImage_28 12 rfl
theorem dX6_isImage_50 : decode cX6_isImage 50 = .ok (.iload 4, 2) := dk_i kdX6_isImage_28 13 rfl
theorem dX6_isImage_52 : decode cX6_isImage 52 = .ok (.sipush 255, 3) := dk_i kdX6_isImage_28 14 rfl
theorem dX6_isImage_55 : decode cX6_isImage 55 = .ok (.if_icmp .eq 15, 3) := dk_i kdX6_isImage_28 15 rfl
def ldX6_isImage_58 : List (Nat × ClassFile.Instr × Nat) := [(58, .aload_n 0, 1), (59, .getfield 34, 3), (62, .iload 4, 2), (64, .invokevirtual 116, 3), (67, .ifCond .eq 7, 3), (70, .iconst 1, 1), (71, .goto 4, 3), (74, .iconst 0, 1), (75, .istore 5, 2), (77, .iload 5, 2), (79, .ifCond .eq 18, 3), (82, .aload_n 1, 1), (83, .iconst 3, 1), (84, .iconst 3, 1), (85, .iload_n 3, 1), (86, .imul, 1)]
theorem kdX6_isImage_58 : dkO cX6_isImage 58 ldX6_isImage_58 = true := by decide +kernel
theorem dX6_isImage_58 : decode cX6_isImage 58 = .ok (.aload_n 0, 1) := dk_i kdX6_isImage_58 0 rfl
theorem dX6_isImage_59 : decode cX6_isImage 59 = .ok (.getfield 34, 3) := dk_i kdX6_isImage_58 1 rfl
theorem dX6_isImage_62 : decode cX6_isImage 62 = .ok (.iload 4, 2) := dk_i kdX6_isImage_58 2 rfl
theorem dX6_isImage_64 : decode cX6_isImage 64 = .ok (.invokevirtual 116, 3) := dk_i kdX6_isImage_58 3 rfl
theorem dX6_isImage_67 : decode cX6_isImage 67 = .ok (.ifCond .eq 7, 3) := dk_i kdX6_isImage_58 4 rfl
theorem dX6_isImage_70 : decode cX6_isImage 70 = .ok (.iconst 1, 1) := dk_i kdX6_isImage_58 5 rfl
theorem dX6_isImage_71 : decode cX6_isImage 71 = .ok (.goto 4, 3) := dk_i kdX6_isImage_58 6 rfl
theorem dX6_isImage_74 : decode cX6_isImage 74 = .ok (.iconst 0, 1) := dk_i kdX6_isImage_58 7 rfl
theorem dX6_isImage_75 : decode cX6_isImage 75 = .ok (.istore 5, 2) := dk_i kdX6_isImage_58 8 rfl
theorem dX6_isImage_77 : decode cX6_isImage 77 = .ok (.iload 5, 2) := dk_i kdX6_isImage_58 9 rfl
theorem dX6_isImage_79 : decode cX6_isImage 79 = .ok (.ifCond .eq 18, 3) := dk_i kdX6_isImage_58 10 rfl
theorem dX6_isImage_82 : decode cX6_isImage 82 = .ok (.aload_n 1, 1) := dk_i kdX6_isImage_58 11 rfl
theorem dX6_isImage_83 : decode cX6_isImage 83 = .ok (.iconst 3, 1) := dk_i kdX6_isImage_58 12 rfl
theorem dX6_isImage_84 : decode cX6_isImage 84 = .ok (.iconst 3, 1) := dk_i kdX6_isImage_58 13 rfl
theorem dX6_isImage_85 : decode cX6_isImage 85 = .ok (.iload_n 3, 1) := dk_i kdX6_isImage_58 14 rfl
theorem dX6_isImage_86 : decode cX6_isImage 86 = .ok (.imul, 1) := dk_i kdX6_isImage_58 15 rfl
def ldX6_isImage_87 : List (Nat × ClassFile.Instr × Nat) := [(87, .iadd, 1), (88, .invokevirtual 109, 3), (91, .sipush 999, 3), (94, .if_icmp .le 5, 3), (97, .iconst 0, 1), (98, .ireturn, 1), (99, .iinc 3 1, 3), (102, .goto (-74), 3), (105, .iconst 0, 1), (106, .istore_n 3, 1), (107, .iload_n 3, 1), (108, .aload_n 0, 1), (109, .getfield 34, 3), (112, .getfield 50, 3), (115, .if_icmp .ge 32, 3), (118, .aload_n 1, 1)]
theorem kdX6_isImage_87 : dkO cX6_isImage 87 ldX6_isImage_87 = true := by decide +kernel
theorem dX6_isImage_87 : decode cX6_isImage 87 = .ok (.iadd, 1) := dk_i kdX6_isImage_87 0 rfl
theorem dX6_isImage_88 : decode cX6_isImage 88 = .ok (.invokevirtual 109, 3) := dk_i kdX6_isImage_87 1 rfl
theorem dX6_isImage_91 : decode cX6_isImage 91 = .ok (.sipush 999, 3) := dk_i kdX6_isImage_87 2 rfl
theorem dX6_isImage_94 : decode cX6_isImage 94 = .ok (.if_icmp .le 5, 3) := dk_i kdX6_isImage_87 3 rfl
theorem dX6_isImage_97 : decode cX6_isImage 97 = .ok (.iconst 0, 1) := dk_i kdX6_isImage_87 4 rfl
theorem dX6_isImage_98 : decode cX6_isImage 98 = .ok (.ireturn, 1) := dk_i kdX6_isImage_87 5 rfl
theorem dX6_isImage_99 : decode cX6_isImage 99 = .ok (.iinc 3 1, 3) := dk_i kdX6_isImage_87 6 rfl
theorem dX6_isImage_102 : decode cX6_isImage 102 = .ok (.goto (-74), 3) := dk_i kdX6_isImage_87 7 rfl
theorem dX6_isImage_105 : decode cX6_isImage 105 = .ok (.iconst 0, 1) := dk_i kdX6_isImage_87 8 rfl
theorem dX6_isImage_106 : decode cX6_isImage 106 = .ok (.istore_n 3, 1) := dk_i kdX6_isImage_87 9 rfl
theorem dX6_isImage_107 : decode cX6_isImage 107 = .ok (.iload_n 3, 1) := dk_i kdX6_isImage_87 10 rfl
theorem dX6_isImage_108 : decode cX6_isImage 108 = .ok (.aload_n 0, 1) := dk_i kdX6_isImage_87 11 rfl
theorem dX6_isImage_109 : decode cX6_isImage 109 = .ok (.getfield 34, 3) := dk_i kdX6_isImage_87 12 rfl
theorem dX6_isImage_112 : decode cX6_isImage 112 = .ok (.getfield 50, 3) := dk_i kdX6_isImage_87 13 rfl
theorem dX6_isImage_115 : decode cX6_isImage 115 = .ok (.if_icmp .ge 32, 3) := dk_i kdX6_isImage_87 14 rfl
theorem dX6_isImage_118 : decode cX6_isImage 118 = .ok (.aload_n 1, 1) := dk_i kdX6_isImage_87 15 rfl
def ldX6_isImage_119 : List (Nat × ClassFile.Instr × Nat) := [(119, .iconst 2, 1), (120, .iconst 3, 1), (121, .aload_n 0, 1), (122, .getfield 34, 3), (125, .getfield 38, 3), (128, .imul, 1), (129, .iadd, 1), (130, .iload_n 3, 1), (131, .iadd, 1), (132, .invokevirtual 113, 3), (135, .iconst 1, 1), (136, .if_icmp .le 5, 3), (139, .iconst 0, 1), (140, .ireturn, 1), (141, .iinc 3 1, 3), (144, .goto (-37), 3)]
theorem kdX6_isImage_119 : dkO cX6_isImage 119 ldX6_isImage_119 = true := by decide +kernel
theorem dX6_isImage_119 : decode cX6_isImage 119 = .ok (.iconst 2, 1) := dk_i kdX6_isImage_119 0 rfl
theorem dX6_isImage_120 : decode cX6_isImage 120 = .ok (.iconst 3, 1) := dk_i kdX6_isImage_119 1 rfl
theorem dX6_isImage_121 : decode cX6_isImage 121 = .ok (.aload_n 0, 1) := dk_i kdX6_isImage_119 2 rfl
theorem dX6_isImage_122 : decode cX6_isImage 122 = .ok (.getfield 34, 3) := dk_i kdX6_isImage_119 3 rfl
theorem dX6_isImage_125 : decode cX6_isImage 125 = .ok (.getfield 38, 3) := dk_i kdX6_isImage_119 4 rfl
theorem dX6_isImage_128 : decode cX6_isImage 128 = .ok (.imul, 1) := dk_i kdX6_isImage_119 5 rfl
theorem dX6_isImage_129 : decode cX6_isImage 129 = .ok (.iadd, 1) := dk_i kdX6_isImage_119 6 rfl
theorem dX6_isImage_130 : decode cX6_isImage 130 = .ok (.iload_n 3, 1) := dk_i kdX6_isImage_119 7 rfl
theorem dX6_isImage_131 : decode cX6_isImage 131 = .ok (.iadd, 1) := dk_i kdX6_isImage_119 8 rfl
theorem dX6_isImage_132 : decode cX6_isImage 132 = .ok (.invokevirtual 113, 3) := dk_i kdX6_isImage_119 9 rfl
theorem dX6_isImage_135 : decode cX6_isImage 135 = .ok (.iconst 1, 1) := dk_i kdX6_isImage_119 10 rfl
theorem dX6_isImage_136 : decode cX6_isImage 136 = .ok (.if_icmp .le 5, 3) := dk_i kdX6_isImage_119 11 rfl
theorem dX6_isImage_139 : decode cX6_isImage 139 = .ok (.iconst 0, 1) := dk_i kdX6_isImage_119 12 rfl
theorem dX6_isImage_140 : decode cX6_isImage 140 = .ok (.ireturn, 1) := dk_i kdX6_isImage_119 13 rfl
theorem dX6_isImage_141 : decode cX6_isImage 141 = .ok (.iinc 3 1, 3) := dk_i kdX6_isImage_119 14 rfl
theorem dX6_isImage_144 : decode cX6_isImage 144 = .ok (.goto (-37), 3) := dk_i kdX6_isImage_119 15 rfl
def ldX6_isImage_147 : List (Nat × ClassFile.Instr × Nat) := [(147, .aload_n 1, 1), (148, .iload_n 2, 1), (149, .iconst 1, 1), (150, .isub, 1), (151, .invokevirtual 113, 3), (154, .aload_n 1, 1), (155, .getfield 120, 3), (158, .iload_n 2, 1), (159, .iconst 1, 1), (160, .isub, 1), (161, .invokestatic 100, 3), (164, .if_icmp .ne 7, 3), (167, .iconst 1, 1), (168, .goto 4, 3), (171, .iconst 0, 1), (172, .ireturn, 1)]
theorem kdX6_isImage_147 : dkO cX6_isImage 147 ldX6_isImage_147 = true := by decide +kernel
theorem dX6_isImage_147 : decode cX6_isImage 147 = .ok (.aload_n 1, 1) := dk_i kdX6_isImage_147 0 rfl
theorem dX6_isImage_148 : decode cX6_isImage 148 = .ok (.iload_n 2, 1) := dk_i kdX6_isImage_147 1 rfl
theorem dX6_isImage_149 : decode cX6_isImage 149 = .ok (.iconst 1, 1) := dk_i kdX6_isImage_147 2 rfl
theorem dX6_isImage_150 : decode cX6_isImage 150 = .ok (.isub, 1) := dk_i kdX6_isImage_147 3 rfl
theorem dX6_isImage_151 : decode cX6_isImage 151 = .ok (.invokevirtual 113, 3) := dk_i kdX6_isImage_147 4 rfl
theorem dX6_isImage_154 : decode cX6_isImage 154 = .ok (.aload_n 1, 1) := dk_i kdX6_isImage_147 5 rfl
theorem dX6_isImage_155 : decode cX6_isImage 155 = .ok (.getfield 120, 3) := dk_i kdX6_isImage_147 6 rfl
theorem dX6_isImage_158 : decode cX6_isImage 158 = .ok (.iload_n 2, 1) := dk_i kdX6_isImage_147 7 rfl
theorem dX6_isImage_159 : decode cX6_isImage 159 = .ok (.iconst 1, 1) := dk_i kdX6_isImage_147 8 rfl
theorem dX6_isImage_160 : decode cX6_isImage 160 = .ok (.isub, 1) := dk_i kdX6_isImage_147 9 rfl
theorem dX6_isImage_161 : decode cX6_isImage 161 = .ok (.invokestatic 100, 3) := dk_i kdX6_isImage_147 10 rfl
theorem dX6_isImage_164 : decode cX6_isImage 164 = .ok (.if_icmp .ne 7, 3) := dk_i kdX6_isImage_147 11 rfl
theorem dX6_isImage_167 : decode cX6_isImage 167 = .ok (.iconst 1, 1) := dk_i kdX6_isImage_147 12 rfl
theorem dX6_isImage_168 : decode cX6_isImage 168 = .ok (.goto 4, 3) := dk_i kdX6_isImage_147 13 rfl
theorem dX6_isImage_171 : decode cX6_isImage 171 = .ok (.iconst 0, 1) := dk_i kdX6_isImage_147 14 rfl
theorem dX6_isImage_172 : decode cX6_isImage 172 = .ok (.ireturn, 1) := dk_i kdX6_isImage_147 15 rfl
def ldX6_readImage_0 : List (Nat × ClassFile.Instr × Nat) := [(0, .aload_n 0, 1), (1, .aload_n 1, 1), (2, .iconst 0, 1), (3, .invokevirtual 109, 3), (6, .putfield 9, 3), (9, .aload_n 0, 1), (10, .iconst 0, 1), (11, .putfield 25, 3), (14, .iconst 0, 1), (15, .istore_n 2, 1), (16, .iload_n 2, 1), (17, .aload_n 0, 1), (18, .getfield 34, 3), (21, .getfield 38, 3), (24, .if_icmp .ge 52, 3), (27, .aload_n 1, 1)]
theorem kdX6_readImage_0 : dkO cX6_readImage 0 ldX6_readImage_0 = true := by decide +kernel
theorem dX6_readImage_0 : decode cX6_readImage 0 = .ok (.aload_n 0, 1) := dk_i kdX6_readImage_0 0 rfl
theorem dX6_readImage_1 : decode cX6_readImage 1 = .ok (.aload_n 1, 1) := dk_i kdX6_readImage_0 1 rfl
theorem dX6_readImage_2 : decode cX6_readImage 2 = .ok (.iconst 0, 1) := dk_i kdX6_readImage_0 2 rfl
theorem dX6_readImage_3 : decode cX6_readImage 3 = .ok (.invokevirtual 109, 3) := dk_i kdX6_readImage_0 3 rfl
theorem dX6_readImage_6 : decode cX6_readImage 6 = .ok (.putfield 9, 3) := dk_i kdX6_readImage_0 4 rfl
theorem dX6_readImage_9 : decode cX6_readImage 9 = .ok (.aload_n 0, 1) := dk_i kdX6_readImage_0 5 rfl
theorem dX6_readImage_10 : decode cX6_readImage 10 = .ok (.iconst 0, 1) := dk_i kdX6_readImage_0 6 rfl
theorem dX6_readImage_11 : decode cX6_readImage 11 = .ok (.putfield 25, 3) := dk_i kdX6_readImage_0 7 rfl
theorem dX6_readImage_14 : decode cX6_readImage 14 = .ok (.iconst 0, 1) := dk_i kdX6_readImage_0 8 rfl
theorem dX6_readImage_15 : decode cX6_readImage 15 = .ok (.istore_n 2, 1) := dk_i kdX6_readImage_0 9 rfl
theorem dX6_readImage_16 : decode cX6_readImage 16 = .ok (.iload_n 2, 1) := dk_i kdX6_readImage_0 10 rfl
theorem dX6_readImage_17 : decode cX6_readImage 17 = .ok (.aload_n 0, 1) := dk_i kdX6_readImage_0 11 rfl
theorem dX6_readImage_18 : decode cX6_readImage 18 = .ok (.getfield 34, 3) := dk_i kdX6_readImage_0 12 rfl
theorem dX6_readImage_21 : decode cX6_readImage 21 = .ok (.getfield 38, 3) := dk_i kdX6_readImage_0 13 rfl
theorem dX6_readImage_24 : decode cX6_readImage 24 = .ok (.if_icmp .ge 52, 3) := dk_i kdX6_readImage_0 14 rfl
theorem dX6_readImage_27 : decode cX6_readImage 27 = .ok (.aload_n 1, 1) := dk_i kdX6_readImage_0 15 rfl
def ldX6_readImage_28 : List (Nat × ClassFile.Instr × Nat) := [(28, .iconst 2, 1), (29, .iconst 3, 1), (30, .iload_n 2, 1), (31, .imul, 1), (32, .iadd, 1), (33, .invokevirtual 113, 3), (36, .istore_n 3, 1), (37, .aload_n 0, 1), (38, .getfield 15, 3), (41, .iload_n 2, 1), (42, .iload_n 3, 1), (43, .sipush 255, 3), (46, .if_icmp .ne 7, 3), (49, .iconst (-1), 1), (50, .goto 4, 3), (53, .iload_n 3, 1)]
theorem kdX6_readImage_28 : dkO cX6_readImage 28 ldX6_readImage_28 = true := by decide +kernel
theorem dX6_readImage_28 : decode cX6_readImage 28 = .ok (.iconst 2, 1) := dk_i kdX6_readImage_28 0 rfl
theorem dX6_readImage_29 : decode cX6_readImage 29 = .ok (.iconst 3, 1) := dk_i kdX6_readImage_28 1 rfl
theorem dX6_readImage_30 : decode cX6_readImage 30 = .ok (.iload_n 2, 1) := dk_i kdX6_readImage_28 2 rfl
theorem dX6_readImage_31 : decode cX6_readImage 31 = .ok (.imul, 1) := dk_i kdX6_readImage_28 3 rfl
theorem dX6_readImage_32 : decode cX6_readImage 32 = .ok (.iadd, 1) := dk_i kdX6_readImage_28 4 rfl
theorem dX6_readImage_33 : decode cX6_readImage 33 = .ok (.invokevirtual 113, 3) := dk_i kdX6_readImage_28 5 rfl
theorem dX6_readImage_36 : decode cX6_readImage 36 = .ok (.istore_n 3, 1) := dk_i kdX6_readImage_28 6 rfl
theorem dX6_readImage_37 : decode cX6_readImage 37 = .ok (.aload_n 0, 1) := dk_i kdX6_readImage_28 7 rfl
theorem dX6_readImage_38 : decode cX6_readImage 38 = .ok (.getfield 15, 3) := dk_i kdX6_readImage_28 8 rfl
theorem dX6_readImage_41 : decode cX6_readImage 41 = .ok (.iload_n 2, 1) := dk_i kdX6_readImage_28 9 rfl
theorem dX6_readImage_42 : decode cX6_readImage 42 = .ok (.iload_n 3, 1) := dk_i kdX6_readImage_28 10 rfl
theorem dX6_readImage_43 : decode cX6_readImage 43 = .ok (.sipush 255, 3) := dk_i kdX6_readImage_28 11 rfl
theorem dX6_readImage_46 : decode cX6_readImage 46 = .ok (.if_icmp .ne 7, 3) := dk_i kdX6_readImage_28 12 rfl
theorem dX6_readImage_49 : decode cX6_readImage 49 = .ok (.iconst (-1), 1) := dk_i kdX6_readImage_28 13 rfl
theorem dX6_readImage_50 : decode cX6_readImage 50 = .ok (.goto 4, 3) := dk_i kdX6_readImage_28 14 rfl
theorem dX6_readImage_53 : decode cX6_readImage 53 = .ok (.iload_n 3, 1) := dk_i kdX6_readImage_28 15 rfl
def ldX6_readImage_54 : List (Nat × ClassFile.Instr × Nat) := [(54, .iastore, 1), (55, .aload_n 0, 1), (56, .getfield 19, 3), (59, .iload_n 2, 1), (60, .aload_n 1, 1), (61, .iconst 3, 1), (62, .iconst 3, 1), (63, .iload_n 2, 1), (64, .imul, 1), (65, .iadd, 1), (66, .invokevirtual 109, 3), (69, .iastore, 1), (70, .iinc 2 1, 3), (73, .goto (-57), 3), (76, .iconst 0, 1), (77, .istore_n 2, 1)]
theorem kdX6_readImage_54 : dkO cX6_readImage 54 ldX6_readImage_54 = true := by decide +kernel
theorem dX6_readImage_54 : decode cX6_readImage 54 = .ok (.iastore, 1) := dk_i kdX6_readImage_54 0 rfl
theorem dX6_readImage_55 : decode cX6_readImage 55 = .ok (.aload_n 0, 1) := dk_i kdX6_readImage_54 1 rfl
theorem dX6_readImage_56 : decode cX6_readImage 56 = .ok (.getfield 19, 3) := dk_i kdX6_readImage_54 2 rfl
theorem dX6_readImage_59 : decode cX6_readImage 59 = .ok (.iload_n 2, 1) := dk_i kdX6_readImage_54 3 rfl
theorem dX6_readImage_60 : decode cX6_readImage 60 = .ok (.aload_n 1, 1) := dk_i kdX6_readImage_54 4 rfl
theorem dX6_readImage_61 : decode cX6_readImage 61 = .ok (.iconst 3, 1) := dk_i kdX6_readImage_54 5 rfl
theorem dX6_readImage_62 : decode cX6_readImage 62 = .ok (.iconst 3, 1) := dk_i kdX6_readImage_54 6 rfl
theorem dX6_readImage_63 : decode cX6_readImage 63 = .ok (.iload_n 2, 1) := dk_i kdX6_readImage_54 7 rfl
theorem dX6_readImage_64 : decode cX6_readImage 64 = .ok (.imul, 1) := dk_i kdX6_readImage_54 8 rfl
theorem dX6_readImage_65 : decode cX6_readImage 65 = .ok (.iadd, 1) := dk_i kdX6_readImage_54 9 rfl
theorem dX6_readImage_66 : decode cX6_readImage 66 = .ok (.invokevirtual 109, 3) := dk_i kdX6_readImage_54 10 rfl
theorem dX6_readImage_69 : decode cX6_readImage 69 = .ok (.iastore, 1) := dk_i kdX6_readImage_54 11 rfl
theorem dX6_readImage_70 : decode cX6_readImage 70 = .ok (.iinc 2 1, 3) := dk_i kdX6_readImage_54 12 rfl
theorem dX6_readImage_73 : decode cX6_readImage 73 = .ok (.goto (-57), 3) := dk_i kdX6_readImage_54 13 rfl
theorem dX6_readImage_76 : decode cX6_readImage 76 = .ok (.iconst 0, 1) := dk_i kdX6_readImage_54 14 rfl
theorem dX6_readImage_77 : decode cX6_readImage 77 = .ok (.istore_n 2, 1) := dk_i kdX6_readImage_54 15 rfl
def ldX6_readImage_78 : List (Nat × ClassFile.Instr × Nat) := [(78, .iload_n 2, 1), (79, .aload_n 0, 1), (80, .getfield 34, 3), (83, .getfield 50, 3), (86, .if_icmp .ge 32, 3), (89, .aload_n 0, 1), (90, .getfield 22, 3), (93, .iload_n 2, 1), (94, .aload_n 1, 1), (95, .iconst 2, 1), (96, .iconst 3, 1), (97, .aload_n 0, 1), (98, .getfield 34, 3), (101, .getfield 38, 3), (104, .imul, 1), (105, .iadd, 1)]
theorem kdX6_readImage_78 : dkO cX6_readImage 78 ldX6_readImage_78 = true := by decide +kernel
theorem dX6_readImage_78 : decode cX6_readImage 78 = .ok (.iload_n 2, 1) := dk_i kdX6_readImage_78 0 rfl
theorem dX6_readImage_79 : decode cX6_readImage 79 = .ok (.aload_n 0, 1) := dk_i kdX6_readImage_78 1 rfl
theorem dX6_readImage_80 : decode cX6_readImage 80 = .ok (.getfield 34, 3) := dk_i kdX6_readImage_78 2 rfl
theorem dX6_readImage_83 : decode cX6_readImage 83 = .ok (.getfield 50, 3) := dk_i kdX6_readImage_78 3 rfl
theorem dX6_readImage_86 : decode cX6_readImage 86 = .ok (.if_icmp .ge 32, 3) := dk_i kdX6_readImage_78 4 rfl
theorem dX6_readImage_89 : decode cX6_readImage 89 = .ok (.aload_n 0, 1) := dk_i kdX6_readImage_78 5 rfl
theorem dX6_readImage_90 : decode cX6_readImage 90 = .ok (.getfield 22, 3) := dk_i kdX6_readImage_78 6 rfl
theorem dX6_readImage_93 : decode cX6_readImage 93 = .ok (.iload_n 2, 1) := dk_i kdX6_readImage_78 7 rfl
theorem dX6_readImage_94 : decode cX6_readImage 94 = .ok (.aload_n 1, 1) := dk_i kdX6_readImage_78 8 rfl
theorem dX6_readImage_95 : decode cX6_readImage 95 = .ok (.iconst 2, 1) := dk_i kdX6_readImage_78 9 rfl
theorem dX6_readImage_96 : decode cX6_readImage 96 = .ok (.iconst 3, 1) := dk_i kdX6_readImage_78 10 rfl
theorem dX6_readImage_97 : decode cX6_readImage 97 = .ok (.aload_n 0, 1) := dk_i kdX6_readImage_78 11 rfl
theorem dX6_readImage_98 : decode cX6_readImage 98 = .ok (.getfield 34, 3) := dk_i kdX6_readImage_78 12 rfl
theorem dX6_readImage_101 : decode cX6_readImage 101 = .ok (.getfield 38, 3) := dk_i kdX6_readImage_78 13 rfl
theorem dX6_readImage_104 : decode cX6_readImage 104 = .ok (.imul, 1) := dk_i kdX6_readImage_78 14 rfl
theorem dX6_readImage_105 : decode cX6_readImage 105 = .ok (.iadd, 1) := dk_i kdX6_readImage_78 15 rfl
def ldX6_readImage_106 : List (Nat × ClassFile.Instr × Nat) := [(106, .iload_n 2, 1), (107, .iadd, 1), (108, .invokevirtual 113, 3), (111, .iastore, 1), (112, .iinc 2 1, 3), (115, .goto (-37), 3), (118, .return_, 1)]
theorem kdX6_readImage_106 : dkO cX6_readImage 106 ldX6_readImage_106 = true := by decide +kernel
theorem dX6_readImage_106 : decode cX6_readImage 106 = .ok (.iload_n 2, 1) := dk_i kdX6_readImage_106 0 rfl
theorem dX6_readImage_107 : decode cX6_readImage 107 = .ok (.iadd, 1) := dk_i kdX6_readImage_106 1 rfl
theorem dX6_readImage_108 : decode cX6_readImage 108 = .ok (.invokevirtual 113, 3) := dk_i kdX6_readImage_106 2 rfl
theorem dX6_readImage_111 : decode cX6_readImage 111 = .ok (.iastore, 1) := dk_i kdX6_readImage_106 3 rfl
theorem dX6_readImage_112 : decode cX6_readImage 112 = .ok (.iinc 2 1, 3) := dk_i kdX6_readImage_106 4 rfl
theorem dX6_readImage_115 : decode cX6_readImage 115 = .ok (.goto (-37), 3) := dk_i kdX6_readImage_106 5 rfl
theorem dX6_readImage_118 : decode cX6_readImage 118 = .ok (.return_, 1) := dk_i kdX6_readImage_106 6 rfl
end
section
def ldX7_init_0 : List (Nat × ClassFile.Instr × Nat) := [(0, .aload_n 0, 1), (1, .invokespecial 3, 3), (4, .aload_n 0, 1), (5, .sipush 1600, 3), (8, .newarray .int, 2), (10, .putfield 9, 3), (13, .aload_n 0, 1), (14, .iconst 0, 1), (15, .putfield 15, 3), (18, .return_, 1)]
theorem kdX7_init_0 : dkO cX7_init 0 ldX7_init_0 = true := by decide +kernel
theorem dX7_init_0 : decode cX7_init 0 = .ok (.aload_n 0, 1) := dk_i kdX7_init_0 0 rfl
theorem dX7_init_1 : decode cX7_init 1 = .ok (.invokespecial 3, 3) := dk_i kdX7_init_0 1 rfl
theorem dX7_init_4 : decode cX7_init 4 = .ok (.aload_n 0, 1) := dk_i kdX7_init_0 2 rfl
theorem dX7_init_5 : decode cX7_init 5 = .ok (.sipush 1600, 3) := dk_i kdX7_init_0 3 rfl
theorem dX7_init_8 : decode cX7_init 8 = .ok (.newarray .int, 2) := dk_i kdX7_init_0 4 rfl
theorem dX7_init_10 : decode cX7_init 10 = .ok (.putfield 9, 3) := dk_i kdX7_init_0 5 rfl
theorem dX7_init_13 : decode cX7_init 13 = .ok (.aload_n 0, 1) := dk_i kdX7_init_0 6 rfl
theorem dX7_init_14 : decode cX7_init 14 = .ok (.iconst 0, 1) := dk_i kdX7_init_0 7 rfl
theorem dX7_init_15 : decode cX7_init 15 = .ok (.putfield 15, 3) := dk_i kdX7_init_0 8 rfl
theorem dX7_init_18 : decode cX7_init 18 = .ok (.return_, 1) := dk_i kdX7_init_0 9 rfl
def ldX7_hasRoomFor_0 : List (Nat × ClassFile.Instr × Nat) := [(0, .aload_n 0, 1), (1, .getfield 15, 3), (4, .iload_n 1, 1), (5, .iadd, 1), (6, .sipush 1600, 3), (9, .if_icmp .gt 7, 3), (12, .iconst 1, 1), (13, .goto 4, 3), (16, .iconst 0, 1), (17, .ireturn, 1)]
theorem kdX7_hasRoomFor_0 : dkO cX7_hasRoomFor 0 ldX7_hasRoomFor_0 = true := by decide +kernel
theorem dX7_hasRoomFor_0 : decode cX7_hasRoomFor 0 = .ok (.aload_n 0, 1) := dk_i kdX7_hasRoomFor_0 0 rfl
theorem dX7_hasRoomFor_1 : decode cX7_hasRoomFor 1 = .ok (.getfield 15, 3) := dk_i kdX7_hasRoomFor_0 1 rfl
theorem dX7_hasRoomFor_4 : decode cX7_hasRoomFor 4 = .ok (.iload_n 1, 1) := dk_i kdX7_hasRoomFor_0 2 rfl
theorem dX7_hasRoomFor_5 : decode cX7_hasRoomFor 5 = .ok (.iadd, 1) := dk_i kdX7_hasRoomFor_0 3 rfl
theorem dX7_hasRoomFor_6 : decode cX7_hasRoomFor 6 = .ok (.sipush 1600, 3) := dk_i kdX7_hasRoomFor_0 4 rfl
theorem dX7_hasRoomFor_9 : decode cX7_hasRoomFor 9 = .ok (.if_icmp .gt 7, 3) := dk_i kdX7_hasRoomFor_0 5 rfl
theorem dX7_hasRoomFor_12 : decode cX7_hasRoomFor 12 = .ok (.iconst 1, 1) := dk_i kdX7_hasRoomFor_0 6 rfl
theorem dX7_hasRoomFor_13 : decode cX7_hasRoomFor 13 = .ok (.goto 4, 3) := dk_i kdX7_hasRoomFor_0 7 rfl
theorem dX7_hasRoomFor_16 : decode cX7_hasRoomFor 16 = .ok (.iconst 0, 1) := dk_i kdX7_hasRoomFor_0 8 rfl
theorem dX7_hasRoomFor_17 : decode cX7_hasRoomFor 17 = .ok (.ireturn, 1) := dk_i kdX7_hasRoomFor_0 9 rfl
def ldX7_addNumber_0 : List (Nat × ClassFile.Instr × Nat) := [(0, .bipush 24, 2), (2, .istore_n 2, 1), (3, .iload_n 2, 1), (4, .ifCond .lt 45, 3), (7, .aload_n 0, 1), (8, .getfield 15, 3), (11, .sipush 1600, 3), (14, .if_icmp .ge 29, 3), (17, .aload_n 0, 1), (18, .getfield 9, 3), (21, .aload_n 0, 1), (22, .getfield 15, 3), (25, .iload_n 1, 1), (26, .iload_n 2, 1), (27, .ishr, 1), (28, .sipush 255, 3)]
theorem kdX7_addNumber_0 : dkO cX7_addNumber 0 ldX7_addNumber_0 = true := by decide +kernel
theorem dX7_addNumber_0 : decode cX7_addNumber 0 = .ok (.bipush 24, 2) := dk_i kdX7_addNumber_0 0 rfl
theorem dX7_addNumber_2 : decode cX7_addNumber 2 = .ok (.istore_n 2, 1) := dk_i kdX7_addNumber_0 1 rfl
theorem dX7_addNumber_3 : decode cX7_addNumber 3 = .ok (.iload_n 2, 1) := dk_i kdX7_addNumber_0 2 rfl
theorem dX7_addNumber_4 : decode cX7_addNumber 4 = .ok (.ifCond .lt 45, 3) := dk_i kdX7_addNumber_0 3 rfl
theorem dX7_addNumber_7 : decode cX7_addNumber 7 = .ok (.aload_n 0, 1) := dk_i kdX7_addNumber_0 4 rfl
theorem dX7_addNumber_8 : decode cX7_addNumber 8 = .ok (.getfield 15, 3) := dk_i kdX7_addNumber_0 5 rfl
theorem dX7_addNumber_11 : decode cX7_addNumber 11 = .ok (.sipush 1600, 3) := dk_i kdX7_addNumber_0 6 rfl
theorem dX7_addNumber_14 : decode cX7_addNumber 14 = .ok (.if_icmp .ge 29, 3) := dk_i kdX7_addNumber_0 7 rfl
theorem dX7_addNumber_17 : decode cX7_addNumber 17 = .ok (.aload_n 0, 1) := dk_i kdX7_addNumber_0 8 rfl
theorem dX7_addNumber_18 : decode cX7_addNumber 18 = .ok (.getfield 9, 3) := dk_i kdX7_addNumber_0 9 rfl
theorem dX7_addNumber_21 : decode cX7_addNumber 21 = .ok (.aload_n 0, 1) := dk_i kdX7_addNumber_0 10 rfl
theorem dX7_addNumber_22 : decode cX7_addNumber 22 = .ok (.getfield 15, 3) := dk_i kdX7_addNumber_0 11 rfl
theorem dX7_addNumber_25 : decode cX7_addNumber 25 = .ok (.iload_n 1, 1) := dk_i kdX7_addNumber_0 12 rfl
theorem dX7_addNumber_26 : decode cX7_addNumber 26 = .ok (.iload_n 2, 1) := dk_i kdX7_addNumber_0 13 rfl
theorem dX7_addNumber_27 : decode cX7_addNumber 27 = .ok (.ishr, 1) := dk_i kdX7_addNumber_0 14 rfl
theorem dX7_addNumber_28 : decode cX7_addNumber 28 = .ok (.sipush 255, 3) := dk_i kdX7_addNumber_0 15 rfl
def ldX7_addNumber_31 : List (Nat × ClassFile.Instr × Nat) := [(31, .iand, 1), (32, .iastore, 1), (33, .aload_n 0, 1), (34, .dup, 1), (35, .getfield 15, 3), (38, .iconst 1, 1), (39, .iadd, 1), (40, .putfield 15, 3), (43, .iinc 2 (-8), 3), (46, .goto (-43), 3), (49, .return_, 1)]
theorem kdX7_addNumber_31 : dkO cX7_addNumber 31 ldX7_addNumber_31 = true := by decide +kernel
theorem dX7_addNumber_31 : decode cX7_addNumber 31 = .ok (.iand, 1) := dk_i kdX7_addNumber_31 0 rfl
theorem dX7_addNumber_32 : decode cX7_addNumber 32 = .ok (.iastore, 1) := dk_i kdX7_addNumber_31 1 rfl
theorem dX7_addNumber_33 : decode cX7_addNumber 33 = .ok (.aload_n 0, 1) := dk_i kdX7_addNumber_31 2 rfl
theorem dX7_addNumber_34 : decode cX7_addNumber 34 = .ok (.dup, 1) := dk_i kdX7_addNumber_31 3 rfl
theorem dX7_addNumber_35 : decode cX7_addNumber 35 = .ok (.getfield 15, 3) := dk_i kdX7_addNumber_31 4 rfl
theorem dX7_addNumber_38 : decode cX7_addNumber 38 = .ok (.iconst 1, 1) := dk_i kdX7_addNumber_31 5 rfl
theorem dX7_addNumber_39 : decode cX7_addNumber 39 = .ok (.iadd, 1) := dk_i kdX7_addNumber_31 6 rfl
theorem dX7_addNumber_40 : decode cX7_addNumber 40 = .ok (.putfield 15, 3) := dk_i kdX7_addNumber_31 7 rfl
theorem dX7_addNumber_43 : decode cX7_addNumber 43 = .ok (.iinc 2 (-8), 3) := dk_i kdX7_addNumber_31 8 rfl
theorem dX7_addNumber_46 : decode cX7_addNumber 46 = .ok (.goto (-43), 3) := dk_i kdX7_addNumber_31 9 rfl
theorem dX7_addNumber_49 : decode cX7_addNumber 49 = .ok (.return_, 1) := dk_i kdX7_addNumber_31 10 rfl
def ldX7_at_0 : List (Nat × ClassFile.Instr × Nat) := [(0, .iload_n 1, 1), (1, .ifCond .lt 20, 3), (4, .iload_n 1, 1), (5, .aload_n 0, 1), (6, .getfield 15, 3), (9, .if_icmp .ge 12, 3), (12, .aload_n 0, 1), (13, .getfield 9, 3), (16, .iload_n 1, 1), (17, .iaload, 1), (18, .goto 4, 3), (21, .iconst (-1), 1), (22, .ireturn, 1)]
theorem kdX7_at_0 : dkO cX7_at 0 ldX7_at_0 = true := by decide +kernel
theorem dX7_at_0 : decode cX7_at 0 = .ok (.iload_n 1, 1) := dk_i kdX7_at_0 0 rfl
theorem dX7_at_1 : decode cX7_at 1 = .ok (.ifCond .lt 20, 3) := dk_i kdX7_at_0 1 rfl
theorem dX7_at_4 : decode cX7_at 4 = .ok (.iload_n 1, 1) := dk_i kdX7_at_0 2 rfl
theorem dX7_at_5 : decode cX7_at 5 = .ok (.aload_n 0, 1) := dk_i kdX7_at_0 3 rfl
theorem dX7_at_6 : decode cX7_at 6 = .ok (.getfield 15, 3) := dk_i kdX7_at_0 4 rfl
theorem dX7_at_9 : decode cX7_at 9 = .ok (.if_icmp .ge 12, 3) := dk_i kdX7_at_0 5 rfl
theorem dX7_at_12 : decode cX7_at 12 = .ok (.aload_n 0, 1) := dk_i kdX7_at_0 6 rfl
theorem dX7_at_13 : decode cX7_at 13 = .ok (.getfield 9, 3) := dk_i kdX7_at_0 7 rfl
theorem dX7_at_16 : decode cX7_at 16 = .ok (.iload_n 1, 1) := dk_i kdX7_at_0 8 rfl
theorem dX7_at_17 : decode cX7_at 17 = .ok (.iaload, 1) := dk_i kdX7_at_0 9 rfl
theorem dX7_at_18 : decode cX7_at 18 = .ok (.goto 4, 3) := dk_i kdX7_at_0 10 rfl
theorem dX7_at_21 : decode cX7_at 21 = .ok (.iconst (-1), 1) := dk_i kdX7_at_0 11 rfl
theorem dX7_at_22 : decode cX7_at 22 = .ok (.ireturn, 1) := dk_i kdX7_at_0 12 rfl
def ldX7_pairAt_0 : List (Nat × ClassFile.Instr × Nat) := [(0, .sipush 256, 3), (3, .aload_n 0, 1), (4, .iload_n 1, 1), (5, .invokevirtual 19, 3), (8, .imul, 1), (9, .aload_n 0, 1), (10, .iload_n 1, 1), (11, .iconst 1, 1), (12, .iadd, 1), (13, .invokevirtual 19, 3), (16, .iadd, 1), (17, .ireturn, 1)]
theorem kdX7_pairAt_0 : dkO cX7_pairAt 0 ldX7_pairAt_0 = true := by decide +kernel
theorem dX7_pairAt_0 : decode cX7_pairAt 0 = .ok (.sipush 256, 3) := dk_i kdX7_pairAt_0 0 rfl
theorem dX7_pairAt_3 : decode cX7_pairAt 3 = .ok (.aload_n 0, 1) := dk_i kdX7_pairAt_0 1 rfl
theorem dX7_pairAt_4 : decode cX7_pairAt 4 = .ok (.iload_n 1, 1) := dk_i kdX7_pairAt_0 2 rfl
theorem dX7_pairAt_5 : decode cX7_pairAt 5 = .ok (.invokevirtual 19, 3) := dk_i kdX7_pairAt_0 3 rfl
theorem dX7_pairAt_8 : decode cX7_pairAt 8 = .ok (.imul, 1) := dk_i kdX7_pairAt_0 4 rfl
theorem dX7_pairAt_9 : decode cX7_pairAt 9 = .ok (.aload_n 0, 1) := dk_i kdX7_pairAt_0 5 rfl
theorem dX7_pairAt_10 : decode cX7_pairAt 10 = .ok (.iload_n 1, 1) := dk_i kdX7_pairAt_0 6 rfl
theorem dX7_pairAt_11 : decode cX7_pairAt 11 = .ok (.iconst 1, 1) := dk_i kdX7_pairAt_0 7 rfl
theorem dX7_pairAt_12 : decode cX7_pairAt 12 = .ok (.iadd, 1) := dk_i kdX7_pairAt_0 8 rfl
theorem dX7_pairAt_13 : decode cX7_pairAt 13 = .ok (.invokevirtual 19, 3) := dk_i kdX7_pairAt_0 9 rfl
theorem dX7_pairAt_16 : decode cX7_pairAt 16 = .ok (.iadd, 1) := dk_i kdX7_pairAt_0 10 rfl
theorem dX7_pairAt_17 : decode cX7_pairAt 17 = .ok (.ireturn, 1) := dk_i kdX7_pairAt_0 11 rfl
end
