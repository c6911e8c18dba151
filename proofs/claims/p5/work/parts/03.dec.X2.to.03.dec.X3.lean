section
def ldX2_init_0 : List (Nat × ClassFile.Instr × Nat) := [(0, .aload_n 0, 1), (1, .invokespecial 3, 3), (4, .aload_n 0, 1), (5, .bipush 20, 2), (7, .bipush 18, 2), (9, .multianewarray 11 2, 4), (13, .putfield 13, 3), (16, .aload_n 0, 1), (17, .iconst 0, 1), (18, .putfield 18, 3), (21, .aload_n 0, 1), (22, .iconst 0, 1), (23, .putfield 22, 3), (26, .return_, 1)]
theorem kdX2_init_0 : dkO cX2_init 0 ldX2_init_0 = true := by decide +kernel
theorem dX2_init_0 : decode cX2_init 0 = .ok (.aload_n 0, 1) := dk_i kdX2_init_0 0 rfl
theorem dX2_init_1 : decode cX2_init 1 = .ok (.invokespecial 3, 3) := dk_i kdX2_init_0 1 rfl
theorem dX2_init_4 : decode cX2_init 4 = .ok (.aload_n 0, 1) := dk_i kdX2_init_0 2 rfl
theorem dX2_init_5 : decode cX2_init 5 = .ok (.bipush 20, 2) := dk_i kdX2_init_0 3 rfl
theorem dX2_init_7 : decode cX2_init 7 = .ok (.bipush 18, 2) := dk_i kdX2_init_0 4 rfl
theorem dX2_init_9 : decode cX2_init 9 = .ok (.multianewarray 11 2, 4) := dk_i kdX2_init_0 5 rfl
theorem dX2_init_13 : decode cX2_init 13 = .ok (.putfield 13, 3) := dk_i kdX2_init_0 6 rfl
theorem dX2_init_16 : decode cX2_init 16 = .ok (.aload_n 0, 1) := dk_i kdX2_init_0 7 rfl
theorem dX2_init_17 : decode cX2_init 17 = .ok (.iconst 0, 1) := dk_i kdX2_init_0 8 rfl
theorem dX2_init_18 : decode cX2_init 18 = .ok (.putfield 18, 3) := dk_i kdX2_init_0 9 rfl
theorem dX2_init_21 : decode cX2_init 21 = .ok (.aload_n 0, 1) := dk_i kdX2_init_0 10 rfl
theorem dX2_init_22 : decode cX2_init 22 = .ok (.iconst 0, 1) := dk_i kdX2_init_0 11 rfl
theorem dX2_init_23 : decode cX2_init 23 = .ok (.putfield 22, 3) := dk_i kdX2_init_0 12 rfl
theorem dX2_init_26 : decode cX2_init 26 = .ok (.return_, 1) := dk_i kdX2_init_0 13 rfl
def ldX2_remember_0 : List (Nat × ClassFile.Instr × Nat) := [(0, .aload_n 1, 1), (1, .aload_n 0, 1), (2, .getfield 13, 3), (5, .aload_n 0, 1), (6, .getfield 18, 3), (9, .aaload, 1), (10, .invokevirtual 25, 3), (13, .aload_n 0, 1), (14, .aload_n 0, 1), (15, .getfield 18, 3), (18, .iconst 1, 1), (19, .iadd, 1), (20, .bipush 20, 2), (22, .irem, 1), (23, .putfield 18, 3), (26, .aload_n 0, 1)]
theorem kdX2_remember_0 : dkO cX2_remember 0 ldX2_remember_0 = true := by decide +kernel
theorem dX2_remember_0 : decode cX2_remember 0 = .ok (.aload_n 1, 1) := dk_i kdX2_remember_0 0 rfl
theorem dX2_remember_1 : decode cX2_remember 1 = .ok (.aload_n 0, 1) := dk_i kdX2_remember_0 1 rfl
theorem dX2_remember_2 : decode cX2_remember 2 = .ok (.getfield 13, 3) := dk_i kdX2_remember_0 2 rfl
theorem dX2_remember_5 : decode cX2_remember 5 = .ok (.aload_n 0, 1) := dk_i kdX2_remember_0 3 rfl
theorem dX2_remember_6 : decode cX2_remember 6 = .ok (.getfield 18, 3) := dk_i kdX2_remember_0 4 rfl
theorem dX2_remember_9 : decode cX2_remember 9 = .ok (.aaload, 1) := dk_i kdX2_remember_0 5 rfl
theorem dX2_remember_10 : decode cX2_remember 10 = .ok (.invokevirtual 25, 3) := dk_i kdX2_remember_0 6 rfl
theorem dX2_remember_13 : decode cX2_remember 13 = .ok (.aload_n 0, 1) := dk_i kdX2_remember_0 7 rfl
theorem dX2_remember_14 : decode cX2_remember 14 = .ok (.aload_n 0, 1) := dk_i kdX2_remember_0 8 rfl
theorem dX2_remember_15 : decode cX2_remember 15 = .ok (.getfield 18, 3) := dk_i kdX2_remember_0 9 rfl
theorem dX2_remember_18 : decode cX2_remember 18 = .ok (.iconst 1, 1) := dk_i kdX2_remember_0 10 rfl
theorem dX2_remember_19 : decode cX2_remember 19 = .ok (.iadd, 1) := dk_i kdX2_remember_0 11 rfl
theorem dX2_remember_20 : decode cX2_remember 20 = .ok (.bipush 20, 2) := dk_i kdX2_remember_0 12 rfl
theorem dX2_remember_22 : decode cX2_remember 22 = .ok (.irem, 1) := dk_i kdX2_remember_0 13 rfl
theorem dX2_remember_23 : decode cX2_remember 23 = .ok (.putfield 18, 3) := dk_i kdX2_remember_0 14 rfl
theorem dX2_remember_26 : decode cX2_remember 26 = .ok (.aload_n 0, 1) := dk_i kdX2_remember_0 15 rfl
def ldX2_remember_27 : List (Nat × ClassFile.Instr × Nat) := [(27, .bipush 20, 2), (29, .aload_n 0, 1), (30, .getfield 22, 3), (33, .iconst 1, 1), (34, .iadd, 1), (35, .invokestatic 29, 3), (38, .putfield 22, 3), (41, .return_, 1)]
theorem kdX2_remember_27 : dkO cX2_remember 27 ldX2_remember_27 = true := by decide +kernel
theorem dX2_remember_27 : decode cX2_remember 27 = .ok (.bipush 20, 2) := dk_i kdX2_remember_27 0 rfl
theorem dX2_remember_29 : decode cX2_remember 29 = .ok (.aload_n 0, 1) := dk_i kdX2_remember_27 1 rfl
theorem dX2_remember_30 : decode cX2_remember 30 = .ok (.getfield 22, 3) := dk_i kdX2_remember_27 2 rfl
theorem dX2_remember_33 : decode cX2_remember 33 = .ok (.iconst 1, 1) := dk_i kdX2_remember_27 3 rfl
theorem dX2_remember_34 : decode cX2_remember 34 = .ok (.iadd, 1) := dk_i kdX2_remember_27 4 rfl
theorem dX2_remember_35 : decode cX2_remember 35 = .ok (.invokestatic 29, 3) := dk_i kdX2_remember_27 5 rfl
theorem dX2_remember_38 : decode cX2_remember 38 = .ok (.putfield 22, 3) := dk_i kdX2_remember_27 6 rfl
theorem dX2_remember_41 : decode cX2_remember 41 = .ok (.return_, 1) := dk_i kdX2_remember_27 7 rfl
def ldX2_bringBack_0 : List (Nat × ClassFile.Instr × Nat) := [(0, .aload_n 0, 1), (1, .getfield 22, 3), (4, .ifCond .gt 5, 3), (7, .iconst 0, 1), (8, .ireturn, 1), (9, .aload_n 0, 1), (10, .aload_n 0, 1), (11, .getfield 18, 3), (14, .bipush 20, 2), (16, .iadd, 1), (17, .iconst 1, 1), (18, .isub, 1), (19, .bipush 20, 2), (21, .irem, 1), (22, .putfield 18, 3), (25, .aload_n 0, 1)]
theorem kdX2_bringBack_0 : dkO cX2_bringBack 0 ldX2_bringBack_0 = true := by decide +kernel
theorem dX2_bringBack_0 : decode cX2_bringBack 0 = .ok (.aload_n 0, 1) := dk_i kdX2_bringBack_0 0 rfl
theorem dX2_bringBack_1 : decode cX2_bringBack 1 = .ok (.getfield 22, 3) := dk_i kdX2_bringBack_0 1 rfl
theorem dX2_bringBack_4 : decode cX2_bringBack 4 = .ok (.ifCond .gt 5, 3) := dk_i kdX2_bringBack_0 2 rfl
theorem dX2_bringBack_7 : decode cX2_bringBack 7 = .ok (.iconst 0, 1) := dk_i kdX2_bringBack_0 3 rfl
theorem dX2_bringBack_8 : decode cX2_bringBack 8 = .ok (.ireturn, 1) := dk_i kdX2_bringBack_0 4 rfl
theorem dX2_bringBack_9 : decode cX2_bringBack 9 = .ok (.aload_n 0, 1) := dk_i kdX2_bringBack_0 5 rfl
theorem dX2_bringBack_10 : decode cX2_bringBack 10 = .ok (.aload_n 0, 1) := dk_i kdX2_bringBack_0 6 rfl
theorem dX2_bringBack_11 : decode cX2_bringBack 11 = .ok (.getfield 18, 3) := dk_i kdX2_bringBack_0 7 rfl
theorem dX2_bringBack_14 : decode cX2_bringBack 14 = .ok (.bipush 20, 2) := dk_i kdX2_bringBack_0 8 rfl
theorem dX2_bringBack_16 : decode cX2_bringBack 16 = .ok (.iadd, 1) := dk_i kdX2_bringBack_0 9 rfl
theorem dX2_bringBack_17 : decode cX2_bringBack 17 = .ok (.iconst 1, 1) := dk_i kdX2_bringBack_0 10 rfl
theorem dX2_bringBack_18 : decode cX2_bringBack 18 = .ok (.isub, 1) := dk_i kdX2_bringBack_0 11 rfl
theorem dX2_bringBack_19 : decode cX2_bringBack 19 = .ok (.bipush 20, 2) := dk_i kdX2_bringBack_0 12 rfl
theorem dX2_bringBack_21 : decode cX2_bringBack 21 = .ok (.irem, 1) := dk_i kdX2_bringBack_0 13 rfl
theorem dX2_bringBack_22 : decode cX2_bringBack 22 = .ok (.putfield 18, 3) := dk_i kdX2_bringBack_0 14 rfl
theorem dX2_bringBack_25 : decode cX2_bringBack 25 = .ok (.aload_n 0, 1) := dk_i kdX2_bringBack_0 15 rfl
def ldX2_bringBack_26 : List (Nat × ClassFile.Instr × Nat) := [(26, .dup, 1), (27, .getfield 22, 3), (30, .iconst 1, 1), (31, .isub, 1), (32, .putfield 22, 3), (35, .aload_n 1, 1), (36, .aload_n 0, 1), (37, .getfield 13, 3), (40, .aload_n 0, 1), (41, .getfield 18, 3), (44, .aaload, 1), (45, .invokevirtual 35, 3), (48, .iconst 1, 1), (49, .ireturn, 1)]
theorem kdX2_bringBack_26 : dkO cX2_bringBack 26 ldX2_bringBack_26 = true := by decide +kernel
theorem dX2_bringBack_26 : decode cX2_bringBack 26 = .ok (.dup, 1) := dk_i kdX2_bringBack_26 0 rfl
theorem dX2_bringBack_27 : decode cX2_bringBack 27 = .ok (.getfield 22, 3) := dk_i kdX2_bringBack_26 1 rfl
theorem dX2_bringBack_30 : decode cX2_bringBack 30 = .ok (.iconst 1, 1) := dk_i kdX2_bringBack_26 2 rfl
theorem dX2_bringBack_31 : decode cX2_bringBack 31 = .ok (.isub, 1) := dk_i kdX2_bringBack_26 3 rfl
theorem dX2_bringBack_32 : decode cX2_bringBack 32 = .ok (.putfield 22, 3) := dk_i kdX2_bringBack_26 4 rfl
theorem dX2_bringBack_35 : decode cX2_bringBack 35 = .ok (.aload_n 1, 1) := dk_i kdX2_bringBack_26 5 rfl
theorem dX2_bringBack_36 : decode cX2_bringBack 36 = .ok (.aload_n 0, 1) := dk_i kdX2_bringBack_26 6 rfl
theorem dX2_bringBack_37 : decode cX2_bringBack 37 = .ok (.getfield 13, 3) := dk_i kdX2_bringBack_26 7 rfl
theorem dX2_bringBack_40 : decode cX2_bringBack 40 = .ok (.aload_n 0, 1) := dk_i kdX2_bringBack_26 8 rfl
theorem dX2_bringBack_41 : decode cX2_bringBack 41 = .ok (.getfield 18, 3) := dk_i kdX2_bringBack_26 9 rfl
theorem dX2_bringBack_44 : decode cX2_bringBack 44 = .ok (.aaload, 1) := dk_i kdX2_bringBack_26 10 rfl
theorem dX2_bringBack_45 : decode cX2_bringBack 45 = .ok (.invokevirtual 35, 3) := dk_i kdX2_bringBack_26 11 rfl
theorem dX2_bringBack_48 : decode cX2_bringBack 48 = .ok (.iconst 1, 1) := dk_i kdX2_bringBack_26 12 rfl
theorem dX2_bringBack_49 : decode cX2_bringBack 49 = .ok (.ireturn, 1) := dk_i kdX2_bringBack_26 13 rfl
end
section
def ldX3_init_0 : List (Nat × ClassFile.Instr × Nat) := [(0, .aload_n 0, 1), (1, .invokespecial 3, 3), (4, .aload_n 0, 1), (5, .iconst 0, 1), (6, .putfield 9, 3), (9, .aload_n 0, 1), (10, .aload_n 1, 1), (11, .putfield 15, 3), (14, .aload_n 0, 1), (15, .aload_n 2, 1), (16, .putfield 19, 3), (19, .return_, 1)]
theorem kdX3_init_0 : dkO cX3_init 0 ldX3_init_0 = true := by decide +kernel
theorem dX3_init_0 : decode cX3_init 0 = .ok (.aload_n 0, 1) := dk_i kdX3_init_0 0 rfl
theorem dX3_init_1 : decode cX3_init 1 = .ok (.invokespecial 3, 3) := dk_i kdX3_init_0 1 rfl
theorem dX3_init_4 : decode cX3_init 4 = .ok (.aload_n 0, 1) := dk_i kdX3_init_0 2 rfl
theorem dX3_init_5 : decode cX3_init 5 = .ok (.iconst 0, 1) := dk_i kdX3_init_0 3 rfl
theorem dX3_init_6 : decode cX3_init 6 = .ok (.putfield 9, 3) := dk_i kdX3_init_0 4 rfl
theorem dX3_init_9 : decode cX3_init 9 = .ok (.aload_n 0, 1) := dk_i kdX3_init_0 5 rfl
theorem dX3_init_10 : decode cX3_init 10 = .ok (.aload_n 1, 1) := dk_i kdX3_init_0 6 rfl
theorem dX3_init_11 : decode cX3_init 11 = .ok (.putfield 15, 3) := dk_i kdX3_init_0 7 rfl
theorem dX3_init_14 : decode cX3_init 14 = .ok (.aload_n 0, 1) := dk_i kdX3_init_0 8 rfl
theorem dX3_init_15 : decode cX3_init 15 = .ok (.aload_n 2, 1) := dk_i kdX3_init_0 9 rfl
theorem dX3_init_16 : decode cX3_init 16 = .ok (.putfield 19, 3) := dk_i kdX3_init_0 10 rfl
theorem dX3_init_19 : decode cX3_init 19 = .ok (.return_, 1) := dk_i kdX3_init_0 11 rfl
def ldX3_readSays_0 : List (Nat × ClassFile.Instr × Nat) := [(0, .aload_n 0, 1), (1, .aload_n 1, 1), (2, .putfield 19, 3), (5, .aload_n 0, 1), (6, .iconst 0, 1), (7, .putfield 9, 3), (10, .aload_n 0, 1), (11, .iconst 0, 1), (12, .invokevirtual 23, 3), (15, .ireturn, 1)]
theorem kdX3_readSays_0 : dkO cX3_readSays 0 ldX3_readSays_0 = true := by decide +kernel
theorem dX3_readSays_0 : decode cX3_readSays 0 = .ok (.aload_n 0, 1) := dk_i kdX3_readSays_0 0 rfl
theorem dX3_readSays_1 : decode cX3_readSays 1 = .ok (.aload_n 1, 1) := dk_i kdX3_readSays_0 1 rfl
theorem dX3_readSays_2 : decode cX3_readSays 2 = .ok (.putfield 19, 3) := dk_i kdX3_readSays_0 2 rfl
theorem dX3_readSays_5 : decode cX3_readSays 5 = .ok (.aload_n 0, 1) := dk_i kdX3_readSays_0 3 rfl
theorem dX3_readSays_6 : decode cX3_readSays 6 = .ok (.iconst 0, 1) := dk_i kdX3_readSays_0 4 rfl
theorem dX3_readSays_7 : decode cX3_readSays 7 = .ok (.putfield 9, 3) := dk_i kdX3_readSays_0 5 rfl
theorem dX3_readSays_10 : decode cX3_readSays 10 = .ok (.aload_n 0, 1) := dk_i kdX3_readSays_0 6 rfl
theorem dX3_readSays_11 : decode cX3_readSays 11 = .ok (.iconst 0, 1) := dk_i kdX3_readSays_0 7 rfl
theorem dX3_readSays_12 : decode cX3_readSays 12 = .ok (.invokevirtual 23, 3) := dk_i kdX3_readSays_0 8 rfl
theorem dX3_readSays_15 : decode cX3_readSays 15 = .ok (.ireturn, 1) := dk_i kdX3_readSays_0 9 rfl
def ldX3_readGone_0 : List (Nat × ClassFile.Instr × Nat) := [(0, .aload_n 0, 1), (1, .aload_n 1, 1), (2, .putfield 19, 3), (5, .aload_n 0, 1), (6, .iconst 1, 1), (7, .putfield 9, 3), (10, .aload_n 0, 1), (11, .iconst 0, 1), (12, .invokevirtual 27, 3), (15, .ireturn, 1)]
theorem kdX3_readGone_0 : dkO cX3_readGone 0 ldX3_readGone_0 = true := by decide +kernel
theorem dX3_readGone_0 : decode cX3_readGone 0 = .ok (.aload_n 0, 1) := dk_i kdX3_readGone_0 0 rfl
theorem dX3_readGone_1 : decode cX3_readGone 1 = .ok (.aload_n 1, 1) := dk_i kdX3_readGone_0 1 rfl
theorem dX3_readGone_2 : decode cX3_readGone 2 = .ok (.putfield 19, 3) := dk_i kdX3_readGone_0 2 rfl
theorem dX3_readGone_5 : decode cX3_readGone 5 = .ok (.aload_n 0, 1) := dk_i kdX3_readGone_0 3 rfl
theorem dX3_readGone_6 : decode cX3_readGone 6 = .ok (.iconst 1, 1) := dk_i kdX3_readGone_0 4 rfl
theorem dX3_readGone_7 : decode cX3_readGone 7 = .ok (.putfield 9, 3) := dk_i kdX3_readGone_0 5 rfl
theorem dX3_readGone_10 : decode cX3_readGone 10 = .ok (.aload_n 0, 1) := dk_i kdX3_readGone_0 6 rfl
theorem dX3_readGone_11 : decode cX3_readGone 11 = .ok (.iconst 0, 1) := dk_i kdX3_readGone_0 7 rfl
theorem dX3_readGone_12 : decode cX3_readGone 12 = .ok (.invokevirtual 27, 3) := dk_i kdX3_readGone_0 8 rfl
theorem dX3_readGone_15 : decode cX3_readGone 15 = .ok (.ireturn, 1) := dk_i kdX3_readGone_0 9 rfl
def ldX3_goIn_0 : List (Nat × ClassFile.Instr × Nat) := [(0, .aload_n 0, 1), (1, .getfield 15, 3), (4, .getfield 30, 3), (7, .iload_n 1, 1), (8, .if_icmp .eq 11, 3), (11, .aload_n 0, 1), (12, .getfield 15, 3), (15, .invokevirtual 36, 3), (18, .ireturn, 1), (19, .iload_n 2, 1), (20, .bipush 7, 2), (22, .if_icmp .lt 19, 3), (25, .aload_n 0, 1), (26, .getfield 15, 3), (29, .iconst 5, 1), (30, .aload_n 0, 1)]
theorem kdX3_goIn_0 : dkO cX3_goIn 0 ldX3_goIn_0 = true := by decide +kernel
theorem dX3_goIn_0 : decode cX3_goIn 0 = .ok (.aload_n 0, 1) := dk_i kdX3_goIn_0 0 rfl
theorem dX3_goIn_1 : decode cX3_goIn 1 = .ok (.getfield 15, 3) := dk_i kdX3_goIn_0 1 rfl
theorem dX3_goIn_4 : decode cX3_goIn 4 = .ok (.getfield 30, 3) := dk_i kdX3_goIn_0 2 rfl
theorem dX3_goIn_7 : decode cX3_goIn 7 = .ok (.iload_n 1, 1) := dk_i kdX3_goIn_0 3 rfl
theorem dX3_goIn_8 : decode cX3_goIn 8 = .ok (.if_icmp .eq 11, 3) := dk_i kdX3_goIn_0 4 rfl
theorem dX3_goIn_11 : decode cX3_goIn 11 = .ok (.aload_n 0, 1) := dk_i kdX3_goIn_0 5 rfl
theorem dX3_goIn_12 : decode cX3_goIn 12 = .ok (.getfield 15, 3) := dk_i kdX3_goIn_0 6 rfl
theorem dX3_goIn_15 : decode cX3_goIn 15 = .ok (.invokevirtual 36, 3) := dk_i kdX3_goIn_0 7 rfl
theorem dX3_goIn_18 : decode cX3_goIn 18 = .ok (.ireturn, 1) := dk_i kdX3_goIn_0 8 rfl
theorem dX3_goIn_19 : decode cX3_goIn 19 = .ok (.iload_n 2, 1) := dk_i kdX3_goIn_0 9 rfl
theorem dX3_goIn_20 : decode cX3_goIn 20 = .ok (.bipush 7, 2) := dk_i kdX3_goIn_0 10 rfl
theorem dX3_goIn_22 : decode cX3_goIn 22 = .ok (.if_icmp .lt 19, 3) := dk_i kdX3_goIn_0 11 rfl
theorem dX3_goIn_25 : decode cX3_goIn 25 = .ok (.aload_n 0, 1) := dk_i kdX3_goIn_0 12 rfl
theorem dX3_goIn_26 : decode cX3_goIn 26 = .ok (.getfield 15, 3) := dk_i kdX3_goIn_0 13 rfl
theorem dX3_goIn_29 : decode cX3_goIn 29 = .ok (.iconst 5, 1) := dk_i kdX3_goIn_0 14 rfl
theorem dX3_goIn_30 : decode cX3_goIn 30 = .ok (.aload_n 0, 1) := dk_i kdX3_goIn_0 15 rfl
def ldX3_goIn_31 : List (Nat × ClassFile.Instr × Nat) := [(31, .getfield 15, 3), (34, .getfield 40, 3), (37, .invokevirtual 43, 3), (40, .ireturn, 1), (41, .aload_n 0, 1), (42, .getfield 15, 3), (45, .invokevirtual 47, 3), (48, .iconst 1, 1), (49, .ireturn, 1)]
theorem kdX3_goIn_31 : dkO cX3_goIn 31 ldX3_goIn_31 = true := by decide +kernel
theorem dX3_goIn_31 : decode cX3_goIn 31 = .ok (.getfield 15, 3) := dk_i kdX3_goIn_31 0 rfl
theorem dX3_goIn_34 : decode cX3_goIn 34 = .ok (.getfield 40, 3) := dk_i kdX3_goIn_31 1 rfl
theorem dX3_goIn_37 : decode cX3_goIn 37 = .ok (.invokevirtual 43, 3) := dk_i kdX3_goIn_31 2 rfl
theorem dX3_goIn_40 : decode cX3_goIn 40 = .ok (.ireturn, 1) := dk_i kdX3_goIn_31 3 rfl
theorem dX3_goIn_41 : decode cX3_goIn 41 = .ok (.aload_n 0, 1) := dk_i kdX3_goIn_31 4 rfl
theorem dX3_goIn_42 : decode cX3_goIn 42 = .ok (.getfield 15, 3) := dk_i kdX3_goIn_31 5 rfl
theorem dX3_goIn_45 : decode cX3_goIn 45 = .ok (.invokevirtual 47, 3) := dk_i kdX3_goIn_31 6 rfl
theorem dX3_goIn_48 : decode cX3_goIn 48 = .ok (.iconst 1, 1) := dk_i kdX3_goIn_31 7 rfl
theorem dX3_goIn_49 : decode cX3_goIn 49 = .ok (.ireturn, 1) := dk_i kdX3_goIn_31 8 rfl
def ldX3_add_0 : List (Nat × ClassFile.Instr × Nat) := [(0, .aload_n 0, 1), (1, .getfield 19, 3), (4, .iload_n 1, 1), (5, .invokevirtual 50, 3), (8, .iconst 1, 1), (9, .ireturn, 1)]
theorem kdX3_add_0 : dkO cX3_add 0 ldX3_add_0 = true := by decide +kernel
theorem dX3_add_0 : decode cX3_add 0 = .ok (.aload_n 0, 1) := dk_i kdX3_add_0 0 rfl
theorem dX3_add_1 : decode cX3_add 1 = .ok (.getfield 19, 3) := dk_i kdX3_add_0 1 rfl
theorem dX3_add_4 : decode cX3_add 4 = .ok (.iload_n 1, 1) := dk_i kdX3_add_0 2 rfl
theorem dX3_add_5 : decode cX3_add 5 = .ok (.invokevirtual 50, 3) := dk_i kdX3_add_0 3 rfl
theorem dX3_add_8 : decode cX3_add 8 = .ok (.iconst 1, 1) := dk_i kdX3_add_0 4 rfl
theorem dX3_add_9 : decode cX3_add 9 = .ok (.ireturn, 1) := dk_i kdX3_add_0 5 rfl
def ldX3_readSum_0 : List (Nat × ClassFile.Instr × Nat) := [(0, .aload_n 0, 1), (1, .iload_n 1, 1), (2, .invokevirtual 56, 3), (5, .ifCond .ne 5, 3), (8, .iconst 0, 1), (9, .ireturn, 1), (10, .iconst 0, 1), (11, .istore_n 2, 1), (12, .iload_n 2, 1), (13, .sipush 1600, 3), (16, .if_icmp .ge 46, 3), (19, .aload_n 0, 1), (20, .invokevirtual 59, 3), (23, .ifCond .eq 39, 3), (26, .aload_n 0, 1), (27, .invokevirtual 59, 3)]
theorem kdX3_readSum_0 : dkO cX3_readSum 0 ldX3_readSum_0 = true := by decide +kernel
theorem dX3_readSum_0 : decode cX3_readSum 0 = .ok (.aload_n 0, 1) := dk_i kdX3_readSum_0 0 rfl
theorem dX3_readSum_1 : decode cX3_readSum 1 = .ok (.iload_n 1, 1) := dk_i kdX3_readSum_0 1 rfl
theorem dX3_readSum_2 : decode cX3_readSum 2 = .ok (.invokevirtual 56, 3) := dk_i kdX3_readSum_0 2 rfl
theorem dX3_readSum_5 : decode cX3_readSum 5 = .ok (.ifCond .ne 5, 3) := dk_i kdX3_readSum_0 3 rfl
theorem dX3_readSum_8 : decode cX3_readSum 8 = .ok (.iconst 0, 1) := dk_i kdX3_readSum_0 4 rfl
theorem dX3_readSum_9 : decode cX3_readSum 9 = .ok (.ireturn, 1) := dk_i kdX3_readSum_0 5 rfl
theorem dX3_readSum_10 : decode cX3_readSum 10 = .ok (.iconst 0, 1) := dk_i kdX3_readSum_0 6 rfl
theorem dX3_readSum_11 : decode cX3_readSum 11 = .ok (.istore_n 2, 1) := dk_i kdX3_readSum_0 7 rfl
theorem dX3_readSum_12 : decode cX3_readSum 12 = .ok (.iload_n 2, 1) := dk_i kdX3_readSum_0 8 rfl
theorem dX3_readSum_13 : decode cX3_readSum 13 = .ok (.sipush 1600, 3) := dk_i kdX3_readSum_0 9 rfl
theorem dX3_readSum_16 : decode cX3_readSum 16 = .ok (.if_icmp .ge 46, 3) := dk_i kdX3_readSum_0 10 rfl
theorem dX3_readSum_19 : decode cX3_readSum 19 = .ok (.aload_n 0, 1) := dk_i kdX3_readSum_0 11 rfl
theorem dX3_readSum_20 : decode cX3_readSum 20 = .ok (.invokevirtual 59, 3) := dk_i kdX3_readSum_0 12 rfl
theorem dX3_readSum_23 : decode cX3_readSum 23 = .ok (.ifCond .eq 39, 3) := dk_i kdX3_readSum_0 13 rfl
theorem dX3_readSum_26 : decode cX3_readSum 26 = .ok (.aload_n 0, 1) := dk_i kdX3_readSum_0 14 rfl
theorem dX3_readSum_27 : decode cX3_readSum 27 = .ok (.invokevirtual 59, 3) := dk_i kdX3_readSum_0 15 rfl
def ldX3_readSum_30 : List (Nat × ClassFile.Instr × Nat) := [(30, .istore_n 3, 1), (31, .aload_n 0, 1), (32, .getfield 15, 3), (35, .invokevirtual 47, 3), (38, .aload_n 0, 1), (39, .iload_n 1, 1), (40, .invokevirtual 56, 3), (43, .ifCond .ne 5, 3), (46, .iconst 0, 1), (47, .ireturn, 1), (48, .aload_n 0, 1), (49, .getfield 19, 3), (52, .iload_n 3, 1), (53, .invokevirtual 50, 3), (56, .iinc 2 1, 3), (59, .goto (-47), 3)]
theorem kdX3_readSum_30 : dkO cX3_readSum 30 ldX3_readSum_30 = true := by decide +kernel
theorem dX3_readSum_30 : decode cX3_readSum 30 = .ok (.istore_n 3, 1) := dk_i kdX3_readSum_30 0 rfl
theorem dX3_readSum_31 : decode cX3_readSum 31 = .ok (.aload_n 0, 1) := dk_i kdX3_readSum_30 1 rfl
theorem dX3_readSum_32 : decode cX3_readSum 32 = .ok (.getfield 15, 3) := dk_i kdX3_readSum_30 2 rfl
theorem dX3_readSum_35 : decode cX3_readSum 35 = .ok (.invokevirtual 47, 3) := dk_i kdX3_readSum_30 3 rfl
theorem dX3_readSum_38 : decode cX3_readSum 38 = .ok (.aload_n 0, 1) := dk_i kdX3_readSum_30 4 rfl
theorem dX3_readSum_39 : decode cX3_readSum 39 = .ok (.iload_n 1, 1) := dk_i kdX3_readSum_30 5 rfl
theorem dX3_readSum_40 : decode cX3_readSum 40 = .ok (.invokevirtual 56, 3) := dk_i kdX3_readSum_30 6 rfl
theorem dX3_readSum_43 : decode cX3_readSum 43 = .ok (.ifCond .ne 5, 3) := dk_i kdX3_readSum_30 7 rfl
theorem dX3_readSum_46 : decode cX3_readSum 46 = .ok (.iconst 0, 1) := dk_i kdX3_readSum_30 8 rfl
theorem dX3_readSum_47 : decode cX3_readSum 47 = .ok (.ireturn, 1) := dk_i kdX3_readSum_30 9 rfl
theorem dX3_readSum_48 : decode cX3_readSum 48 = .ok (.aload_n 0, 1) := dk_i kdX3_readSum_30 10 rfl
theorem dX3_readSum_49 : decode cX3_readSum 49 = .ok (.getfield 19, 3) := dk_i kdX3_readSum_30 11 rfl
theorem dX3_readSum_52 : decode cX3_readSum 52 = .ok (.iload_n 3, 1) := dk_i kdX3_readSum_30 12 rfl
theorem dX3_readSum_53 : decode cX3_readSum 53 = .ok (.invokevirtual 50, 3) := dk_i kdX3_readSum_30 13 rfl
theorem dX3_readSum_56 : decode cX3_readSum 56 = .ok (.iinc 2 1, 3) := dk_i kdX3_readSum_30 14 rfl
theorem dX3_readSum_59 : decode cX3_readSum 59 = .ok (.goto (-47), 3) := dk_i kdX3_readSum_30 15 rfl
def ldX3_readSum_62 : List (Nat × ClassFile.Instr × Nat) := [(62, .iconst 1, 1), (63, .ireturn, 1)]
theorem kdX3_readSum_62 : dkO cX3_readSum 62 ldX3_readSum_62 = true := by decide +kernel
theorem dX3_readSum_62 : decode cX3_readSum 62 = .ok (.iconst 1, 1) := dk_i kdX3_readSum_62 0 rfl
theorem dX3_readSum_63 : decode cX3_readSum 63 = .ok (.ireturn, 1) := dk_i kdX3_readSum_62 1 rfl
def ldX3_sumStep_0 : List (Nat × ClassFile.Instr × Nat) := [(0, .aload_n 0, 1), (1, .getfield 15, 3), (4, .getfield 30, 3), (7, .lookupswitch 31 #[(43, 25), (45, 28)], 25), (32, .bipush (-7), 2), (34, .ireturn, 1), (35, .bipush (-8), 2), (37, .ireturn, 1), (38, .iconst 0, 1), (39, .ireturn, 1)]
theorem kdX3_sumStep_0 : dkO cX3_sumStep 0 ldX3_sumStep_0 = true := by decide +kernel
theorem dX3_sumStep_0 : decode cX3_sumStep 0 = .ok (.aload_n 0, 1) := dk_i kdX3_sumStep_0 0 rfl
theorem dX3_sumStep_1 : decode cX3_sumStep 1 = .ok (.getfield 15, 3) := dk_i kdX3_sumStep_0 1 rfl
theorem dX3_sumStep_4 : decode cX3_sumStep 4 = .ok (.getfield 30, 3) := dk_i kdX3_sumStep_0 2 rfl
theorem dX3_sumStep_7 : decode cX3_sumStep 7 = .ok (.lookupswitch 31 #[(43, 25), (45, 28)], 25) := dk_i kdX3_sumStep_0 3 rfl
theorem dX3_sumStep_32 : decode cX3_sumStep 32 = .ok (.bipush (-7), 2) := dk_i kdX3_sumStep_0 4 rfl
theorem dX3_sumStep_34 : decode cX3_sumStep 34 = .ok (.ireturn, 1) := dk_i kdX3_sumStep_0 5 rfl
theorem dX3_sumStep_35 : decode cX3_sumStep 35 = .ok (.bipush (-8), 2) := dk_i kdX3_sumStep_0 6 rfl
theorem dX3_sumStep_37 : decode cX3_sumStep 37 = .ok (.ireturn, 1) := dk_i kdX3_sumStep_0 7 rfl
theorem dX3_sumStep_38 : decode cX3_sumStep 38 = .ok (.iconst 0, 1) := dk_i kdX3_sumStep_0 8 rfl
theorem dX3_sumStep_39 : decode cX3_sumStep 39 = .ok (.ireturn, 1) := dk_i kdX3_sumStep_0 9 rfl
def ldX3_readProduct_0 : List (Nat × ClassFile.Instr × Nat) := [(0, .aload_n 0, 1), (1, .iload_n 1, 1), (2, .invokevirtual 63, 3), (5, .ifCond .ne 5, 3), (8, .iconst 0, 1), (9, .ireturn, 1), (10, .iconst 0, 1), (11, .istore_n 2, 1), (12, .iload_n 2, 1), (13, .sipush 1600, 3), (16, .if_icmp .ge 46, 3), (19, .aload_n 0, 1), (20, .invokevirtual 66, 3), (23, .ifCond .eq 39, 3), (26, .aload_n 0, 1), (27, .invokevirtual 66, 3)]
theorem kdX3_readProduct_0 : dkO cX3_readProduct 0 ldX3_readProduct_0 = true := by decide +kernel
theorem dX3_readProduct_0 : decode cX3_readProduct 0 = .ok (.aload_n 0, 1) := dk_i kdX3_readProduct_0 0 rfl
theorem dX3_readProduct_1 : decode cX3_readProduct 1 = .ok (.iload_n 1, 1) := dk_i kdX3_readProduct_0 1 rfl
theorem dX3_readProduct_2 : decode cX3_readProduct 2 = .ok (.invokevirtual 63, 3) := dk_i kdX3_readProduct_0 2 rfl
theorem dX3_readProduct_5 : decode cX3_readProduct 5 = .ok (.ifCond .ne 5, 3) := dk_i kdX3_readProduct_0 3 rfl
theorem dX3_readProduct_8 : decode cX3_readProduct 8 = .ok (.iconst 0, 1) := dk_i kdX3_readProduct_0 4 rfl
theorem dX3_readProduct_9 : decode cX3_readProduct 9 = .ok (.ireturn, 1) := dk_i kdX3_readProduct_0 5 rfl
theorem dX3_readProduct_10 : decode cX3_readProduct 10 = .ok (.iconst 0, 1) := dk_i kdX3_readProduct_0 6 rfl
theorem dX3_readProduct_11 : decode cX3_readProduct 11 = .ok (.istore_n 2, 1) := dk_i kdX3_readProduct_0 7 rfl
theorem dX3_readProduct_12 : decode cX3_readProduct 12 = .ok (.iload_n 2, 1) := dk_i kdX3_readProduct_0 8 rfl
theorem dX3_readProduct_13 : decode cX3_readProduct 13 = .ok (.sipush 1600, 3) := dk_i kdX3_readProduct_0 9 rfl
theorem dX3_readProduct_16 : decode cX3_readProduct 16 = .ok (.if_icmp .ge 46, 3) := dk_i kdX3_readProduct_0 10 rfl
theorem dX3_readProduct_19 : decode cX3_readProduct 19 = .ok (.aload_n 0, 1) := dk_i kdX3_readProduct_0 11 rfl
theorem dX3_readProduct_20 : decode cX3_readProduct 20 = .ok (.invokevirtual 66, 3) := dk_i kdX3_readProduct_0 12 rfl
theorem dX3_readProduct_23 : decode cX3_readProduct 23 = .ok (.ifCond .eq 39, 3) := dk_i kdX3_readProduct_0 13 rfl
theorem dX3_readProduct_26 : decode cX3_readProduct 26 = .ok (.aload_n 0, 1) := dk_i kdX3_readProduct_0 14 rfl
theorem dX3_readProduct_27 : decode cX3_readProduct 27 = .ok (.invokevirtual 66, 3) := dk_i kdX3_readProduct_0 15 rfl
def ldX3_readProduct_30 : List (Nat × ClassFile.Instr × Nat) := [(30, .istore_n 3, 1), (31, .aload_n 0, 1), (32, .getfield 15, 3), (35, .invokevirtual 47, 3), (38, .aload_n 0, 1), (39, .iload_n 1, 1), (40, .invokevirtual 63, 3), (43, .ifCond .ne 5, 3), (46, .iconst 0, 1), (47, .ireturn, 1), (48, .aload_n 0, 1), (49, .getfield 19, 3), (52, .iload_n 3, 1), (53, .invokevirtual 50, 3), (56, .iinc 2 1, 3), (59, .goto (-47), 3)]
theorem kdX3_readProduct_30 : dkO cX3_readProduct 30 ldX3_readProduct_30 = true := by decide +kernel
theorem dX3_readProduct_30 : decode cX3_readProduct 30 = .ok (.istore_n 3, 1) := dk_i kdX3_readProduct_30 0 rfl
theorem dX3_readProduct_31 : decode cX3_readProduct 31 = .ok (.aload_n 0, 1) := dk_i kdX3_readProduct_30 1 rfl
theorem dX3_readProduct_32 : decode cX3_readProduct 32 = .ok (.getfield 15, 3) := dk_i kdX3_readProduct_30 2 rfl
theorem dX3_readProduct_35 : decode cX3_readProduct 35 = .ok (.invokevirtual 47, 3) := dk_i kdX3_readProduct_30 3 rfl
theorem dX3_readProduct_38 : decode cX3_readProduct 38 = .ok (.aload_n 0, 1) := dk_i kdX3_readProduct_30 4 rfl
theorem dX3_readProduct_39 : decode cX3_readProduct 39 = .ok (.iload_n 1, 1) := dk_i kdX3_readProduct_30 5 rfl
theorem dX3_readProduct_40 : decode cX3_readProduct 40 = .ok (.invokevirtual 63, 3) := dk_i kdX3_readProduct_30 6 rfl
theorem dX3_readProduct_43 : decode cX3_readProduct 43 = .ok (.ifCond .ne 5, 3) := dk_i kdX3_readProduct_30 7 rfl
theorem dX3_readProduct_46 : decode cX3_readProduct 46 = .ok (.iconst 0, 1) := dk_i kdX3_readProduct_30 8 rfl
theorem dX3_readProduct_47 : decode cX3_readProduct 47 = .ok (.ireturn, 1) := dk_i kdX3_readProduct_30 9 rfl
theorem dX3_readProduct_48 : decode cX3_readProduct 48 = .ok (.aload_n 0, 1) := dk_i kdX3_readProduct_30 10 rfl
theorem dX3_readProduct_49 : decode cX3_readProduct 49 = .ok (.getfield 19, 3) := dk_i kdX3_readProduct_30 11 rfl
theorem dX3_readProduct_52 : decode cX3_readProduct 52 = .ok (.iload_n 3, 1) := dk_i kdX3_readProduct_30 12 rfl
theorem dX3_readProduct_53 : decode cX3_readProduct 53 = .ok (.invokevirtual 50, 3) := dk_i kdX3_readProduct_30 13 rfl
theorem dX3_readProduct_56 : decode cX3_readProduct 56 = .ok (.iinc 2 1, 3) := dk_i kdX3_readProduct_30 14 rfl
theorem dX3_readProduct_59 : decode cX3_readProduct 59 = .ok (.goto (-47), 3) := dk_i kdX3_readProduct_30 15 rfl
def ldX3_readProduct_62 : List (Nat × ClassFile.Instr × Nat) := [(62, .iconst 1, 1), (63, .ireturn, 1)]
theorem kdX3_readProduct_62 : dkO cX3_readProduct 62 ldX3_readProduct_62 = true := by decide +kernel
theorem dX3_readProduct_62 : decode cX3_readProduct 62 = .ok (.iconst 1, 1) := dk_i kdX3_readProduct_62 0 rfl
theorem dX3_readProduct_63 : decode cX3_readProduct 63 = .ok (.ireturn, 1) := dk_i kdX3_readProduct_62 1 rfl
def ldX3_productStep_0 : List (Nat × ClassFile.Instr × Nat) := [(0, .aload_n 0, 1), (1, .getfield 15, 3), (4, .getfield 30, 3), (7, .lookupswitch 42 #[(37, 39), (42, 33), (47, 36)], 33), (40, .bipush (-9), 2), (42, .ireturn, 1), (43, .bipush (-10), 2), (45, .ireturn, 1), (46, .bipush (-11), 2), (48, .ireturn, 1), (49, .iconst 0, 1), (50, .ireturn, 1)]
theorem kdX3_productStep_0 : dkO cX3_productStep 0 ldX3_productStep_0 = true := by decide +kernel
theorem dX3_productStep_0 : decode cX3_productStep 0 = .ok (.aload_n 0, 1) := dk_i kdX3_productStep_0 0 rfl
theorem dX3_productStep_1 : decode cX3_productStep 1 = .ok (.getfield 15, 3) := dk_i kdX3_productStep_0 1 rfl
theorem dX3_productStep_4 : decode cX3_productStep 4 = .ok (.getfield 30, 3) := dk_i kdX3_productStep_0 2 rfl
theorem dX3_productStep_7 : decode cX3_productStep 7 = .ok (.lookupswitch 42 #[(37, 39), (42, 33), (47, 36)], 33) := dk_i kdX3_productStep_0 3 rfl
theorem dX3_productStep_40 : decode cX3_productStep 40 = .ok (.bipush (-9), 2) := dk_i kdX3_productStep_0 4 rfl
theorem dX3_productStep_42 : decode cX3_productStep 42 = .ok (.ireturn, 1) := dk_i kdX3_productStep_0 5 rfl
theorem dX3_productStep_43 : decode cX3_productStep 43 = .ok (.bipush (-10), 2) := dk_i kdX3_productStep_0 6 rfl
theorem dX3_productStep_45 : decode cX3_productStep 45 = .ok (.ireturn, 1) := dk_i kdX3_productStep_0 7 rfl
theorem dX3_productStep_46 : decode cX3_productStep 46 = .ok (.bipush (-11), 2) := dk_i kdX3_productStep_0 8 rfl
theorem dX3_productStep_48 : decode cX3_productStep 48 = .ok (.ireturn, 1) := dk_i kdX3_productStep_0 9 rfl
theorem dX3_productStep_49 : decode cX3_productStep 49 = .ok (.iconst 0, 1) := dk_i kdX3_productStep_0 10 rfl
theorem dX3_productStep_50 : decode cX3_productStep 50 = .ok (.ireturn, 1) := dk_i kdX3_productStep_0 11 rfl
def ldX3_readPart_0 : List (Nat × ClassFile.Instr × Nat) := [(0, .aload_n 0, 1), (1, .getfield 15, 3), (4, .getfield 30, 3), (7, .lookupswitch 244 #[(40, 206), (256, 97), (261, 109), (262, 160), (263, 122), (275, 115), (276, 129), (277, 136), (278, 200), (283, 184), (284, 192)], 97), (104, .aload_n 0, 1), (105, .aload_n 0, 1), (106, .getfield 15, 3), (109, .getfield 69, 3), (112, .invokevirtual 72, 3), (115, .ireturn, 1), (116, .aload_n 0, 1), (117, .iconst (-1), 1), (118, .invokevirtual 72, 3), (121, .ireturn, 1), (122, .aload_n 0, 1), (123, .bipush (-2), 2)]
theorem kdX3_readPart_0 : dkO cX3_readPart 0 ldX3_readPart_0 = true := by decide +kernel
theorem dX3_readPart_0 : decode cX3_readPart 0 = .ok (.aload_n 0, 1) := dk_i kdX3_readPart_0 0 rfl
theorem dX3_readPart_1 : decode cX3_readPart 1 = .ok (.getfield 15, 3) := dk_i kdX3_readPart_0 1 rfl
theorem dX3_readPart_4 : decode cX3_readPart 4 = .ok (.getfield 30, 3) := dk_i kdX3_readPart_0 2 rfl
theorem dX3_readPart_7 : decode cX3_readPart 7 = .ok (.lookupswitch 244 #[(40, 206), (256, 97), (261, 109), (262, 160), (263, 122), (275, 115), (276, 129), (277, 136), (278, 200), (283, 184), (284, 192)], 97) := dk_i kdX3_readPart_0 3 rfl
theorem dX3_readPart_104 : decode cX3_readPart 104 = .ok (.aload_n 0, 1) := dk_i kdX3_readPart_0 4 rfl
theorem dX3_readPart_105 : decode cX3_readPart 105 = .ok (.aload_n 0, 1) := dk_i kdX3_readPart_0 5 rfl
theorem dX3_readPart_106 : decode cX3_readPart 106 = .ok (.getfield 15, 3) := dk_i kdX3_readPart_0 6 rfl
theorem dX3_readPart_109 : decode cX3_readPart 109 = .ok (.getfield 69, 3) := dk_i kdX3_readPart_0 7 rfl
theorem dX3_readPart_112 : decode cX3_readPart 112 = .ok (.invokevirtual 72, 3) := dk_i kdX3_readPart_0 8 rfl
theorem dX3_readPart_115 : decode cX3_readPart 115 = .ok (.ireturn, 1) := dk_i kdX3_readPart_0 9 rfl
theorem dX3_readPart_116 : decode cX3_readPart 116 = .ok (.aload_n 0, 1) := dk_i kdX3_readPart_0 10 rfl
theorem dX3_readPart_117 : decode cX3_readPart 117 = .ok (.iconst (-1), 1) := dk_i kdX3_readPart_0 11 rfl
theorem dX3_readPart_118 : decode cX3_readPart 118 = .ok (.invokevirtual 72, 3) := dk_i kdX3_readPart_0 12 rfl
theorem dX3_readPart_121 : decode cX3_readPart 121 = .ok (.ireturn, 1) := dk_i kdX3_readPart_0 13 rfl
theorem dX3_readPart_122 : decode cX3_readPart 122 = .ok (.aload_n 0, 1) := dk_i kdX3_readPart_0 14 rfl
theorem dX3_readPart_123 : decode cX3_readPart 123 = .ok (.bipush (-2), 2) := dk_i kdX3_readPart_0 15 rfl
def ldX3_readPart_125 : List (Nat × ClassFile.Instr × Nat) := [(125, .invokevirtual 72, 3), (128, .ireturn, 1), (129, .aload_n 0, 1), (130, .bipush (-3), 2), (132, .invokevirtual 72, 3), (135, .ireturn, 1), (136, .aload_n 0, 1), (137, .bipush (-4), 2), (139, .invokevirtual 72, 3), (142, .ireturn, 1), (143, .aload_n 0, 1), (144, .getfield 9, 3), (147, .ifCond .eq 13, 3), (150, .aload_n 0, 1), (151, .getfield 15, 3), (154, .invokevirtual 36, 3)]
theorem kdX3_readPart_125 : dkO cX3_readPart 125 ldX3_readPart_125 = true := by decide +kernel
theorem dX3_readPart_125 : decode cX3_readPart 125 = .ok (.invokevirtual 72, 3) := dk_i kdX3_readPart_125 0 rfl
theorem dX3_readPart_128 : decode cX3_readPart 128 = .ok (.ireturn, 1) := dk_i kdX3_readPart_125 1 rfl
theorem dX3_readPart_129 : decode cX3_readPart 129 = .ok (.aload_n 0, 1) := dk_i kdX3_readPart_125 2 rfl
theorem dX3_readPart_130 : decode cX3_readPart 130 = .ok (.bipush (-3), 2) := dk_i kdX3_readPart_125 3 rfl
theorem dX3_readPart_132 : decode cX3_readPart 132 = .ok (.invokevirtual 72, 3) := dk_i kdX3_readPart_125 4 rfl
theorem dX3_readPart_135 : decode cX3_readPart 135 = .ok (.ireturn, 1) := dk_i kdX3_readPart_125 5 rfl
theorem dX3_readPart_136 : decode cX3_readPart 136 = .ok (.aload_n 0, 1) := dk_i kdX3_readPart_125 6 rfl
theorem dX3_readPart_137 : decode cX3_readPart 137 = .ok (.bipush (-4), 2) := dk_i kdX3_readPart_125 7 rfl
theorem dX3_readPart_139 : decode cX3_readPart 139 = .ok (.invokevirtual 72, 3) := dk_i kdX3_readPart_125 8 rfl
theorem dX3_readPart_142 : decode cX3_readPart 142 = .ok (.ireturn, 1) := dk_i kdX3_readPart_125 9 rfl
theorem dX3_readPart_143 : decode cX3_readPart 143 = .ok (.aload_n 0, 1) := dk_i kdX3_readPart_125 10 rfl
theorem dX3_readPart_144 : decode cX3_readPart 144 = .ok (.getfield 9, 3) := dk_i kdX3_readPart_125 11 rfl
theorem dX3_readPart_147 : decode cX3_readPart 147 = .ok (.ifCond .eq 13, 3) := dk_i kdX3_readPart_125 12 rfl
theorem dX3_readPart_150 : decode cX3_readPart 150 = .ok (.aload_n 0, 1) := dk_i kdX3_readPart_125 13 rfl
theorem dX3_readPart_151 : decode cX3_readPart 151 = .ok (.getfield 15, 3) := dk_i kdX3_readPart_125 14 rfl
theorem dX3_readPart_154 : decode cX3_readPart 154 = .ok (.invokevirtual 36, 3) := dk_i kdX3_readPart_125 15 rfl
def ldX3_readPart_157 : List (Nat × ClassFile.Instr × Nat) := [(157, .goto 9, 3), (160, .aload_n 0, 1), (161, .bipush (-5), 2), (163, .invokevirtual 72, 3), (166, .ireturn, 1), (167, .aload_n 0, 1), (168, .getfield 9, 3), (171, .ifCond .eq 12, 3), (174, .aload_n 0, 1), (175, .bipush (-6), 2), (177, .invokevirtual 72, 3), (180, .goto 10, 3), (183, .aload_n 0, 1), (184, .getfield 15, 3), (187, .invokevirtual 36, 3), (190, .ireturn, 1)]
theorem kdX3_readPart_157 : dkO cX3_readPart 157 ldX3_readPart_157 = true := by decide +kernel
theorem dX3_readPart_157 : decode cX3_readPart 157 = .ok (.goto 9, 3) := dk_i kdX3_readPart_157 0 rfl
theorem dX3_readPart_160 : decode cX3_readPart 160 = .ok (.aload_n 0, 1) := dk_i kdX3_readPart_157 1 rfl
theorem dX3_readPart_161 : decode cX3_readPart 161 = .ok (.bipush (-5), 2) := dk_i kdX3_readPart_157 2 rfl
theorem dX3_readPart_163 : decode cX3_readPart 163 = .ok (.invokevirtual 72, 3) := dk_i kdX3_readPart_157 3 rfl
theorem dX3_readPart_166 : decode cX3_readPart 166 = .ok (.ireturn, 1) := dk_i kdX3_readPart_157 4 rfl
theorem dX3_readPart_167 : decode cX3_readPart 167 = .ok (.aload_n 0, 1) := dk_i kdX3_readPart_157 5 rfl
theorem dX3_readPart_168 : decode cX3_readPart 168 = .ok (.getfield 9, 3) := dk_i kdX3_readPart_157 6 rfl
theorem dX3_readPart_171 : decode cX3_readPart 171 = .ok (.ifCond .eq 12, 3) := dk_i kdX3_readPart_157 7 rfl
theorem dX3_readPart_174 : decode cX3_readPart 174 = .ok (.aload_n 0, 1) := dk_i kdX3_readPart_157 8 rfl
theorem dX3_readPart_175 : decode cX3_readPart 175 = .ok (.bipush (-6), 2) := dk_i kdX3_readPart_157 9 rfl
theorem dX3_readPart_177 : decode cX3_readPart 177 = .ok (.invokevirtual 72, 3) := dk_i kdX3_readPart_157 10 rfl
theorem dX3_readPart_180 : decode cX3_readPart 180 = .ok (.goto 10, 3) := dk_i kdX3_readPart_157 11 rfl
theorem dX3_readPart_183 : decode cX3_readPart 183 = .ok (.aload_n 0, 1) := dk_i kdX3_readPart_157 12 rfl
theorem dX3_readPart_184 : decode cX3_readPart 184 = .ok (.getfield 15, 3) := dk_i kdX3_readPart_157 13 rfl
theorem dX3_readPart_187 : decode cX3_readPart 187 = .ok (.invokevirtual 36, 3) := dk_i kdX3_readPart_157 14 rfl
theorem dX3_readPart_190 : decode cX3_readPart 190 = .ok (.ireturn, 1) := dk_i kdX3_readPart_157 15 rfl
def ldX3_readPart_191 : List (Nat × ClassFile.Instr × Nat) := [(191, .aload_n 0, 1), (192, .iload_n 1, 1), (193, .bipush (-12), 2), (195, .invokevirtual 75, 3), (198, .ireturn, 1), (199, .aload_n 0, 1), (200, .iload_n 1, 1), (201, .bipush (-13), 2), (203, .invokevirtual 75, 3), (206, .ireturn, 1), (207, .aload_n 0, 1), (208, .iload_n 1, 1), (209, .invokevirtual 78, 3), (212, .ireturn, 1), (213, .aload_n 0, 1), (214, .bipush 40, 2)]
theorem kdX3_readPart_191 : dkO cX3_readPart 191 ldX3_readPart_191 = true := by decide +kernel
theorem dX3_readPart_191 : decode cX3_readPart 191 = .ok (.aload_n 0, 1) := dk_i kdX3_readPart_191 0 rfl
theorem dX3_readPart_192 : decode cX3_readPart 192 = .ok (.iload_n 1, 1) := dk_i kdX3_readPart_191 1 rfl
theorem dX3_readPart_193 : decode cX3_readPart 193 = .ok (.bipush (-12), 2) := dk_i kdX3_readPart_191 2 rfl
theorem dX3_readPart_195 : decode cX3_readPart 195 = .ok (.invokevirtual 75, 3) := dk_i kdX3_readPart_191 3 rfl
theorem dX3_readPart_198 : decode cX3_readPart 198 = .ok (.ireturn, 1) := dk_i kdX3_readPart_191 4 rfl
theorem dX3_readPart_199 : decode cX3_readPart 199 = .ok (.aload_n 0, 1) := dk_i kdX3_readPart_191 5 rfl
theorem dX3_readPart_200 : decode cX3_readPart 200 = .ok (.iload_n 1, 1) := dk_i kdX3_readPart_191 6 rfl
theorem dX3_readPart_201 : decode cX3_readPart 201 = .ok (.bipush (-13), 2) := dk_i kdX3_readPart_191 7 rfl
theorem dX3_readPart_203 : decode cX3_readPart 203 = .ok (.invokevirtual 75, 3) := dk_i kdX3_readPart_191 8 rfl
theorem dX3_readPart_206 : decode cX3_readPart 206 = .ok (.ireturn, 1) := dk_i kdX3_readPart_191 9 rfl
theorem dX3_readPart_207 : decode cX3_readPart 207 = .ok (.aload_n 0, 1) := dk_i kdX3_readPart_191 10 rfl
theorem dX3_readPart_208 : decode cX3_readPart 208 = .ok (.iload_n 1, 1) := dk_i kdX3_readPart_191 11 rfl
theorem dX3_readPart_209 : decode cX3_readPart 209 = .ok (.invokevirtual 78, 3) := dk_i kdX3_readPart_191 12 rfl
theorem dX3_readPart_212 : decode cX3_readPart 212 = .ok (.ireturn, 1) := dk_i kdX3_readPart_191 13 rfl
theorem dX3_readPart_213 : decode cX3_readPart 213 = .ok (.aload_n 0, 1) := dk_i kdX3_readPart_191 14 rfl
theorem dX3_readPart_214 : decode cX3_readPart 214 = .ok (.bipush 40, 2) := dk_i kdX3_readPart_191 15 rfl
def ldX3_readPart_216 : List (Nat × ClassFile.Instr × Nat) := [(216, .iload_n 1, 1), (217, .invokevirtual 81, 3), (220, .ifCond .eq 29, 3), (223, .aload_n 0, 1), (224, .iload_n 1, 1), (225, .iconst 1, 1), (226, .iadd, 1), (227, .invokevirtual 23, 3), (230, .ifCond .eq 19, 3), (233, .aload_n 0, 1), (234, .getfield 15, 3), (237, .bipush 41, 2), (239, .invokevirtual 84, 3), (242, .ifCond .eq 7, 3), (245, .iconst 1, 1), (246, .goto 4, 3)]
theorem kdX3_readPart_216 : dkO cX3_readPart 216 ldX3_readPart_216 = true := by decide +kernel
theorem dX3_readPart_216 : decode cX3_readPart 216 = .ok (.iload_n 1, 1) := dk_i kdX3_readPart_216 0 rfl
theorem dX3_readPart_217 : decode cX3_readPart 217 = .ok (.invokevirtual 81, 3) := dk_i kdX3_readPart_216 1 rfl
theorem dX3_readPart_220 : decode cX3_readPart 220 = .ok (.ifCond .eq 29, 3) := dk_i kdX3_readPart_216 2 rfl
theorem dX3_readPart_223 : decode cX3_readPart 223 = .ok (.aload_n 0, 1) := dk_i kdX3_readPart_216 3 rfl
theorem dX3_readPart_224 : decode cX3_readPart 224 = .ok (.iload_n 1, 1) := dk_i kdX3_readPart_216 4 rfl
theorem dX3_readPart_225 : decode cX3_readPart 225 = .ok (.iconst 1, 1) := dk_i kdX3_readPart_216 5 rfl
theorem dX3_readPart_226 : decode cX3_readPart 226 = .ok (.iadd, 1) := dk_i kdX3_readPart_216 6 rfl
theorem dX3_readPart_227 : decode cX3_readPart 227 = .ok (.invokevirtual 23, 3) := dk_i kdX3_readPart_216 7 rfl
theorem dX3_readPart_230 : decode cX3_readPart 230 = .ok (.ifCond .eq 19, 3) := dk_i kdX3_readPart_216 8 rfl
theorem dX3_readPart_233 : decode cX3_readPart 233 = .ok (.aload_n 0, 1) := dk_i kdX3_readPart_216 9 rfl
theorem dX3_readPart_234 : decode cX3_readPart 234 = .ok (.getfield 15, 3) := dk_i kdX3_readPart_216 10 rfl
theorem dX3_readPart_237 : decode cX3_readPart 237 = .ok (.bipush 41, 2) := dk_i kdX3_readPart_216 11 rfl
theorem dX3_readPart_239 : decode cX3_readPart 239 = .ok (.invokevirtual 84, 3) := dk_i kdX3_readPart_216 12 rfl
theorem dX3_readPart_242 : decode cX3_readPart 242 = .ok (.ifCond .eq 7, 3) := dk_i kdX3_readPart_216 13 rfl
theorem dX3_readPart_245 : decode cX3_readPart 245 = .ok (.iconst 1, 1) := dk_i kdX3_readPart_216 14 rfl
theorem dX3_readPart_246 : decode cX3_readPart 246 = .ok (.goto 4, 3) := dk_i kdX3_readPart_216 15 rfl
def ldX3_readPart_249 : List (Nat × ClassFile.Instr × Nat) := [(249, .iconst 0, 1), (250, .ireturn, 1), (251, .aload_n 0, 1), (252, .getfield 15, 3), (255, .invokevirtual 36, 3), (258, .ireturn, 1)]
theorem kdX3_readPart_249 : dkO cX3_readPart 249 ldX3_readPart_249 = true := by decide +kernel
theorem dX3_readPart_249 : decode cX3_readPart 249 = .ok (.iconst 0, 1) := dk_i kdX3_readPart_249 0 rfl
theorem dX3_readPart_250 : decode cX3_readPart 250 = .ok (.ireturn, 1) := dk_i kdX3_readPart_249 1 rfl
theorem dX3_readPart_251 : decode cX3_readPart 251 = .ok (.aload_n 0, 1) := dk_i kdX3_readPart_249 2 rfl
theorem dX3_readPart_252 : decode cX3_readPart 252 = .ok (.getfield 15, 3) := dk_i kdX3_readPart_249 3 rfl
theorem dX3_readPart_255 : decode cX3_readPart 255 = .ok (.invokevirtual 36, 3) := dk_i kdX3_readPart_249 4 rfl
theorem dX3_readPart_258 : decode cX3_readPart 258 = .ok (.ireturn, 1) := dk_i kdX3_readPart_249 5 rfl
def ldX3_addAndAdvance_0 : List (Nat × ClassFile.Instr × Nat) := [(0, .aload_n 0, 1), (1, .getfield 19, 3), (4, .iload_n 1, 1), (5, .invokevirtual 50, 3), (8, .aload_n 0, 1), (9, .getfield 15, 3), (12, .invokevirtual 47, 3), (15, .iconst 1, 1), (16, .ireturn, 1)]
theorem kdX3_addAndAdvance_0 : dkO cX3_addAndAdvance 0 ldX3_addAndAdvance_0 = true := by decide +kernel
theorem dX3_addAndAdvance_0 : decode cX3_addAndAdvance 0 = .ok (.aload_n 0, 1) := dk_i kdX3_addAndAdvance_0 0 rfl
theorem dX3_addAndAdvance_1 : decode cX3_addAndAdvance 1 = .ok (.getfield 19, 3) := dk_i kdX3_addAndAdvance_0 1 rfl
theorem dX3_addAndAdvance_4 : decode cX3_addAndAdvance 4 = .ok (.iload_n 1, 1) := dk_i kdX3_addAndAdvance_0 2 rfl
theorem dX3_addAndAdvance_5 : decode cX3_addAndAdvance 5 = .ok (.invokevirtual 50, 3) := dk_i kdX3_addAndAdvance_0 3 rfl
theorem dX3_addAndAdvance_8 : decode cX3_addAndAdvance 8 = .ok (.aload_n 0, 1) := dk_i kdX3_addAndAdvance_0 4 rfl
theorem dX3_addAndAdvance_9 : decode cX3_addAndAdvance 9 = .ok (.getfield 15, 3) := dk_i kdX3_addAndAdvance_0 5 rfl
theorem dX3_addAndAdvance_12 : decode cX3_addAndAdvance 12 = .ok (.invokevirtual 47, 3) := dk_i kdX3_addAndAdvance_0 6 rfl
theorem dX3_addAndAdvance_15 : decode cX3_addAndAdvance 15 = .ok (.iconst 1, 1) := dk_i kdX3_addAndAdvance_0 7 rfl
theorem dX3_addAndAdvance_16 : decode cX3_addAndAdvance 16 = .ok (.ireturn, 1) := dk_i kdX3_addAndAdvance_0 8 rfl
def ldX3_readPair_0 : List (Nat × ClassFile.Instr × Nat) := [(0, .aload_n 0, 1), (1, .getfield 15, 3), (4, .invokevirtual 47, 3), (7, .aload_n 0, 1), (8, .bipush 40, 2), (10, .iload_n 1, 1), (11, .invokevirtual 81, 3), (14, .ifCond .eq 59, 3), (17, .aload_n 0, 1), (18, .iload_n 1, 1), (19, .iconst 1, 1), (20, .iadd, 1), (21, .invokevirtual 23, 3), (24, .ifCond .eq 49, 3), (27, .aload_n 0, 1), (28, .getfield 15, 3)]
theorem kdX3_readPair_0 : dkO cX3_readPair 0 ldX3_readPair_0 = true := by decide +kernel
theorem dX3_readPair_0 : decode cX3_readPair 0 = .ok (.aload_n 0, 1) := dk_i kdX3_readPair_0 0 rfl
theorem dX3_readPair_1 : decode cX3_readPair 1 = .ok (.getfield 15, 3) := dk_i kdX3_readPair_0 1 rfl
theorem dX3_readPair_4 : decode cX3_readPair 4 = .ok (.invokevirtual 47, 3) := dk_i kdX3_readPair_0 2 rfl
theorem dX3_readPair_7 : decode cX3_readPair 7 = .ok (.aload_n 0, 1) := dk_i kdX3_readPair_0 3 rfl
theorem dX3_readPair_8 : decode cX3_readPair 8 = .ok (.bipush 40, 2) := dk_i kdX3_readPair_0 4 rfl
theorem dX3_readPair_10 : decode cX3_readPair 10 = .ok (.iload_n 1, 1) := dk_i kdX3_readPair_0 5 rfl
theorem dX3_readPair_11 : decode cX3_readPair 11 = .ok (.invokevirtual 81, 3) := dk_i kdX3_readPair_0 6 rfl
theorem dX3_readPair_14 : decode cX3_readPair 14 = .ok (.ifCond .eq 59, 3) := dk_i kdX3_readPair_0 7 rfl
theorem dX3_readPair_17 : decode cX3_readPair 17 = .ok (.aload_n 0, 1) := dk_i kdX3_readPair_0 8 rfl
theorem dX3_readPair_18 : decode cX3_readPair 18 = .ok (.iload_n 1, 1) := dk_i kdX3_readPair_0 9 rfl
theorem dX3_readPair_19 : decode cX3_readPair 19 = .ok (.iconst 1, 1) := dk_i kdX3_readPair_0 10 rfl
theorem dX3_readPair_20 : decode cX3_readPair 20 = .ok (.iadd, 1) := dk_i kdX3_readPair_0 11 rfl
theorem dX3_readPair_21 : decode cX3_readPair 21 = .ok (.invokevirtual 23, 3) := dk_i kdX3_readPair_0 12 rfl
theorem dX3_readPair_24 : decode cX3_readPair 24 = .ok (.ifCond .eq 49, 3) := dk_i kdX3_readPair_0 13 rfl
theorem dX3_readPair_27 : decode cX3_readPair 27 = .ok (.aload_n 0, 1) := dk_i kdX3_readPair_0 14 rfl
theorem dX3_readPair_28 : decode cX3_readPair 28 = .ok (.getfield 15, 3) := dk_i kdX3_readPair_0 15 rfl
def ldX3_readPair_31 : List (Nat × ClassFile.Instr × Nat) := [(31, .bipush 44, 2), (33, .invokevirtual 84, 3), (36, .ifCond .eq 37, 3), (39, .aload_n 0, 1), (40, .iload_n 1, 1), (41, .iconst 1, 1), (42, .iadd, 1), (43, .invokevirtual 23, 3), (46, .ifCond .eq 27, 3), (49, .aload_n 0, 1), (50, .getfield 15, 3), (53, .bipush 41, 2), (55, .invokevirtual 84, 3), (58, .ifCond .eq 15, 3), (61, .aload_n 0, 1), (62, .iload_n 2, 1)]
theorem kdX3_readPair_31 : dkO cX3_readPair 31 ldX3_readPair_31 = true := by decide +kernel
theorem dX3_readPair_31 : decode cX3_readPair 31 = .ok (.bipush 44, 2) := dk_i kdX3_readPair_31 0 rfl
theorem dX3_readPair_33 : decode cX3_readPair 33 = .ok (.invokevirtual 84, 3) := dk_i kdX3_readPair_31 1 rfl
theorem dX3_readPair_36 : decode cX3_readPair 36 = .ok (.ifCond .eq 37, 3) := dk_i kdX3_readPair_31 2 rfl
theorem dX3_readPair_39 : decode cX3_readPair 39 = .ok (.aload_n 0, 1) := dk_i kdX3_readPair_31 3 rfl
theorem dX3_readPair_40 : decode cX3_readPair 40 = .ok (.iload_n 1, 1) := dk_i kdX3_readPair_31 4 rfl
theorem dX3_readPair_41 : decode cX3_readPair 41 = .ok (.iconst 1, 1) := dk_i kdX3_readPair_31 5 rfl
theorem dX3_readPair_42 : decode cX3_readPair 42 = .ok (.iadd, 1) := dk_i kdX3_readPair_31 6 rfl
theorem dX3_readPair_43 : decode cX3_readPair 43 = .ok (.invokevirtual 23, 3) := dk_i kdX3_readPair_31 7 rfl
theorem dX3_readPair_46 : decode cX3_readPair 46 = .ok (.ifCond .eq 27, 3) := dk_i kdX3_readPair_31 8 rfl
theorem dX3_readPair_49 : decode cX3_readPair 49 = .ok (.aload_n 0, 1) := dk_i kdX3_readPair_31 9 rfl
theorem dX3_readPair_50 : decode cX3_readPair 50 = .ok (.getfield 15, 3) := dk_i kdX3_readPair_31 10 rfl
theorem dX3_readPair_53 : decode cX3_readPair 53 = .ok (.bipush 41, 2) := dk_i kdX3_readPair_31 11 rfl
theorem dX3_readPair_55 : decode cX3_readPair 55 = .ok (.invokevirtual 84, 3) := dk_i kdX3_readPair_31 12 rfl
theorem dX3_readPair_58 : decode cX3_readPair 58 = .ok (.ifCond .eq 15, 3) := dk_i kdX3_readPair_31 13 rfl
theorem dX3_readPair_61 : decode cX3_readPair 61 = .ok (.aload_n 0, 1) := dk_i kdX3_readPair_31 14 rfl
theorem dX3_readPair_62 : decode cX3_readPair 62 = .ok (.iload_n 2, 1) := dk_i kdX3_readPair_31 15 rfl
def ldX3_readPair_63 : List (Nat × ClassFile.Instr × Nat) := [(63, .invokevirtual 87, 3), (66, .ifCond .eq 7, 3), (69, .iconst 1, 1), (70, .goto 4, 3), (73, .iconst 0, 1), (74, .ireturn, 1)]
theorem kdX3_readPair_63 : dkO cX3_readPair 63 ldX3_readPair_63 = true := by decide +kernel
theorem dX3_readPair_63 : decode cX3_readPair 63 = .ok (.invokevirtual 87, 3) := dk_i kdX3_readPair_63 0 rfl
theorem dX3_readPair_66 : decode cX3_readPair 66 = .ok (.ifCond .eq 7, 3) := dk_i kdX3_readPair_63 1 rfl
theorem dX3_readPair_69 : decode cX3_readPair 69 = .ok (.iconst 1, 1) := dk_i kdX3_readPair_63 2 rfl
theorem dX3_readPair_70 : decode cX3_readPair 70 = .ok (.goto 4, 3) := dk_i kdX3_readPair_63 3 rfl
theorem dX3_readPair_73 : decode cX3_readPair 73 = .ok (.iconst 0, 1) := dk_i kdX3_readPair_63 4 rfl
theorem dX3_readPair_74 : decode cX3_readPair 74 = .ok (.ireturn, 1) := dk_i kdX3_readPair_63 5 rfl
def ldX3_readChoice_0 : List (Nat × ClassFile.Instr × Nat) := [(0, .aload_n 0, 1), (1, .getfield 15, 3), (4, .invokevirtual 47, 3), (7, .aload_n 0, 1), (8, .bipush 40, 2), (10, .iload_n 1, 1), (11, .invokevirtual 81, 3), (14, .ifCond .eq 82, 3), (17, .aload_n 0, 1), (18, .iload_n 1, 1), (19, .iconst 1, 1), (20, .iadd, 1), (21, .invokevirtual 27, 3), (24, .ifCond .eq 72, 3), (27, .aload_n 0, 1), (28, .getfield 15, 3)]
theorem kdX3_readChoice_0 : dkO cX3_readChoice 0 ldX3_readChoice_0 = true := by decide +kernel
theorem dX3_readChoice_0 : decode cX3_readChoice 0 = .ok (.aload_n 0, 1) := dk_i kdX3_readChoice_0 0 rfl
theorem dX3_readChoice_1 : decode cX3_readChoice 1 = .ok (.getfield 15, 3) := dk_i kdX3_readChoice_0 1 rfl
theorem dX3_readChoice_4 : decode cX3_readChoice 4 = .ok (.invokevirtual 47, 3) := dk_i kdX3_readChoice_0 2 rfl
theorem dX3_readChoice_7 : decode cX3_readChoice 7 = .ok (.aload_n 0, 1) := dk_i kdX3_readChoice_0 3 rfl
theorem dX3_readChoice_8 : decode cX3_readChoice 8 = .ok (.bipush 40, 2) := dk_i kdX3_readChoice_0 4 rfl
theorem dX3_readChoice_10 : decode cX3_readChoice 10 = .ok (.iload_n 1, 1) := dk_i kdX3_readChoice_0 5 rfl
theorem dX3_readChoice_11 : decode cX3_readChoice 11 = .ok (.invokevirtual 81, 3) := dk_i kdX3_readChoice_0 6 rfl
theorem dX3_readChoice_14 : decode cX3_readChoice 14 = .ok (.ifCond .eq 82, 3) := dk_i kdX3_readChoice_0 7 rfl
theorem dX3_readChoice_17 : decode cX3_readChoice 17 = .ok (.aload_n 0, 1) := dk_i kdX3_readChoice_0 8 rfl
theorem dX3_readChoice_18 : decode cX3_readChoice 18 = .ok (.iload_n 1, 1) := dk_i kdX3_readChoice_0 9 rfl
theorem dX3_readChoice_19 : decode cX3_readChoice 19 = .ok (.iconst 1, 1) := dk_i kdX3_readChoice_0 10 rfl
theorem dX3_readChoice_20 : decode cX3_readChoice 20 = .ok (.iadd, 1) := dk_i kdX3_readChoice_0 11 rfl
theorem dX3_readChoice_21 : decode cX3_readChoice 21 = .ok (.invokevirtual 27, 3) := dk_i kdX3_readChoice_0 12 rfl
theorem dX3_readChoice_24 : decode cX3_readChoice 24 = .ok (.ifCond .eq 72, 3) := dk_i kdX3_readChoice_0 13 rfl
theorem dX3_readChoice_27 : decode cX3_readChoice 27 = .ok (.aload_n 0, 1) := dk_i kdX3_readChoice_0 14 rfl
theorem dX3_readChoice_28 : decode cX3_readChoice 28 = .ok (.getfield 15, 3) := dk_i kdX3_readChoice_0 15 rfl
def ldX3_readChoice_31 : List (Nat × ClassFile.Instr × Nat) := [(31, .bipush 44, 2), (33, .invokevirtual 84, 3), (36, .ifCond .eq 60, 3), (39, .aload_n 0, 1), (40, .iload_n 1, 1), (41, .iconst 1, 1), (42, .iadd, 1), (43, .invokevirtual 23, 3), (46, .ifCond .eq 50, 3), (49, .aload_n 0, 1), (50, .getfield 15, 3), (53, .bipush 44, 2), (55, .invokevirtual 84, 3), (58, .ifCond .eq 38, 3), (61, .aload_n 0, 1), (62, .iload_n 1, 1)]
theorem kdX3_readChoice_31 : dkO cX3_readChoice 31 ldX3_readChoice_31 = true := by decide +kernel
theorem dX3_readChoice_31 : decode cX3_readChoice 31 = .ok (.bipush 44, 2) := dk_i kdX3_readChoice_31 0 rfl
theorem dX3_readChoice_33 : decode cX3_readChoice 33 = .ok (.invokevirtual 84, 3) := dk_i kdX3_readChoice_31 1 rfl
theorem dX3_readChoice_36 : decode cX3_readChoice 36 = .ok (.ifCond .eq 60, 3) := dk_i kdX3_readChoice_31 2 rfl
theorem dX3_readChoice_39 : decode cX3_readChoice 39 = .ok (.aload_n 0, 1) := dk_i kdX3_readChoice_31 3 rfl
theorem dX3_readChoice_40 : decode cX3_readChoice 40 = .ok (.iload_n 1, 1) := dk_i kdX3_readChoice_31 4 rfl
theorem dX3_readChoice_41 : decode cX3_readChoice 41 = .ok (.iconst 1, 1) := dk_i kdX3_readChoice_31 5 rfl
theorem dX3_readChoice_42 : decode cX3_readChoice 42 = .ok (.iadd, 1) := dk_i kdX3_readChoice_31 6 rfl
theorem dX3_readChoice_43 : decode cX3_readChoice 43 = .ok (.invokevirtual 23, 3) := dk_i kdX3_readChoice_31 7 rfl
theorem dX3_readChoice_46 : decode cX3_readChoice 46 = .ok (.ifCond .eq 50, 3) := dk_i kdX3_readChoice_31 8 rfl
theorem dX3_readChoice_49 : decode cX3_readChoice 49 = .ok (.aload_n 0, 1) := dk_i kdX3_readChoice_31 9 rfl
theorem dX3_readChoice_50 : decode cX3_readChoice 50 = .ok (.getfield 15, 3) := dk_i kdX3_readChoice_31 10 rfl
theorem dX3_readChoice_53 : decode cX3_readChoice 53 = .ok (.bipush 44, 2) := dk_i kdX3_readChoice_31 11 rfl
theorem dX3_readChoice_55 : decode cX3_readChoice 55 = .ok (.invokevirtual 84, 3) := dk_i kdX3_readChoice_31 12 rfl
theorem dX3_readChoice_58 : decode cX3_readChoice 58 = .ok (.ifCond .eq 38, 3) := dk_i kdX3_readChoice_31 13 rfl
theorem dX3_readChoice_61 : decode cX3_readChoice 61 = .ok (.aload_n 0, 1) := dk_i kdX3_readChoice_31 14 rfl
theorem dX3_readChoice_62 : decode cX3_readChoice 62 = .ok (.iload_n 1, 1) := dk_i kdX3_readChoice_31 15 rfl
def ldX3_readChoice_63 : List (Nat × ClassFile.Instr × Nat) := [(63, .iconst 1, 1), (64, .iadd, 1), (65, .invokevirtual 23, 3), (68, .ifCond .eq 28, 3), (71, .aload_n 0, 1), (72, .getfield 15, 3), (75, .bipush 41, 2), (77, .invokevirtual 84, 3), (80, .ifCond .eq 16, 3), (83, .aload_n 0, 1), (84, .bipush (-14), 2), (86, .invokevirtual 87, 3), (89, .ifCond .eq 7, 3), (92, .iconst 1, 1), (93, .goto 4, 3), (96, .iconst 0, 1)]
theorem kdX3_readChoice_63 : dkO cX3_readChoice 63 ldX3_readChoice_63 = true := by decide +kernel
theorem dX3_readChoice_63 : decode cX3_readChoice 63 = .ok (.iconst 1, 1) := dk_i kdX3_readChoice_63 0 rfl
theorem dX3_readChoice_64 : decode cX3_readChoice 64 = .ok (.iadd, 1) := dk_i kdX3_readChoice_63 1 rfl
theorem dX3_readChoice_65 : decode cX3_readChoice 65 = .ok (.invokevirtual 23, 3) := dk_i kdX3_readChoice_63 2 rfl
theorem dX3_readChoice_68 : decode cX3_readChoice 68 = .ok (.ifCond .eq 28, 3) := dk_i kdX3_readChoice_63 3 rfl
theorem dX3_readChoice_71 : decode cX3_readChoice 71 = .ok (.aload_n 0, 1) := dk_i kdX3_readChoice_63 4 rfl
theorem dX3_readChoice_72 : decode cX3_readChoice 72 = .ok (.getfield 15, 3) := dk_i kdX3_readChoice_63 5 rfl
theorem dX3_readChoice_75 : decode cX3_readChoice 75 = .ok (.bipush 41, 2) := dk_i kdX3_readChoice_63 6 rfl
theorem dX3_readChoice_77 : decode cX3_readChoice 77 = .ok (.invokevirtual 84, 3) := dk_i kdX3_readChoice_63 7 rfl
theorem dX3_readChoice_80 : decode cX3_readChoice 80 = .ok (.ifCond .eq 16, 3) := dk_i kdX3_readChoice_63 8 rfl
theorem dX3_readChoice_83 : decode cX3_readChoice 83 = .ok (.aload_n 0, 1) := dk_i kdX3_readChoice_63 9 rfl
theorem dX3_readChoice_84 : decode cX3_readChoice 84 = .ok (.bipush (-14), 2) := dk_i kdX3_readChoice_63 10 rfl
theorem dX3_readChoice_86 : decode cX3_readChoice 86 = .ok (.invokevirtual 87, 3) := dk_i kdX3_readChoice_63 11 rfl
theorem dX3_readChoice_89 : decode cX3_readChoice 89 = .ok (.ifCond .eq 7, 3) := dk_i kdX3_readChoice_63 12 rfl
theorem dX3_readChoice_92 : decode cX3_readChoice 92 = .ok (.iconst 1, 1) := dk_i kdX3_readChoice_63 13 rfl
theorem dX3_readChoice_93 : decode cX3_readChoice 93 = .ok (.goto 4, 3) := dk_i kdX3_readChoice_63 14 rfl
theorem dX3_readChoice_96 : decode cX3_readChoice 96 = .ok (.iconst 0, 1) := dk_i kdX3_readChoice_63 15 rfl
def ldX3_readChoice_97 : List (Nat × ClassFile.Instr × Nat) := [(97, .ireturn, 1)]
theorem kdX3_readChoice_97 : dkO cX3_readChoice 97 ldX3_readChoice_97 = true := by decide +kernel
theorem dX3_readChoice_97 : decode cX3_readChoice 97 = .ok (.ireturn, 1) := dk_i kdX3_readChoice_97 0 rfl
def ldX3_readTest_0 : List (Nat × ClassFile.Instr × Nat) := [(0, .aload_n 0, 1), (1, .iload_n 1, 1), (2, .invokevirtual 89, 3), (5, .ifCond .ne 5, 3), (8, .iconst 0, 1), (9, .ireturn, 1), (10, .iconst 0, 1), (11, .istore_n 2, 1), (12, .iload_n 2, 1), (13, .sipush 1600, 3), (16, .if_icmp .ge 48, 3), (19, .aload_n 0, 1), (20, .getfield 15, 3), (23, .getfield 30, 3), (26, .sipush 279, 3), (29, .if_icmp .ne 35, 3)]
theorem kdX3_readTest_0 : dkO cX3_readTest 0 ldX3_readTest_0 = true := by decide +kernel
theorem dX3_readTest_0 : decode cX3_readTest 0 = .ok (.aload_n 0, 1) := dk_i kdX3_readTest_0 0 rfl
theorem dX3_readTest_1 : decode cX3_readTest 1 = .ok (.iload_n 1, 1) := dk_i kdX3_readTest_0 1 rfl
theorem dX3_readTest_2 : decode cX3_readTest 2 = .ok (.invokevirtual 89, 3) := dk_i kdX3_readTest_0 2 rfl
theorem dX3_readTest_5 : decode cX3_readTest 5 = .ok (.ifCond .ne 5, 3) := dk_i kdX3_readTest_0 3 rfl
theorem dX3_readTest_8 : decode cX3_readTest 8 = .ok (.iconst 0, 1) := dk_i kdX3_readTest_0 4 rfl
theorem dX3_readTest_9 : decode cX3_readTest 9 = .ok (.ireturn, 1) := dk_i kdX3_readTest_0 5 rfl
theorem dX3_readTest_10 : decode cX3_readTest 10 = .ok (.iconst 0, 1) := dk_i kdX3_readTest_0 6 rfl
theorem dX3_readTest_11 : decode cX3_readTest 11 = .ok (.istore_n 2, 1) := dk_i kdX3_readTest_0 7 rfl
theorem dX3_readTest_12 : decode cX3_readTest 12 = .ok (.iload_n 2, 1) := dk_i kdX3_readTest_0 8 rfl
theorem dX3_readTest_13 : decode cX3_readTest 13 = .ok (.sipush 1600, 3) := dk_i kdX3_readTest_0 9 rfl
theorem dX3_readTest_16 : decode cX3_readTest 16 = .ok (.if_icmp .ge 48, 3) := dk_i kdX3_readTest_0 10 rfl
theorem dX3_readTest_19 : decode cX3_readTest 19 = .ok (.aload_n 0, 1) := dk_i kdX3_readTest_0 11 rfl
theorem dX3_readTest_20 : decode cX3_readTest 20 = .ok (.getfield 15, 3) := dk_i kdX3_readTest_0 12 rfl
theorem dX3_readTest_23 : decode cX3_readTest 23 = .ok (.getfield 30, 3) := dk_i kdX3_readTest_0 13 rfl
theorem dX3_readTest_26 : decode cX3_readTest 26 = .ok (.sipush 279, 3) := dk_i kdX3_readTest_0 14 rfl
theorem dX3_readTest_29 : decode cX3_readTest 29 = .ok (.if_icmp .ne 35, 3) := dk_i kdX3_readTest_0 15 rfl
def ldX3_readTest_32 : List (Nat × ClassFile.Instr × Nat) := [(32, .aload_n 0, 1), (33, .getfield 15, 3), (36, .invokevirtual 47, 3), (39, .aload_n 0, 1), (40, .iload_n 1, 1), (41, .invokevirtual 89, 3), (44, .ifCond .ne 5, 3), (47, .iconst 0, 1), (48, .ireturn, 1), (49, .aload_n 0, 1), (50, .getfield 19, 3), (53, .bipush (-19), 2), (55, .invokevirtual 50, 3), (58, .iinc 2 1, 3), (61, .goto (-49), 3), (64, .iconst 1, 1)]
theorem kdX3_readTest_32 : dkO cX3_readTest 32 ldX3_readTest_32 = true := by decide +kernel
theorem dX3_readTest_32 : decode cX3_readTest 32 = .ok (.aload_n 0, 1) := dk_i kdX3_readTest_32 0 rfl
theorem dX3_readTest_33 : decode cX3_readTest 33 = .ok (.getfield 15, 3) := dk_i kdX3_readTest_32 1 rfl
theorem dX3_readTest_36 : decode cX3_readTest 36 = .ok (.invokevirtual 47, 3) := dk_i kdX3_readTest_32 2 rfl
theorem dX3_readTest_39 : decode cX3_readTest 39 = .ok (.aload_n 0, 1) := dk_i kdX3_readTest_32 3 rfl
theorem dX3_readTest_40 : decode cX3_readTest 40 = .ok (.iload_n 1, 1) := dk_i kdX3_readTest_32 4 rfl
theorem dX3_readTest_41 : decode cX3_readTest 41 = .ok (.invokevirtual 89, 3) := dk_i kdX3_readTest_32 5 rfl
theorem dX3_readTest_44 : decode cX3_readTest 44 = .ok (.ifCond .ne 5, 3) := dk_i kdX3_readTest_32 6 rfl
theorem dX3_readTest_47 : decode cX3_readTest 47 = .ok (.iconst 0, 1) := dk_i kdX3_readTest_32 7 rfl
theorem dX3_readTest_48 : decode cX3_readTest 48 = .ok (.ireturn, 1) := dk_i kdX3_readTest_32 8 rfl
theorem dX3_readTest_49 : decode cX3_readTest 49 = .ok (.aload_n 0, 1) := dk_i kdX3_readTest_32 9 rfl
theorem dX3_readTest_50 : decode cX3_readTest 50 = .ok (.getfield 19, 3) := dk_i kdX3_readTest_32 10 rfl
theorem dX3_readTest_53 : decode cX3_readTest 53 = .ok (.bipush (-19), 2) := dk_i kdX3_readTest_32 11 rfl
theorem dX3_readTest_55 : decode cX3_readTest 55 = .ok (.invokevirtual 50, 3) := dk_i kdX3_readTest_32 12 rfl
theorem dX3_readTest_58 : decode cX3_readTest 58 = .ok (.iinc 2 1, 3) := dk_i kdX3_readTest_32 13 rfl
theorem dX3_readTest_61 : decode cX3_readTest 61 = .ok (.goto (-49), 3) := dk_i kdX3_readTest_32 14 rfl
theorem dX3_readTest_64 : decode cX3_readTest 64 = .ok (.iconst 1, 1) := dk_i kdX3_readTest_32 15 rfl
def ldX3_readTest_65 : List (Nat × ClassFile.Instr × Nat) := [(65, .ireturn, 1)]
theorem kdX3_readTest_65 : dkO cX3_readTest 65 ldX3_readTest_65 = true := by decide +kernel
theorem dX3_readTest_65 : decode cX3_readTest 65 = .ok (.ireturn, 1) := dk_i kdX3_readTest_65 0 rfl
def ldX3_readBoth_0 : List (Nat × ClassFile.Instr × Nat) := [(0, .aload_n 0, 1), (1, .iload_n 1, 1), (2, .invokevirtual 92, 3), (5, .ifCond .ne 5, 3), (8, .iconst 0, 1), (9, .ireturn, 1), (10, .iconst 0, 1), (11, .istore_n 2, 1), (12, .iload_n 2, 1), (13, .sipush 1600, 3), (16, .if_icmp .ge 48, 3), (19, .aload_n 0, 1), (20, .getfield 15, 3), (23, .getfield 30, 3), (26, .sipush 280, 3), (29, .if_icmp .ne 35, 3)]
theorem kdX3_readBoth_0 : dkO cX3_readBoth 0 ldX3_readBoth_0 = true := by decide +kernel
theorem dX3_readBoth_0 : decode cX3_readBoth 0 = .ok (.aload_n 0, 1) := dk_i kdX3_readBoth_0 0 rfl
theorem dX3_readBoth_1 : decode cX3_readBoth 1 = .ok (.iload_n 1, 1) := dk_i kdX3_readBoth_0 1 rfl
theorem dX3_readBoth_2 : decode cX3_readBoth 2 = .ok (.invokevirtual 92, 3) := dk_i kdX3_readBoth_0 2 rfl
theorem dX3_readBoth_5 : decode cX3_readBoth 5 = .ok (.ifCond .ne 5, 3) := dk_i kdX3_readBoth_0 3 rfl
theorem dX3_readBoth_8 : decode cX3_readBoth 8 = .ok (.iconst 0, 1) := dk_i kdX3_readBoth_0 4 rfl
theorem dX3_readBoth_9 : decode cX3_readBoth 9 = .ok (.ireturn, 1) := dk_i kdX3_readBoth_0 5 rfl
theorem dX3_readBoth_10 : decode cX3_readBoth 10 = .ok (.iconst 0, 1) := dk_i kdX3_readBoth_0 6 rfl
theorem dX3_readBoth_11 : decode cX3_readBoth 11 = .ok (.istore_n 2, 1) := dk_i kdX3_readBoth_0 7 rfl
theorem dX3_readBoth_12 : decode cX3_readBoth 12 = .ok (.iload_n 2, 1) := dk_i kdX3_readBoth_0 8 rfl
theorem dX3_readBoth_13 : decode cX3_readBoth 13 = .ok (.sipush 1600, 3) := dk_i kdX3_readBoth_0 9 rfl
theorem dX3_readBoth_16 : decode cX3_readBoth 16 = .ok (.if_icmp .ge 48, 3) := dk_i kdX3_readBoth_0 10 rfl
theorem dX3_readBoth_19 : decode cX3_readBoth 19 = .ok (.aload_n 0, 1) := dk_i kdX3_readBoth_0 11 rfl
theorem dX3_readBoth_20 : decode cX3_readBoth 20 = .ok (.getfield 15, 3) := dk_i kdX3_readBoth_0 12 rfl
theorem dX3_readBoth_23 : decode cX3_readBoth 23 = .ok (.getfield 30, 3) := dk_i kdX3_readBoth_0 13 rfl
theorem dX3_readBoth_26 : decode cX3_readBoth 26 = .ok (.sipush 280, 3) := dk_i kdX3_readBoth_0 14 rfl
theorem dX3_readBoth_29 : decode cX3_readBoth 29 = .ok (.if_icmp .ne 35, 3) := dk_i kdX3_readBoth_0 15 rfl
def ldX3_readBoth_32 : List (Nat × ClassFile.Instr × Nat) := [(32, .aload_n 0, 1), (33, .getfield 15, 3), (36, .invokevirtual 47, 3), (39, .aload_n 0, 1), (40, .iload_n 1, 1), (41, .invokevirtual 92, 3), (44, .ifCond .ne 5, 3), (47, .iconst 0, 1), (48, .ireturn, 1), (49, .aload_n 0, 1), (50, .getfield 19, 3), (53, .bipush (-18), 2), (55, .invokevirtual 50, 3), (58, .iinc 2 1, 3), (61, .goto (-49), 3), (64, .iconst 1, 1)]
theorem kdX3_readBoth_32 : dkO cX3_readBoth 32 ldX3_readBoth_32 = true := by decide +kernel
theorem dX3_readBoth_32 : decode cX3_readBoth 32 = .ok (.aload_n 0, 1) := dk_i kdX3_readBoth_32 0 rfl
theorem dX3_readBoth_33 : decode cX3_readBoth 33 = .ok (.getfield 15, 3) := dk_i kdX3_readBoth_32 1 rfl
theorem dX3_readBoth_36 : decode cX3_readBoth 36 = .ok (.invokevirtual 47, 3) := dk_i kdX3_readBoth_32 2 rfl
theorem dX3_readBoth_39 : decode cX3_readBoth 39 = .ok (.aload_n 0, 1) := dk_i kdX3_readBoth_32 3 rfl
theorem dX3_readBoth_40 : decode cX3_readBoth 40 = .ok (.iload_n 1, 1) := dk_i kdX3_readBoth_32 4 rfl
theorem dX3_readBoth_41 : decode cX3_readBoth 41 = .ok (.invokevirtual 92, 3) := dk_i kdX3_readBoth_32 5 rfl
theorem dX3_readBoth_44 : decode cX3_readBoth 44 = .ok (.ifCond .ne 5, 3) := dk_i kdX3_readBoth_32 6 rfl
theorem dX3_readBoth_47 : decode cX3_readBoth 47 = .ok (.iconst 0, 1) := dk_i kdX3_readBoth_32 7 rfl
theorem dX3_readBoth_48 : decode cX3_readBoth 48 = .ok (.ireturn, 1) := dk_i kdX3_readBoth_32 8 rfl
theorem dX3_readBoth_49 : decode cX3_readBoth 49 = .ok (.aload_n 0, 1) := dk_i kdX3_readBoth_32 9 rfl
theorem dX3_readBoth_50 : decode cX3_readBoth 50 = .ok (.getfield 19, 3) := dk_i kdX3_readBoth_32 10 rfl
theorem dX3_readBoth_53 : decode cX3_readBoth 53 = .ok (.bipush (-18), 2) := dk_i kdX3_readBoth_32 11 rfl
theorem dX3_readBoth_55 : decode cX3_readBoth 55 = .ok (.invokevirtual 50, 3) := dk_i kdX3_readBoth_32 12 rfl
theorem dX3_readBoth_58 : decode cX3_readBoth 58 = .ok (.iinc 2 1, 3) := dk_i kdX3_readBoth_32 13 rfl
theorem dX3_readBoth_61 : decode cX3_readBoth 61 = .ok (.goto (-49), 3) := dk_i kdX3_readBoth_32 14 rfl
theorem dX3_readBoth_64 : decode cX3_readBoth 64 = .ok (.iconst 1, 1) := dk_i kdX3_readBoth_32 15 rfl
def ldX3_readBoth_65 : List (Nat × ClassFile.Instr × Nat) := [(65, .ireturn, 1)]
theorem kdX3_readBoth_65 : dkO cX3_readBoth 65 ldX3_readBoth_65 = true := by decide +kernel
theorem dX3_readBoth_65 : decode cX3_readBoth 65 = .ok (.ireturn, 1) := dk_i kdX3_readBoth_65 0 rfl
def ldX3_readFact_0 : List (Nat × ClassFile.Instr × Nat) := [(0, .aload_n 0, 1), (1, .getfield 15, 3), (4, .getfield 30, 3), (7, .lookupswitch 121 #[(91, 77), (281, 33), (282, 115)], 33), (40, .aload_n 0, 1), (41, .sipush 281, 3), (44, .iload_n 1, 1), (45, .invokevirtual 81, 3), (48, .ifCond .eq 34, 3), (51, .aload_n 0, 1), (52, .iload_n 1, 1), (53, .iconst 1, 1), (54, .iadd, 1), (55, .invokevirtual 92, 3), (58, .ifCond .eq 24, 3), (61, .aload_n 0, 1)]
theorem kdX3_readFact_0 : dkO cX3_readFact 0 ldX3_readFact_0 = true := by decide +kernel
theorem dX3_readFact_0 : decode cX3_readFact 0 = .ok (.aload_n 0, 1) := dk_i kdX3_readFact_0 0 rfl
theorem dX3_readFact_1 : decode cX3_readFact 1 = .ok (.getfield 15, 3) := dk_i kdX3_readFact_0 1 rfl
theorem dX3_readFact_4 : decode cX3_readFact 4 = .ok (.getfield 30, 3) := dk_i kdX3_readFact_0 2 rfl
theorem dX3_readFact_7 : decode cX3_readFact 7 = .ok (.lookupswitch 121 #[(91, 77), (281, 33), (282, 115)], 33) := dk_i kdX3_readFact_0 3 rfl
theorem dX3_readFact_40 : decode cX3_readFact 40 = .ok (.aload_n 0, 1) := dk_i kdX3_readFact_0 4 rfl
theorem dX3_readFact_41 : decode cX3_readFact 41 = .ok (.sipush 281, 3) := dk_i kdX3_readFact_0 5 rfl
theorem dX3_readFact_44 : decode cX3_readFact 44 = .ok (.iload_n 1, 1) := dk_i kdX3_readFact_0 6 rfl
theorem dX3_readFact_45 : decode cX3_readFact 45 = .ok (.invokevirtual 81, 3) := dk_i kdX3_readFact_0 7 rfl
theorem dX3_readFact_48 : decode cX3_readFact 48 = .ok (.ifCond .eq 34, 3) := dk_i kdX3_readFact_0 8 rfl
theorem dX3_readFact_51 : decode cX3_readFact 51 = .ok (.aload_n 0, 1) := dk_i kdX3_readFact_0 9 rfl
theorem dX3_readFact_52 : decode cX3_readFact 52 = .ok (.iload_n 1, 1) := dk_i kdX3_readFact_0 10 rfl
theorem dX3_readFact_53 : decode cX3_readFact 53 = .ok (.iconst 1, 1) := dk_i kdX3_readFact_0 11 rfl
theorem dX3_readFact_54 : decode cX3_readFact 54 = .ok (.iadd, 1) := dk_i kdX3_readFact_0 12 rfl
theorem dX3_readFact_55 : decode cX3_readFact 55 = .ok (.invokevirtual 92, 3) := dk_i kdX3_readFact_0 13 rfl
theorem dX3_readFact_58 : decode cX3_readFact 58 = .ok (.ifCond .eq 24, 3) := dk_i kdX3_readFact_0 14 rfl
theorem dX3_readFact_61 : decode cX3_readFact 61 = .ok (.aload_n 0, 1) := dk_i kdX3_readFact_0 15 rfl
def ldX3_readFact_62 : List (Nat × ClassFile.Instr × Nat) := [(62, .iconst 0, 1), (63, .invokevirtual 87, 3), (66, .ifCond .eq 16, 3), (69, .aload_n 0, 1), (70, .bipush (-17), 2), (72, .invokevirtual 87, 3), (75, .ifCond .eq 7, 3), (78, .iconst 1, 1), (79, .goto 4, 3), (82, .iconst 0, 1), (83, .ireturn, 1), (84, .aload_n 0, 1), (85, .bipush 91, 2), (87, .iload_n 1, 1), (88, .invokevirtual 81, 3), (91, .ifCond .eq 29, 3)]
theorem kdX3_readFact_62 : dkO cX3_readFact 62 ldX3_readFact_62 = true := by decide +kernel
theorem dX3_readFact_62 : decode cX3_readFact 62 = .ok (.iconst 0, 1) := dk_i kdX3_readFact_62 0 rfl
theorem dX3_readFact_63 : decode cX3_readFact 63 = .ok (.invokevirtual 87, 3) := dk_i kdX3_readFact_62 1 rfl
theorem dX3_readFact_66 : decode cX3_readFact 66 = .ok (.ifCond .eq 16, 3) := dk_i kdX3_readFact_62 2 rfl
theorem dX3_readFact_69 : decode cX3_readFact 69 = .ok (.aload_n 0, 1) := dk_i kdX3_readFact_62 3 rfl
theorem dX3_readFact_70 : decode cX3_readFact 70 = .ok (.bipush (-17), 2) := dk_i kdX3_readFact_62 4 rfl
theorem dX3_readFact_72 : decode cX3_readFact 72 = .ok (.invokevirtual 87, 3) := dk_i kdX3_readFact_62 5 rfl
theorem dX3_readFact_75 : decode cX3_readFact 75 = .ok (.ifCond .eq 7, 3) := dk_i kdX3_readFact_62 6 rfl
theorem dX3_readFact_78 : decode cX3_readFact 78 = .ok (.iconst 1, 1) := dk_i kdX3_readFact_62 7 rfl
theorem dX3_readFact_79 : decode cX3_readFact 79 = .ok (.goto 4, 3) := dk_i kdX3_readFact_62 8 rfl
theorem dX3_readFact_82 : decode cX3_readFact 82 = .ok (.iconst 0, 1) := dk_i kdX3_readFact_62 9 rfl
theorem dX3_readFact_83 : decode cX3_readFact 83 = .ok (.ireturn, 1) := dk_i kdX3_readFact_62 10 rfl
theorem dX3_readFact_84 : decode cX3_readFact 84 = .ok (.aload_n 0, 1) := dk_i kdX3_readFact_62 11 rfl
theorem dX3_readFact_85 : decode cX3_readFact 85 = .ok (.bipush 91, 2) := dk_i kdX3_readFact_62 12 rfl
theorem dX3_readFact_87 : decode cX3_readFact 87 = .ok (.iload_n 1, 1) := dk_i kdX3_readFact_62 13 rfl
theorem dX3_readFact_88 : decode cX3_readFact 88 = .ok (.invokevirtual 81, 3) := dk_i kdX3_readFact_62 14 rfl
theorem dX3_readFact_91 : decode cX3_readFact 91 = .ok (.ifCond .eq 29, 3) := dk_i kdX3_readFact_62 15 rfl
def ldX3_readFact_94 : List (Nat × ClassFile.Instr × Nat) := [(94, .aload_n 0, 1), (95, .iload_n 1, 1), (96, .iconst 1, 1), (97, .iadd, 1), (98, .invokevirtual 27, 3), (101, .ifCond .eq 19, 3), (104, .aload_n 0, 1), (105, .getfield 15, 3), (108, .bipush 93, 2), (110, .invokevirtual 84, 3), (113, .ifCond .eq 7, 3), (116, .iconst 1, 1), (117, .goto 4, 3), (120, .iconst 0, 1), (121, .ireturn, 1), (122, .aload_n 0, 1)]
theorem kdX3_readFact_94 : dkO cX3_readFact 94 ldX3_readFact_94 = true := by decide +kernel
theorem dX3_readFact_94 : decode cX3_readFact 94 = .ok (.aload_n 0, 1) := dk_i kdX3_readFact_94 0 rfl
theorem dX3_readFact_95 : decode cX3_readFact 95 = .ok (.iload_n 1, 1) := dk_i kdX3_readFact_94 1 rfl
theorem dX3_readFact_96 : decode cX3_readFact 96 = .ok (.iconst 1, 1) := dk_i kdX3_readFact_94 2 rfl
theorem dX3_readFact_97 : decode cX3_readFact 97 = .ok (.iadd, 1) := dk_i kdX3_readFact_94 3 rfl
theorem dX3_readFact_98 : decode cX3_readFact 98 = .ok (.invokevirtual 27, 3) := dk_i kdX3_readFact_94 4 rfl
theorem dX3_readFact_101 : decode cX3_readFact 101 = .ok (.ifCond .eq 19, 3) := dk_i kdX3_readFact_94 5 rfl
theorem dX3_readFact_104 : decode cX3_readFact 104 = .ok (.aload_n 0, 1) := dk_i kdX3_readFact_94 6 rfl
theorem dX3_readFact_105 : decode cX3_readFact 105 = .ok (.getfield 15, 3) := dk_i kdX3_readFact_94 7 rfl
theorem dX3_readFact_108 : decode cX3_readFact 108 = .ok (.bipush 93, 2) := dk_i kdX3_readFact_94 8 rfl
theorem dX3_readFact_110 : decode cX3_readFact 110 = .ok (.invokevirtual 84, 3) := dk_i kdX3_readFact_94 9 rfl
theorem dX3_readFact_113 : decode cX3_readFact 113 = .ok (.ifCond .eq 7, 3) := dk_i kdX3_readFact_94 10 rfl
theorem dX3_readFact_116 : decode cX3_readFact 116 = .ok (.iconst 1, 1) := dk_i kdX3_readFact_94 11 rfl
theorem dX3_readFact_117 : decode cX3_readFact 117 = .ok (.goto 4, 3) := dk_i kdX3_readFact_94 12 rfl
theorem dX3_readFact_120 : decode cX3_readFact 120 = .ok (.iconst 0, 1) := dk_i kdX3_readFact_94 13 rfl
theorem dX3_readFact_121 : decode cX3_readFact 121 = .ok (.ireturn, 1) := dk_i kdX3_readFact_94 14 rfl
theorem dX3_readFact_122 : decode cX3_readFact 122 = .ok (.aload_n 0, 1) := dk_i kdX3_readFact_94 15 rfl
def ldX3_readFact_123 : List (Nat × ClassFile.Instr × Nat) := [(123, .iconst 1, 1), (124, .invokevirtual 72, 3), (127, .ireturn, 1), (128, .aload_n 0, 1), (129, .iload_n 1, 1), (130, .invokevirtual 95, 3), (133, .ireturn, 1)]
theorem kdX3_readFact_123 : dkO cX3_readFact 123 ldX3_readFact_123 = true := by decide +kernel
theorem dX3_readFact_123 : decode cX3_readFact 123 = .ok (.iconst 1, 1) := dk_i kdX3_readFact_123 0 rfl
theorem dX3_readFact_124 : decode cX3_readFact 124 = .ok (.invokevirtual 72, 3) := dk_i kdX3_readFact_123 1 rfl
theorem dX3_readFact_127 : decode cX3_readFact 127 = .ok (.ireturn, 1) := dk_i kdX3_readFact_123 2 rfl
theorem dX3_readFact_128 : decode cX3_readFact 128 = .ok (.aload_n 0, 1) := dk_i kdX3_readFact_123 3 rfl
theorem dX3_readFact_129 : decode cX3_readFact 129 = .ok (.iload_n 1, 1) := dk_i kdX3_readFact_123 4 rfl
theorem dX3_readFact_130 : decode cX3_readFact 130 = .ok (.invokevirtual 95, 3) := dk_i kdX3_readFact_123 5 rfl
theorem dX3_readFact_133 : decode cX3_readFact 133 = .ok (.ireturn, 1) := dk_i kdX3_readFact_123 6 rfl
def ldX3_readComparison_0 : List (Nat × ClassFile.Instr × Nat) := [(0, .aload_n 0, 1), (1, .iload_n 1, 1), (2, .invokevirtual 23, 3), (5, .ifCond .ne 5, 3), (8, .iconst 0, 1), (9, .ireturn, 1), (10, .aload_n 0, 1), (11, .invokevirtual 98, 3), (14, .istore_n 2, 1), (15, .iload_n 2, 1), (16, .ifCond .ne 11, 3), (19, .aload_n 0, 1), (20, .getfield 15, 3), (23, .invokevirtual 36, 3), (26, .ireturn, 1), (27, .aload_n 0, 1)]
theorem kdX3_readComparison_0 : dkO cX3_readComparison 0 ldX3_readComparison_0 = true := by decide +kernel
theorem dX3_readComparison_0 : decode cX3_readComparison 0 = .ok (.aload_n 0, 1) := dk_i kdX3_readComparison_0 0 rfl
theorem dX3_readComparison_1 : decode cX3_readComparison 1 = .ok (.iload_n 1, 1) := dk_i kdX3_readComparison_0 1 rfl
theorem dX3_readComparison_2 : decode cX3_readComparison 2 = .ok (.invokevirtual 23, 3) := dk_i kdX3_readComparison_0 2 rfl
theorem dX3_readComparison_5 : decode cX3_readComparison 5 = .ok (.ifCond .ne 5, 3) := dk_i kdX3_readComparison_0 3 rfl
theorem dX3_readComparison_8 : decode cX3_readComparison 8 = .ok (.iconst 0, 1) := dk_i kdX3_readComparison_0 4 rfl
theorem dX3_readComparison_9 : decode cX3_readComparison 9 = .ok (.ireturn, 1) := dk_i kdX3_readComparison_0 5 rfl
theorem dX3_readComparison_10 : decode cX3_readComparison 10 = .ok (.aload_n 0, 1) := dk_i kdX3_readComparison_0 6 rfl
theorem dX3_readComparison_11 : decode cX3_readComparison 11 = .ok (.invokevirtual 98, 3) := dk_i kdX3_readComparison_0 7 rfl
theorem dX3_readComparison_14 : decode cX3_readComparison 14 = .ok (.istore_n 2, 1) := dk_i kdX3_readComparison_0 8 rfl
theorem dX3_readComparison_15 : decode cX3_readComparison 15 = .ok (.iload_n 2, 1) := dk_i kdX3_readComparison_0 9 rfl
theorem dX3_readComparison_16 : decode cX3_readComparison 16 = .ok (.ifCond .ne 11, 3) := dk_i kdX3_readComparison_0 10 rfl
theorem dX3_readComparison_19 : decode cX3_readComparison 19 = .ok (.aload_n 0, 1) := dk_i kdX3_readComparison_0 11 rfl
theorem dX3_readComparison_20 : decode cX3_readComparison 20 = .ok (.getfield 15, 3) := dk_i kdX3_readComparison_0 12 rfl
theorem dX3_readComparison_23 : decode cX3_readComparison 23 = .ok (.invokevirtual 36, 3) := dk_i kdX3_readComparison_0 13 rfl
theorem dX3_readComparison_26 : decode cX3_readComparison 26 = .ok (.ireturn, 1) := dk_i kdX3_readComparison_0 14 rfl
theorem dX3_readComparison_27 : decode cX3_readComparison 27 = .ok (.aload_n 0, 1) := dk_i kdX3_readComparison_0 15 rfl
def ldX3_readComparison_28 : List (Nat × ClassFile.Instr × Nat) := [(28, .getfield 15, 3), (31, .invokevirtual 47, 3), (34, .aload_n 0, 1), (35, .iload_n 1, 1), (36, .invokevirtual 23, 3), (39, .ifCond .eq 15, 3), (42, .aload_n 0, 1), (43, .iload_n 2, 1), (44, .invokevirtual 87, 3), (47, .ifCond .eq 7, 3), (50, .iconst 1, 1), (51, .goto 4, 3), (54, .iconst 0, 1), (55, .ireturn, 1)]
theorem kdX3_readComparison_28 : dkO cX3_readComparison 28 ldX3_readComparison_28 = true := by decide +kernel
theorem dX3_readComparison_28 : decode cX3_readComparison 28 = .ok (.getfield 15, 3) := dk_i kdX3_readComparison_28 0 rfl
theorem dX3_readComparison_31 : decode cX3_readComparison 31 = .ok (.invokevirtual 47, 3) := dk_i kdX3_readComparison_28 1 rfl
theorem dX3_readComparison_34 : decode cX3_readComparison 34 = .ok (.aload_n 0, 1) := dk_i kdX3_readComparison_28 2 rfl
theorem dX3_readComparison_35 : decode cX3_readComparison 35 = .ok (.iload_n 1, 1) := dk_i kdX3_readComparison_28 3 rfl
theorem dX3_readComparison_36 : decode cX3_readComparison 36 = .ok (.invokevirtual 23, 3) := dk_i kdX3_readComparison_28 4 rfl
theorem dX3_readComparison_39 : decode cX3_readComparison 39 = .ok (.ifCond .eq 15, 3) := dk_i kdX3_readComparison_28 5 rfl
theorem dX3_readComparison_42 : decode cX3_readComparison 42 = .ok (.aload_n 0, 1) := dk_i kdX3_readComparison_28 6 rfl
theorem dX3_readComparison_43 : decode cX3_readComparison 43 = .ok (.iload_n 2, 1) := dk_i kdX3_readComparison_28 7 rfl
theorem dX3_readComparison_44 : decode cX3_readComparison 44 = .ok (.invokevirtual 87, 3) := dk_i kdX3_readComparison_28 8 rfl
theorem dX3_readComparison_47 : decode cX3_readComparison 47 = .ok (.ifCond .eq 7, 3) := dk_i kdX3_readComparison_28 9 rfl
theorem dX3_readComparison_50 : decode cX3_readComparison 50 = .ok (.iconst 1, 1) := dk_i kdX3_readComparison_28 10 rfl
theorem dX3_readComparison_51 : decode cX3_readComparison 51 = .ok (.goto 4, 3) := dk_i kdX3_readComparison_28 11 rfl
theorem dX3_readComparison_54 : decode cX3_readComparison 54 = .ok (.iconst 0, 1) := dk_i kdX3_readComparison_28 12 rfl
theorem dX3_readComparison_55 : decode cX3_readComparison 55 = .ok (.ireturn, 1) := dk_i kdX3_readComparison_28 13 rfl
def ldX3_comparisonStep_0 : List (Nat × ClassFile.Instr × Nat) := [(0, .aload_n 0, 1), (1, .getfield 15, 3), (4, .getfield 30, 3), (7, .tableswitch 34 60 62 #[25, 31, 28], 25), (32, .bipush (-15), 2), (34, .ireturn, 1), (35, .bipush (-16), 2), (37, .ireturn, 1), (38, .bipush (-17), 2), (40, .ireturn, 1), (41, .iconst 0, 1), (42, .ireturn, 1)]
theorem kdX3_comparisonStep_0 : dkO cX3_comparisonStep 0 ldX3_comparisonStep_0 = true := by decide +kernel
theorem dX3_comparisonStep_0 : decode cX3_comparisonStep 0 = .ok (.aload_n 0, 1) := dk_i kdX3_comparisonStep_0 0 rfl
theorem dX3_comparisonStep_1 : decode cX3_comparisonStep 1 = .ok (.getfield 15, 3) := dk_i kdX3_comparisonStep_0 1 rfl
theorem dX3_comparisonStep_4 : decode cX3_comparisonStep 4 = .ok (.getfield 30, 3) := dk_i kdX3_comparisonStep_0 2 rfl
theorem dX3_comparisonStep_7 : decode cX3_comparisonStep 7 = .ok (.tableswitch 34 60 62 #[25, 31, 28], 25) := dk_i kdX3_comparisonStep_0 3 rfl
theorem dX3_comparisonStep_32 : decode cX3_comparisonStep 32 = .ok (.bipush (-15), 2) := dk_i kdX3_comparisonStep_0 4 rfl
theorem dX3_comparisonStep_34 : decode cX3_comparisonStep 34 = .ok (.ireturn, 1) := dk_i kdX3_comparisonStep_0 5 rfl
theorem dX3_comparisonStep_35 : decode cX3_comparisonStep 35 = .ok (.bipush (-16), 2) := dk_i kdX3_comparisonStep_0 6 rfl
theorem dX3_comparisonStep_37 : decode cX3_comparisonStep 37 = .ok (.ireturn, 1) := dk_i kdX3_comparisonStep_0 7 rfl
theorem dX3_comparisonStep_38 : decode cX3_comparisonStep 38 = .ok (.bipush (-17), 2) := dk_i kdX3_comparisonStep_0 8 rfl
theorem dX3_comparisonStep_40 : decode cX3_comparisonStep 40 = .ok (.ireturn, 1) := dk_i kdX3_comparisonStep_0 9 rfl
theorem dX3_comparisonStep_41 : decode cX3_comparisonStep 41 = .ok (.iconst 0, 1) := dk_i kdX3_comparisonStep_0 10 rfl
theorem dX3_comparisonStep_42 : decode cX3_comparisonStep 42 = .ok (.ireturn, 1) := dk_i kdX3_comparisonStep_0 11 rfl
end
