def ldX12_begin_83 : List (Nat × ClassFile.Instr × Nat) := [(83, .pop, 1), (84, .return_, 1)]
theorem kdX12_begin_83 : dkO cX12_begin 83 ldX12_begin_83 = true := by decide +kernel
theorem dX12_begin_83 : decode cX12_begin 83 = .ok (.pop, 1) := dk_i kdX12_begin_83 0 rfl
theorem dX12_begin_84 : decode cX12_begin 84 = .ok (.return_, 1) := dk_i kdX12_begin_83 1 rfl
def ldX12_slot_0 : List (Nat × ClassFile.Instr × Nat) := [(0, .iconst 2, 1), (1, .aload_n 0, 1), (2, .getfield 174, 3), (5, .iload_n 1, 1), (6, .iadd, 1), (7, .bipush 20, 2), (9, .irem, 1), (10, .iadd, 1), (11, .ireturn, 1)]
theorem kdX12_slot_0 : dkO cX12_slot 0 ldX12_slot_0 = true := by decide +kernel
theorem dX12_slot_0 : decode cX12_slot 0 = .ok (.iconst 2, 1) := dk_i kdX12_slot_0 0 rfl
theorem dX12_slot_1 : decode cX12_slot 1 = .ok (.aload_n 0, 1) := dk_i kdX12_slot_0 1 rfl
theorem dX12_slot_2 : decode cX12_slot 2 = .ok (.getfield 174, 3) := dk_i kdX12_slot_0 2 rfl
theorem dX12_slot_5 : decode cX12_slot 5 = .ok (.iload_n 1, 1) := dk_i kdX12_slot_0 3 rfl
theorem dX12_slot_6 : decode cX12_slot 6 = .ok (.iadd, 1) := dk_i kdX12_slot_0 4 rfl
theorem dX12_slot_7 : decode cX12_slot 7 = .ok (.bipush 20, 2) := dk_i kdX12_slot_0 5 rfl
theorem dX12_slot_9 : decode cX12_slot 9 = .ok (.irem, 1) := dk_i kdX12_slot_0 6 rfl
theorem dX12_slot_10 : decode cX12_slot 10 = .ok (.iadd, 1) := dk_i kdX12_slot_0 7 rfl
theorem dX12_slot_11 : decode cX12_slot 11 = .ok (.ireturn, 1) := dk_i kdX12_slot_0 8 rfl
def ldX12_keeps_0 : List (Nat × ClassFile.Instr × Nat) := [(0, .aload_n 0, 1), (1, .getfield 177, 3), (4, .bipush 20, 2), (6, .if_icmp .ne 26, 3), (9, .aload_n 0, 1), (10, .aload_n 0, 1), (11, .getfield 174, 3), (14, .iconst 1, 1), (15, .iadd, 1), (16, .bipush 20, 2), (18, .irem, 1), (19, .putfield 174, 3), (22, .aload_n 0, 1), (23, .dup, 1), (24, .getfield 177, 3), (27, .iconst 1, 1)]
theorem kdX12_keeps_0 : dkO cX12_keeps 0 ldX12_keeps_0 = true := by decide +kernel
theorem dX12_keeps_0 : decode cX12_keeps 0 = .ok (.aload_n 0, 1) := dk_i kdX12_keeps_0 0 rfl
theorem dX12_keeps_1 : decode cX12_keeps 1 = .ok (.getfield 177, 3) := dk_i kdX12_keeps_0 1 rfl
theorem dX12_keeps_4 : decode cX12_keeps 4 = .ok (.bipush 20, 2) := dk_i kdX12_keeps_0 2 rfl
theorem dX12_keeps_6 : decode cX12_keeps 6 = .ok (.if_icmp .ne 26, 3) := dk_i kdX12_keeps_0 3 rfl
theorem dX12_keeps_9 : decode cX12_keeps 9 = .ok (.aload_n 0, 1) := dk_i kdX12_keeps_0 4 rfl
theorem dX12_keeps_10 : decode cX12_keeps 10 = .ok (.aload_n 0, 1) := dk_i kdX12_keeps_0 5 rfl
theorem dX12_keeps_11 : decode cX12_keeps 11 = .ok (.getfield 174, 3) := dk_i kdX12_keeps_0 6 rfl
theorem dX12_keeps_14 : decode cX12_keeps 14 = .ok (.iconst 1, 1) := dk_i kdX12_keeps_0 7 rfl
theorem dX12_keeps_15 : decode cX12_keeps 15 = .ok (.iadd, 1) := dk_i kdX12_keeps_0 8 rfl
theorem dX12_keeps_16 : decode cX12_keeps 16 = .ok (.bipush 20, 2) := dk_i kdX12_keeps_0 9 rfl
theorem dX12_keeps_18 : decode cX12_keeps 18 = .ok (.irem, 1) := dk_i kdX12_keeps_0 10 rfl
theorem dX12_keeps_19 : decode cX12_keeps 19 = .ok (.putfield 174, 3) := dk_i kdX12_keeps_0 11 rfl
theorem dX12_keeps_22 : decode cX12_keeps 22 = .ok (.aload_n 0, 1) := dk_i kdX12_keeps_0 12 rfl
theorem dX12_keeps_23 : decode cX12_keeps 23 = .ok (.dup, 1) := dk_i kdX12_keeps_0 13 rfl
theorem dX12_keeps_24 : decode cX12_keeps 24 = .ok (.getfield 177, 3) := dk_i kdX12_keeps_0 14 rfl
theorem dX12_keeps_27 : decode cX12_keeps 27 = .ok (.iconst 1, 1) := dk_i kdX12_keeps_0 15 rfl
def ldX12_keeps_28 : List (Nat × ClassFile.Instr × Nat) := [(28, .isub, 1), (29, .putfield 177, 3), (32, .aload_n 0, 1), (33, .aload_n 0, 1), (34, .aload_n 0, 1), (35, .getfield 177, 3), (38, .invokevirtual 415, 3), (41, .iconst 0, 1), (42, .invokevirtual 418, 3), (45, .aload_n 0, 1), (46, .dup, 1), (47, .getfield 177, 3), (50, .iconst 1, 1), (51, .iadd, 1), (52, .putfield 177, 3), (55, .return_, 1)]
theorem kdX12_keeps_28 : dkO cX12_keeps 28 ldX12_keeps_28 = true := by decide +kernel
theorem dX12_keeps_28 : decode cX12_keeps 28 = .ok (.isub, 1) := dk_i kdX12_keeps_28 0 rfl
theorem dX12_keeps_29 : decode cX12_keeps 29 = .ok (.putfield 177, 3) := dk_i kdX12_keeps_28 1 rfl
theorem dX12_keeps_32 : decode cX12_keeps 32 = .ok (.aload_n 0, 1) := dk_i kdX12_keeps_28 2 rfl
theorem dX12_keeps_33 : decode cX12_keeps 33 = .ok (.aload_n 0, 1) := dk_i kdX12_keeps_28 3 rfl
theorem dX12_keeps_34 : decode cX12_keeps 34 = .ok (.aload_n 0, 1) := dk_i kdX12_keeps_28 4 rfl
theorem dX12_keeps_35 : decode cX12_keeps 35 = .ok (.getfield 177, 3) := dk_i kdX12_keeps_28 5 rfl
theorem dX12_keeps_38 : decode cX12_keeps 38 = .ok (.invokevirtual 415, 3) := dk_i kdX12_keeps_28 6 rfl
theorem dX12_keeps_41 : decode cX12_keeps 41 = .ok (.iconst 0, 1) := dk_i kdX12_keeps_28 7 rfl
theorem dX12_keeps_42 : decode cX12_keeps 42 = .ok (.invokevirtual 418, 3) := dk_i kdX12_keeps_28 8 rfl
theorem dX12_keeps_45 : decode cX12_keeps 45 = .ok (.aload_n 0, 1) := dk_i kdX12_keeps_28 9 rfl
theorem dX12_keeps_46 : decode cX12_keeps 46 = .ok (.dup, 1) := dk_i kdX12_keeps_28 10 rfl
theorem dX12_keeps_47 : decode cX12_keeps 47 = .ok (.getfield 177, 3) := dk_i kdX12_keeps_28 11 rfl
theorem dX12_keeps_50 : decode cX12_keeps 50 = .ok (.iconst 1, 1) := dk_i kdX12_keeps_28 12 rfl
theorem dX12_keeps_51 : decode cX12_keeps 51 = .ok (.iadd, 1) := dk_i kdX12_keeps_28 13 rfl
theorem dX12_keeps_52 : decode cX12_keeps 52 = .ok (.putfield 177, 3) := dk_i kdX12_keeps_28 14 rfl
theorem dX12_keeps_55 : decode cX12_keeps 55 = .ok (.return_, 1) := dk_i kdX12_keeps_28 15 rfl
def ldX12_undo_0 : List (Nat × ClassFile.Instr × Nat) := [(0, .aload_n 0, 1), (1, .getfield 177, 3), (4, .ifCond .ne 17, 3), (7, .aload_n 0, 1), (8, .iconst 4, 1), (9, .invokevirtual 219, 3), (12, .ifCond .lt 7, 3), (15, .iconst 1, 1), (16, .goto 4, 3), (19, .iconst 0, 1), (20, .ireturn, 1), (21, .aload_n 0, 1), (22, .dup, 1), (23, .getfield 177, 3), (26, .iconst 1, 1), (27, .isub, 1)]
theorem kdX12_undo_0 : dkO cX12_undo 0 ldX12_undo_0 = true := by decide +kernel
theorem dX12_undo_0 : decode cX12_undo 0 = .ok (.aload_n 0, 1) := dk_i kdX12_undo_0 0 rfl
theorem dX12_undo_1 : decode cX12_undo 1 = .ok (.getfield 177, 3) := dk_i kdX12_undo_0 1 rfl
theorem dX12_undo_4 : decode cX12_undo 4 = .ok (.ifCond .ne 17, 3) := dk_i kdX12_undo_0 2 rfl
theorem dX12_undo_7 : decode cX12_undo 7 = .ok (.aload_n 0, 1) := dk_i kdX12_undo_0 3 rfl
theorem dX12_undo_8 : decode cX12_undo 8 = .ok (.iconst 4, 1) := dk_i kdX12_undo_0 4 rfl
theorem dX12_undo_9 : decode cX12_undo 9 = .ok (.invokevirtual 219, 3) := dk_i kdX12_undo_0 5 rfl
theorem dX12_undo_12 : decode cX12_undo 12 = .ok (.ifCond .lt 7, 3) := dk_i kdX12_undo_0 6 rfl
theorem dX12_undo_15 : decode cX12_undo 15 = .ok (.iconst 1, 1) := dk_i kdX12_undo_0 7 rfl
theorem dX12_undo_16 : decode cX12_undo 16 = .ok (.goto 4, 3) := dk_i kdX12_undo_0 8 rfl
theorem dX12_undo_19 : decode cX12_undo 19 = .ok (.iconst 0, 1) := dk_i kdX12_undo_0 9 rfl
theorem dX12_undo_20 : decode cX12_undo 20 = .ok (.ireturn, 1) := dk_i kdX12_undo_0 10 rfl
theorem dX12_undo_21 : decode cX12_undo 21 = .ok (.aload_n 0, 1) := dk_i kdX12_undo_0 11 rfl
theorem dX12_undo_22 : decode cX12_undo 22 = .ok (.dup, 1) := dk_i kdX12_undo_0 12 rfl
theorem dX12_undo_23 : decode cX12_undo 23 = .ok (.getfield 177, 3) := dk_i kdX12_undo_0 13 rfl
theorem dX12_undo_26 : decode cX12_undo 26 = .ok (.iconst 1, 1) := dk_i kdX12_undo_0 14 rfl
theorem dX12_undo_27 : decode cX12_undo 27 = .ok (.isub, 1) := dk_i kdX12_undo_0 15 rfl
def ldX12_undo_28 : List (Nat × ClassFile.Instr × Nat) := [(28, .putfield 177, 3), (31, .aload_n 0, 1), (32, .iconst 0, 1), (33, .aload_n 0, 1), (34, .aload_n 0, 1), (35, .getfield 177, 3), (38, .invokevirtual 415, 3), (41, .invokevirtual 418, 3), (44, .iconst 1, 1), (45, .ireturn, 1)]
theorem kdX12_undo_28 : dkO cX12_undo 28 ldX12_undo_28 = true := by decide +kernel
theorem dX12_undo_28 : decode cX12_undo 28 = .ok (.putfield 177, 3) := dk_i kdX12_undo_28 0 rfl
theorem dX12_undo_31 : decode cX12_undo 31 = .ok (.aload_n 0, 1) := dk_i kdX12_undo_28 1 rfl
theorem dX12_undo_32 : decode cX12_undo 32 = .ok (.iconst 0, 1) := dk_i kdX12_undo_28 2 rfl
theorem dX12_undo_33 : decode cX12_undo 33 = .ok (.aload_n 0, 1) := dk_i kdX12_undo_28 3 rfl
theorem dX12_undo_34 : decode cX12_undo 34 = .ok (.aload_n 0, 1) := dk_i kdX12_undo_28 4 rfl
theorem dX12_undo_35 : decode cX12_undo 35 = .ok (.getfield 177, 3) := dk_i kdX12_undo_28 5 rfl
theorem dX12_undo_38 : decode cX12_undo 38 = .ok (.invokevirtual 415, 3) := dk_i kdX12_undo_28 6 rfl
theorem dX12_undo_41 : decode cX12_undo 41 = .ok (.invokevirtual 418, 3) := dk_i kdX12_undo_28 7 rfl
theorem dX12_undo_44 : decode cX12_undo 44 = .ok (.iconst 1, 1) := dk_i kdX12_undo_28 8 rfl
theorem dX12_undo_45 : decode cX12_undo 45 = .ok (.ireturn, 1) := dk_i kdX12_undo_28 9 rfl
def ldX12_within_0 : List (Nat × ClassFile.Instr × Nat) := [(0, .lload_n 0, 1), (1, .ldc2_w 421, 3), (4, .lcmp, 1), (5, .ifCond .le 9, 3), (8, .ldc2_w 421, 3), (11, .goto 18, 3), (14, .lload_n 0, 1), (15, .ldc2_w 423, 3), (18, .lcmp, 1), (19, .ifCond .ge 9, 3), (22, .ldc2_w 423, 3), (25, .goto 4, 3), (28, .lload_n 0, 1), (29, .lreturn, 1)]
theorem kdX12_within_0 : dkO cX12_within 0 ldX12_within_0 = true := by decide +kernel
theorem dX12_within_0 : decode cX12_within 0 = .ok (.lload_n 0, 1) := dk_i kdX12_within_0 0 rfl
theorem dX12_within_1 : decode cX12_within 1 = .ok (.ldc2_w 421, 3) := dk_i kdX12_within_0 1 rfl
theorem dX12_within_4 : decode cX12_within 4 = .ok (.lcmp, 1) := dk_i kdX12_within_0 2 rfl
theorem dX12_within_5 : decode cX12_within 5 = .ok (.ifCond .le 9, 3) := dk_i kdX12_within_0 3 rfl
theorem dX12_within_8 : decode cX12_within 8 = .ok (.ldc2_w 421, 3) := dk_i kdX12_within_0 4 rfl
theorem dX12_within_11 : decode cX12_within 11 = .ok (.goto 18, 3) := dk_i kdX12_within_0 5 rfl
theorem dX12_within_14 : decode cX12_within 14 = .ok (.lload_n 0, 1) := dk_i kdX12_within_0 6 rfl
theorem dX12_within_15 : decode cX12_within 15 = .ok (.ldc2_w 423, 3) := dk_i kdX12_within_0 7 rfl
theorem dX12_within_18 : decode cX12_within 18 = .ok (.lcmp, 1) := dk_i kdX12_within_0 8 rfl
theorem dX12_within_19 : decode cX12_within 19 = .ok (.ifCond .ge 9, 3) := dk_i kdX12_within_0 9 rfl
theorem dX12_within_22 : decode cX12_within 22 = .ok (.ldc2_w 423, 3) := dk_i kdX12_within_0 10 rfl
theorem dX12_within_25 : decode cX12_within 25 = .ok (.goto 4, 3) := dk_i kdX12_within_0 11 rfl
theorem dX12_within_28 : decode cX12_within 28 = .ok (.lload_n 0, 1) := dk_i kdX12_within_0 12 rfl
theorem dX12_within_29 : decode cX12_within 29 = .ok (.lreturn, 1) := dk_i kdX12_within_0 13 rfl
def ldX12_floor_0 : List (Nat × ClassFile.Instr × Nat) := [(0, .lload_n 2, 1), (1, .lconst 0, 1), (2, .lcmp, 1), (3, .ifCond .ne 5, 3), (6, .lconst 0, 1), (7, .lreturn, 1), (8, .lload_n 0, 1), (9, .lload_n 2, 1), (10, .ldiv, 1), (11, .lstore 4, 2), (13, .lload_n 0, 1), (14, .lload_n 2, 1), (15, .lrem, 1), (16, .lconst 0, 1), (17, .lcmp, 1), (18, .ifCond .eq 35, 3)]
theorem kdX12_floor_0 : dkO cX12_floor 0 ldX12_floor_0 = true := by decide +kernel
theorem dX12_floor_0 : decode cX12_floor 0 = .ok (.lload_n 2, 1) := dk_i kdX12_floor_0 0 rfl
theorem dX12_floor_1 : decode cX12_floor 1 = .ok (.lconst 0, 1) := dk_i kdX12_floor_0 1 rfl
theorem dX12_floor_2 : decode cX12_floor 2 = .ok (.lcmp, 1) := dk_i kdX12_floor_0 2 rfl
theorem dX12_floor_3 : decode cX12_floor 3 = .ok (.ifCond .ne 5, 3) := dk_i kdX12_floor_0 3 rfl
theorem dX12_floor_6 : decode cX12_floor 6 = .ok (.lconst 0, 1) := dk_i kdX12_floor_0 4 rfl
theorem dX12_floor_7 : decode cX12_floor 7 = .ok (.lreturn, 1) := dk_i kdX12_floor_0 5 rfl
theorem dX12_floor_8 : decode cX12_floor 8 = .ok (.lload_n 0, 1) := dk_i kdX12_floor_0 6 rfl
theorem dX12_floor_9 : decode cX12_floor 9 = .ok (.lload_n 2, 1) := dk_i kdX12_floor_0 7 rfl
theorem dX12_floor_10 : decode cX12_floor 10 = .ok (.ldiv, 1) := dk_i kdX12_floor_0 8 rfl
theorem dX12_floor_11 : decode cX12_floor 11 = .ok (.lstore 4, 2) := dk_i kdX12_floor_0 9 rfl
theorem dX12_floor_13 : decode cX12_floor 13 = .ok (.lload_n 0, 1) := dk_i kdX12_floor_0 10 rfl
theorem dX12_floor_14 : decode cX12_floor 14 = .ok (.lload_n 2, 1) := dk_i kdX12_floor_0 11 rfl
theorem dX12_floor_15 : decode cX12_floor 15 = .ok (.lrem, 1) := dk_i kdX12_floor_0 12 rfl
theorem dX12_floor_16 : decode cX12_floor 16 = .ok (.lconst 0, 1) := dk_i kdX12_floor_0 13 rfl
theorem dX12_floor_17 : decode cX12_floor 17 = .ok (.lcmp, 1) := dk_i kdX12_floor_0 14 rfl
theorem dX12_floor_18 : decode cX12_floor 18 = .ok (.ifCond .eq 35, 3) := dk_i kdX12_floor_0 15 rfl
def ldX12_floor_21 : List (Nat × ClassFile.Instr × Nat) := [(21, .lload_n 0, 1), (22, .lconst 0, 1), (23, .lcmp, 1), (24, .ifCond .ge 7, 3), (27, .iconst 1, 1), (28, .goto 4, 3), (31, .iconst 0, 1), (32, .lload_n 2, 1), (33, .lconst 0, 1), (34, .lcmp, 1), (35, .ifCond .ge 7, 3), (38, .iconst 1, 1), (39, .goto 4, 3), (42, .iconst 0, 1), (43, .if_icmp .eq 10, 3), (46, .lload 4, 2)]
theorem kdX12_floor_21 : dkO cX12_floor 21 ldX12_floor_21 = true := by decide +kernel
theorem dX12_floor_21 : decode cX12_floor 21 = .ok (.lload_n 0, 1) := dk_i kdX12_floor_21 0 rfl
theorem dX12_floor_22 : decode cX12_floor 22 = .ok (.lconst 0, 1) := dk_i kdX12_floor_21 1 rfl
theorem dX12_floor_23 : decode cX12_floor 23 = .ok (.lcmp, 1) := dk_i kdX12_floor_21 2 rfl
theorem dX12_floor_24 : decode cX12_floor 24 = .ok (.ifCond .ge 7, 3) := dk_i kdX12_floor_21 3 rfl
theorem dX12_floor_27 : decode cX12_floor 27 = .ok (.iconst 1, 1) := dk_i kdX12_floor_21 4 rfl
theorem dX12_floor_28 : decode cX12_floor 28 = .ok (.goto 4, 3) := dk_i kdX12_floor_21 5 rfl
theorem dX12_floor_31 : decode cX12_floor 31 = .ok (.iconst 0, 1) := dk_i kdX12_floor_21 6 rfl
theorem dX12_floor_32 : decode cX12_floor 32 = .ok (.lload_n 2, 1) := dk_i kdX12_floor_21 7 rfl
theorem dX12_floor_33 : decode cX12_floor 33 = .ok (.lconst 0, 1) := dk_i kdX12_floor_21 8 rfl
theorem dX12_floor_34 : decode cX12_floor 34 = .ok (.lcmp, 1) := dk_i kdX12_floor_21 9 rfl
theorem dX12_floor_35 : decode cX12_floor 35 = .ok (.ifCond .ge 7, 3) := dk_i kdX12_floor_21 10 rfl
theorem dX12_floor_38 : decode cX12_floor 38 = .ok (.iconst 1, 1) := dk_i kdX12_floor_21 11 rfl
theorem dX12_floor_39 : decode cX12_floor 39 = .ok (.goto 4, 3) := dk_i kdX12_floor_21 12 rfl
theorem dX12_floor_42 : decode cX12_floor 42 = .ok (.iconst 0, 1) := dk_i kdX12_floor_21 13 rfl
theorem dX12_floor_43 : decode cX12_floor 43 = .ok (.if_icmp .eq 10, 3) := dk_i kdX12_floor_21 14 rfl
theorem dX12_floor_46 : decode cX12_floor 46 = .ok (.lload 4, 2) := dk_i kdX12_floor_21 15 rfl
def ldX12_floor_48 : List (Nat × ClassFile.Instr × Nat) := [(48, .lconst 1, 1), (49, .lsub, 1), (50, .goto 5, 3), (53, .lload 4, 2), (55, .lreturn, 1)]
theorem kdX12_floor_48 : dkO cX12_floor 48 ldX12_floor_48 = true := by decide +kernel
theorem dX12_floor_48 : decode cX12_floor 48 = .ok (.lconst 1, 1) := dk_i kdX12_floor_48 0 rfl
theorem dX12_floor_49 : decode cX12_floor 49 = .ok (.lsub, 1) := dk_i kdX12_floor_48 1 rfl
theorem dX12_floor_50 : decode cX12_floor 50 = .ok (.goto 5, 3) := dk_i kdX12_floor_48 2 rfl
theorem dX12_floor_53 : decode cX12_floor 53 = .ok (.lload 4, 2) := dk_i kdX12_floor_48 3 rfl
theorem dX12_floor_55 : decode cX12_floor 55 = .ok (.lreturn, 1) := dk_i kdX12_floor_48 4 rfl
def ldX12_two_0 : List (Nat × ClassFile.Instr × Nat) := [(0, .iload_n 0, 1), (1, .tableswitch 176 31 41 #[59, 66, 73, 80, 89, 112, 124, 136, 148, 160, 172], 59), (60, .lload_n 1, 1), (61, .lload_n 3, 1), (62, .ladd, 1), (63, .invokestatic 425, 3), (66, .lreturn, 1), (67, .lload_n 1, 1), (68, .lload_n 3, 1), (69, .lsub, 1), (70, .invokestatic 425, 3), (73, .lreturn, 1), (74, .lload_n 1, 1), (75, .lload_n 3, 1), (76, .lmul, 1), (77, .invokestatic 425, 3)]
theorem kdX12_two_0 : dkO cX12_two 0 ldX12_two_0 = true := by decide +kernel
theorem dX12_two_0 : decode cX12_two 0 = .ok (.iload_n 0, 1) := dk_i kdX12_two_0 0 rfl
theorem dX12_two_1 : decode cX12_two 1 = .ok (.tableswitch 176 31 41 #[59, 66, 73, 80, 89, 112, 124, 136, 148, 160, 172], 59) := dk_i kdX12_two_0 1 rfl
theorem dX12_two_60 : decode cX12_two 60 = .ok (.lload_n 1, 1) := dk_i kdX12_two_0 2 rfl
theorem dX12_two_61 : decode cX12_two 61 = .ok (.lload_n 3, 1) := dk_i kdX12_two_0 3 rfl
theorem dX12_two_62 : decode cX12_two 62 = .ok (.ladd, 1) := dk_i kdX12_two_0 4 rfl
theorem dX12_two_63 : decode cX12_two 63 = .ok (.invokestatic 425, 3) := dk_i kdX12_two_0 5 rfl
theorem dX12_two_66 : decode cX12_two 66 = .ok (.lreturn, 1) := dk_i kdX12_two_0 6 rfl
theorem dX12_two_67 : decode cX12_two 67 = .ok (.lload_n 1, 1) := dk_i kdX12_two_0 7 rfl
theorem dX12_two_68 : decode cX12_two 68 = .ok (.lload_n 3, 1) := dk_i kdX12_two_0 8 rfl
theorem dX12_two_69 : decode cX12_two 69 = .ok (.lsub, 1) := dk_i kdX12_two_0 9 rfl
theorem dX12_two_70 : decode cX12_two 70 = .ok (.invokestatic 425, 3) := dk_i kdX12_two_0 10 rfl
theorem dX12_two_73 : decode cX12_two 73 = .ok (.lreturn, 1) := dk_i kdX12_two_0 11 rfl
theorem dX12_two_74 : decode cX12_two 74 = .ok (.lload_n 1, 1) := dk_i kdX12_two_0 12 rfl
theorem dX12_two_75 : decode cX12_two 75 = .ok (.lload_n 3, 1) := dk_i kdX12_two_0 13 rfl
theorem dX12_two_76 : decode cX12_two 76 = .ok (.lmul, 1) := dk_i kdX12_two_0 14 rfl
theorem dX12_two_77 : decode cX12_two 77 = .ok (.invokestatic 425, 3) := dk_i kdX12_two_0 15 rfl
def ldX12_two_80 : List (Nat × ClassFile.Instr × Nat) := [(80, .lreturn, 1), (81, .lload_n 1, 1), (82, .lload_n 3, 1), (83, .invokestatic 429, 3), (86, .invokestatic 425, 3), (89, .lreturn, 1), (90, .lload_n 3, 1), (91, .lconst 0, 1), (92, .lcmp, 1), (93, .ifCond .ne 7, 3), (96, .lconst 0, 1), (97, .goto 15, 3), (100, .lload_n 1, 1), (101, .lload_n 3, 1), (102, .lload_n 1, 1), (103, .lload_n 3, 1)]
theorem kdX12_two_80 : dkO cX12_two 80 ldX12_two_80 = true := by decide +kernel
theorem dX12_two_80 : decode cX12_two 80 = .ok (.lreturn, 1) := dk_i kdX12_two_80 0 rfl
theorem dX12_two_81 : decode cX12_two 81 = .ok (.lload_n 1, 1) := dk_i kdX12_two_80 1 rfl
theorem dX12_two_82 : decode cX12_two 82 = .ok (.lload_n 3, 1) := dk_i kdX12_two_80 2 rfl
theorem dX12_two_83 : decode cX12_two 83 = .ok (.invokestatic 429, 3) := dk_i kdX12_two_80 3 rfl
theorem dX12_two_86 : decode cX12_two 86 = .ok (.invokestatic 425, 3) := dk_i kdX12_two_80 4 rfl
theorem dX12_two_89 : decode cX12_two 89 = .ok (.lreturn, 1) := dk_i kdX12_two_80 5 rfl
theorem dX12_two_90 : decode cX12_two 90 = .ok (.lload_n 3, 1) := dk_i kdX12_two_80 6 rfl
theorem dX12_two_91 : decode cX12_two 91 = .ok (.lconst 0, 1) := dk_i kdX12_two_80 7 rfl
theorem dX12_two_92 : decode cX12_two 92 = .ok (.lcmp, 1) := dk_i kdX12_two_80 8 rfl
theorem dX12_two_93 : decode cX12_two 93 = .ok (.ifCond .ne 7, 3) := dk_i kdX12_two_80 9 rfl
theorem dX12_two_96 : decode cX12_two 96 = .ok (.lconst 0, 1) := dk_i kdX12_two_80 10 rfl
theorem dX12_two_97 : decode cX12_two 97 = .ok (.goto 15, 3) := dk_i kdX12_two_80 11 rfl
theorem dX12_two_100 : decode cX12_two 100 = .ok (.lload_n 1, 1) := dk_i kdX12_two_80 12 rfl
theorem dX12_two_101 : decode cX12_two 101 = .ok (.lload_n 3, 1) := dk_i kdX12_two_80 13 rfl
theorem dX12_two_102 : decode cX12_two 102 = .ok (.lload_n 1, 1) := dk_i kdX12_two_80 14 rfl
theorem dX12_two_103 : decode cX12_two 103 = .ok (.lload_n 3, 1) := dk_i kdX12_two_80 15 rfl
def ldX12_two_104 : List (Nat × ClassFile.Instr × Nat) := [(104, .invokestatic 429, 3), (107, .lmul, 1), (108, .lsub, 1), (109, .invokestatic 425, 3), (112, .lreturn, 1), (113, .lload_n 1, 1), (114, .lload_n 3, 1), (115, .lcmp, 1), (116, .ifCond .ge 7, 3), (119, .lload_n 1, 1), (120, .goto 4, 3), (123, .lload_n 3, 1), (124, .lreturn, 1), (125, .lload_n 1, 1), (126, .lload_n 3, 1), (127, .lcmp, 1)]
theorem kdX12_two_104 : dkO cX12_two 104 ldX12_two_104 = true := by decide +kernel
theorem dX12_two_104 : decode cX12_two 104 = .ok (.invokestatic 429, 3) := dk_i kdX12_two_104 0 rfl
theorem dX12_two_107 : decode cX12_two 107 = .ok (.lmul, 1) := dk_i kdX12_two_104 1 rfl
theorem dX12_two_108 : decode cX12_two 108 = .ok (.lsub, 1) := dk_i kdX12_two_104 2 rfl
theorem dX12_two_109 : decode cX12_two 109 = .ok (.invokestatic 425, 3) := dk_i kdX12_two_104 3 rfl
theorem dX12_two_112 : decode cX12_two 112 = .ok (.lreturn, 1) := dk_i kdX12_two_104 4 rfl
theorem dX12_two_113 : decode cX12_two 113 = .ok (.lload_n 1, 1) := dk_i kdX12_two_104 5 rfl
theorem dX12_two_114 : decode cX12_two 114 = .ok (.lload_n 3, 1) := dk_i kdX12_two_104 6 rfl
theorem dX12_two_115 : decode cX12_two 115 = .ok (.lcmp, 1) := dk_i kdX12_two_104 7 rfl
theorem dX12_two_116 : decode cX12_two 116 = .ok (.ifCond .ge 7, 3) := dk_i kdX12_two_104 8 rfl
theorem dX12_two_119 : decode cX12_two 119 = .ok (.lload_n 1, 1) := dk_i kdX12_two_104 9 rfl
theorem dX12_two_120 : decode cX12_two 120 = .ok (.goto 4, 3) := dk_i kdX12_two_104 10 rfl
theorem dX12_two_123 : decode cX12_two 123 = .ok (.lload_n 3, 1) := dk_i kdX12_two_104 11 rfl
theorem dX12_two_124 : decode cX12_two 124 = .ok (.lreturn, 1) := dk_i kdX12_two_104 12 rfl
theorem dX12_two_125 : decode cX12_two 125 = .ok (.lload_n 1, 1) := dk_i kdX12_two_104 13 rfl
theorem dX12_two_126 : decode cX12_two 126 = .ok (.lload_n 3, 1) := dk_i kdX12_two_104 14 rfl
theorem dX12_two_127 : decode cX12_two 127 = .ok (.lcmp, 1) := dk_i kdX12_two_104 15 rfl
def ldX12_two_128 : List (Nat × ClassFile.Instr × Nat) := [(128, .ifCond .le 7, 3), (131, .lload_n 1, 1), (132, .goto 4, 3), (135, .lload_n 3, 1), (136, .lreturn, 1), (137, .lload_n 1, 1), (138, .lload_n 3, 1), (139, .lcmp, 1), (140, .ifCond .ge 7, 3), (143, .lconst 1, 1), (144, .goto 4, 3), (147, .lconst 0, 1), (148, .lreturn, 1), (149, .lload_n 1, 1), (150, .lload_n 3, 1), (151, .lcmp, 1)]
theorem kdX12_two_128 : dkO cX12_two 128 ldX12_two_128 = true := by decide +kernel
theorem dX12_two_128 : decode cX12_two 128 = .ok (.ifCond .le 7, 3) := dk_i kdX12_two_128 0 rfl
theorem dX12_two_131 : decode cX12_two 131 = .ok (.lload_n 1, 1) := dk_i kdX12_two_128 1 rfl
theorem dX12_two_132 : decode cX12_two 132 = .ok (.goto 4, 3) := dk_i kdX12_two_128 2 rfl
theorem dX12_two_135 : decode cX12_two 135 = .ok (.lload_n 3, 1) := dk_i kdX12_two_128 3 rfl
theorem dX12_two_136 : decode cX12_two 136 = .ok (.lreturn, 1) := dk_i kdX12_two_128 4 rfl
theorem dX12_two_137 : decode cX12_two 137 = .ok (.lload_n 1, 1) := dk_i kdX12_two_128 5 rfl
theorem dX12_two_138 : decode cX12_two 138 = .ok (.lload_n 3, 1) := dk_i kdX12_two_128 6 rfl
theorem dX12_two_139 : decode cX12_two 139 = .ok (.lcmp, 1) := dk_i kdX12_two_128 7 rfl
theorem dX12_two_140 : decode cX12_two 140 = .ok (.ifCond .ge 7, 3) := dk_i kdX12_two_128 8 rfl
theorem dX12_two_143 : decode cX12_two 143 = .ok (.lconst 1, 1) := dk_i kdX12_two_128 9 rfl
theorem dX12_two_144 : decode cX12_two 144 = .ok (.goto 4, 3) := dk_i kdX12_two_128 10 rfl
theorem dX12_two_147 : decode cX12_two 147 = .ok (.lconst 0, 1) := dk_i kdX12_two_128 11 rfl
theorem dX12_two_148 : decode cX12_two 148 = .ok (.lreturn, 1) := dk_i kdX12_two_128 12 rfl
theorem dX12_two_149 : decode cX12_two 149 = .ok (.lload_n 1, 1) := dk_i kdX12_two_128 13 rfl
theorem dX12_two_150 : decode cX12_two 150 = .ok (.lload_n 3, 1) := dk_i kdX12_two_128 14 rfl
theorem dX12_two_151 : decode cX12_two 151 = .ok (.lcmp, 1) := dk_i kdX12_two_128 15 rfl
def ldX12_two_152 : List (Nat × ClassFile.Instr × Nat) := [(152, .ifCond .le 7, 3), (155, .lconst 1, 1), (156, .goto 4, 3), (159, .lconst 0, 1), (160, .lreturn, 1), (161, .lload_n 1, 1), (162, .lload_n 3, 1), (163, .lcmp, 1), (164, .ifCond .ne 7, 3), (167, .lconst 1, 1), (168, .goto 4, 3), (171, .lconst 0, 1), (172, .lreturn, 1), (173, .lload_n 1, 1), (174, .lload_n 3, 1), (175, .land, 1)]
theorem kdX12_two_152 : dkO cX12_two 152 ldX12_two_152 = true := by decide +kernel
theorem dX12_two_152 : decode cX12_two 152 = .ok (.ifCond .le 7, 3) := dk_i kdX12_two_152 0 rfl
theorem dX12_two_155 : decode cX12_two 155 = .ok (.lconst 1, 1) := dk_i kdX12_two_152 1 rfl
theorem dX12_two_156 : decode cX12_two 156 = .ok (.goto 4, 3) := dk_i kdX12_two_152 2 rfl
theorem dX12_two_159 : decode cX12_two 159 = .ok (.lconst 0, 1) := dk_i kdX12_two_152 3 rfl
theorem dX12_two_160 : decode cX12_two 160 = .ok (.lreturn, 1) := dk_i kdX12_two_152 4 rfl
theorem dX12_two_161 : decode cX12_two 161 = .ok (.lload_n 1, 1) := dk_i kdX12_two_152 5 rfl
theorem dX12_two_162 : decode cX12_two 162 = .ok (.lload_n 3, 1) := dk_i kdX12_two_152 6 rfl
theorem dX12_two_163 : decode cX12_two 163 = .ok (.lcmp, 1) := dk_i kdX12_two_152 7 rfl
theorem dX12_two_164 : decode cX12_two 164 = .ok (.ifCond .ne 7, 3) := dk_i kdX12_two_152 8 rfl
theorem dX12_two_167 : decode cX12_two 167 = .ok (.lconst 1, 1) := dk_i kdX12_two_152 9 rfl
theorem dX12_two_168 : decode cX12_two 168 = .ok (.goto 4, 3) := dk_i kdX12_two_152 10 rfl
theorem dX12_two_171 : decode cX12_two 171 = .ok (.lconst 0, 1) := dk_i kdX12_two_152 11 rfl
theorem dX12_two_172 : decode cX12_two 172 = .ok (.lreturn, 1) := dk_i kdX12_two_152 12 rfl
theorem dX12_two_173 : decode cX12_two 173 = .ok (.lload_n 1, 1) := dk_i kdX12_two_152 13 rfl
theorem dX12_two_174 : decode cX12_two 174 = .ok (.lload_n 3, 1) := dk_i kdX12_two_152 14 rfl
theorem dX12_two_175 : decode cX12_two 175 = .ok (.land, 1) := dk_i kdX12_two_152 15 rfl
def ldX12_two_176 : List (Nat × ClassFile.Instr × Nat) := [(176, .lreturn, 1), (177, .lload_n 1, 1), (178, .lload_n 3, 1), (179, .lor, 1), (180, .lreturn, 1)]
theorem kdX12_two_176 : dkO cX12_two 176 ldX12_two_176 = true := by decide +kernel
theorem dX12_two_176 : decode cX12_two 176 = .ok (.lreturn, 1) := dk_i kdX12_two_176 0 rfl
theorem dX12_two_177 : decode cX12_two 177 = .ok (.lload_n 1, 1) := dk_i kdX12_two_176 1 rfl
theorem dX12_two_178 : decode cX12_two 178 = .ok (.lload_n 3, 1) := dk_i kdX12_two_176 2 rfl
theorem dX12_two_179 : decode cX12_two 179 = .ok (.lor, 1) := dk_i kdX12_two_176 3 rfl
theorem dX12_two_180 : decode cX12_two 180 = .ok (.lreturn, 1) := dk_i kdX12_two_176 4 rfl
def ldX12_reckons_0 : List (Nat × ClassFile.Instr × Nat) := [(0, .iconst 0, 1), (1, .istore_n 2, 1), (2, .sipush 1600, 3), (5, .aload_n 0, 1), (6, .getfield 51, 3), (9, .imul, 1), (10, .aload_n 0, 1), (11, .getfield 90, 3), (14, .iconst 2, 1), (15, .aload_n 0, 1), (16, .getfield 51, 3), (19, .imul, 1), (20, .iload_n 1, 1), (21, .iadd, 1), (22, .iaload, 1), (23, .iadd, 1)]
theorem kdX12_reckons_0 : dkO cX12_reckons 0 ldX12_reckons_0 = true := by decide +kernel
theorem dX12_reckons_0 : decode cX12_reckons 0 = .ok (.iconst 0, 1) := dk_i kdX12_reckons_0 0 rfl
theorem dX12_reckons_1 : decode cX12_reckons 1 = .ok (.istore_n 2, 1) := dk_i kdX12_reckons_0 1 rfl
theorem dX12_reckons_2 : decode cX12_reckons 2 = .ok (.sipush 1600, 3) := dk_i kdX12_reckons_0 2 rfl
theorem dX12_reckons_5 : decode cX12_reckons 5 = .ok (.aload_n 0, 1) := dk_i kdX12_reckons_0 3 rfl
theorem dX12_reckons_6 : decode cX12_reckons 6 = .ok (.getfield 51, 3) := dk_i kdX12_reckons_0 4 rfl
theorem dX12_reckons_9 : decode cX12_reckons 9 = .ok (.imul, 1) := dk_i kdX12_reckons_0 5 rfl
theorem dX12_reckons_10 : decode cX12_reckons 10 = .ok (.aload_n 0, 1) := dk_i kdX12_reckons_0 6 rfl
theorem dX12_reckons_11 : decode cX12_reckons 11 = .ok (.getfield 90, 3) := dk_i kdX12_reckons_0 7 rfl
theorem dX12_reckons_14 : decode cX12_reckons 14 = .ok (.iconst 2, 1) := dk_i kdX12_reckons_0 8 rfl
theorem dX12_reckons_15 : decode cX12_reckons 15 = .ok (.aload_n 0, 1) := dk_i kdX12_reckons_0 9 rfl
theorem dX12_reckons_16 : decode cX12_reckons 16 = .ok (.getfield 51, 3) := dk_i kdX12_reckons_0 10 rfl
theorem dX12_reckons_19 : decode cX12_reckons 19 = .ok (.imul, 1) := dk_i kdX12_reckons_0 11 rfl
theorem dX12_reckons_20 : decode cX12_reckons 20 = .ok (.iload_n 1, 1) := dk_i kdX12_reckons_0 12 rfl
theorem dX12_reckons_21 : decode cX12_reckons 21 = .ok (.iadd, 1) := dk_i kdX12_reckons_0 13 rfl
theorem dX12_reckons_22 : decode cX12_reckons 22 = .ok (.iaload, 1) := dk_i kdX12_reckons_0 14 rfl
theorem dX12_reckons_23 : decode cX12_reckons 23 = .ok (.iadd, 1) := dk_i kdX12_reckons_0 15 rfl
def ldX12_reckons_24 : List (Nat × ClassFile.Instr × Nat) := [(24, .istore_n 3, 1), (25, .iload_n 3, 1), (26, .sipush 1600, 3), (29, .aload_n 0, 1), (30, .getfield 51, 3), (33, .imul, 1), (34, .aload_n 0, 1), (35, .getfield 93, 3), (38, .iconst 2, 1), (39, .aload_n 0, 1), (40, .getfield 51, 3), (43, .imul, 1), (44, .iload_n 1, 1), (45, .iadd, 1), (46, .iaload, 1), (47, .iadd, 1)]
theorem kdX12_reckons_24 : dkO cX12_reckons 24 ldX12_reckons_24 = true := by decide +kernel
theorem dX12_reckons_24 : decode cX12_reckons 24 = .ok (.istore_n 3, 1) := dk_i kdX12_reckons_24 0 rfl
theorem dX12_reckons_25 : decode cX12_reckons 25 = .ok (.iload_n 3, 1) := dk_i kdX12_reckons_24 1 rfl
theorem dX12_reckons_26 : decode cX12_reckons 26 = .ok (.sipush 1600, 3) := dk_i kdX12_reckons_24 2 rfl
theorem dX12_reckons_29 : decode cX12_reckons 29 = .ok (.aload_n 0, 1) := dk_i kdX12_reckons_24 3 rfl
theorem dX12_reckons_30 : decode cX12_reckons 30 = .ok (.getfield 51, 3) := dk_i kdX12_reckons_24 4 rfl
theorem dX12_reckons_33 : decode cX12_reckons 33 = .ok (.imul, 1) := dk_i kdX12_reckons_24 5 rfl
theorem dX12_reckons_34 : decode cX12_reckons 34 = .ok (.aload_n 0, 1) := dk_i kdX12_reckons_24 6 rfl
theorem dX12_reckons_35 : decode cX12_reckons 35 = .ok (.getfield 93, 3) := dk_i kdX12_reckons_24 7 rfl
theorem dX12_reckons_38 : decode cX12_reckons 38 = .ok (.iconst 2, 1) := dk_i kdX12_reckons_24 8 rfl
theorem dX12_reckons_39 : decode cX12_reckons 39 = .ok (.aload_n 0, 1) := dk_i kdX12_reckons_24 9 rfl
theorem dX12_reckons_40 : decode cX12_reckons 40 = .ok (.getfield 51, 3) := dk_i kdX12_reckons_24 10 rfl
theorem dX12_reckons_43 : decode cX12_reckons 43 = .ok (.imul, 1) := dk_i kdX12_reckons_24 11 rfl
theorem dX12_reckons_44 : decode cX12_reckons 44 = .ok (.iload_n 1, 1) := dk_i kdX12_reckons_24 12 rfl
theorem dX12_reckons_45 : decode cX12_reckons 45 = .ok (.iadd, 1) := dk_i kdX12_reckons_24 13 rfl
theorem dX12_reckons_46 : decode cX12_reckons 46 = .ok (.iaload, 1) := dk_i kdX12_reckons_24 14 rfl
theorem dX12_reckons_47 : decode cX12_reckons 47 = .ok (.iadd, 1) := dk_i kdX12_reckons_24 15 rfl
def ldX12_reckons_48 : List (Nat × ClassFile.Instr × Nat) := [(48, .if_icmp .ge 179, 3), (51, .aload_n 0, 1), (52, .getfield 96, 3), (55, .iload_n 3, 1), (56, .iaload, 1), (57, .istore 4, 2), (59, .iload 4, 2), (61, .bipush 30, 2), (63, .if_icmp .gt 49, 3), (66, .aload_n 0, 1), (67, .getfield 183, 3), (70, .iload_n 2, 1), (71, .iload 4, 2), (73, .ifCond .ne 13, 3), (76, .aload_n 0, 1), (77, .getfield 99, 3)]
theorem kdX12_reckons_48 : dkO cX12_reckons 48 ldX12_reckons_48 = true := by decide +kernel
theorem dX12_reckons_48 : decode cX12_reckons 48 = .ok (.if_icmp .ge 179, 3) := dk_i kdX12_reckons_48 0 rfl
theorem dX12_reckons_51 : decode cX12_reckons 51 = .ok (.aload_n 0, 1) := dk_i kdX12_reckons_48 1 rfl
theorem dX12_reckons_52 : decode cX12_reckons 52 = .ok (.getfield 96, 3) := dk_i kdX12_reckons_48 2 rfl
theorem dX12_reckons_55 : decode cX12_reckons 55 = .ok (.iload_n 3, 1) := dk_i kdX12_reckons_48 3 rfl
theorem dX12_reckons_56 : decode cX12_reckons 56 = .ok (.iaload, 1) := dk_i kdX12_reckons_48 4 rfl
theorem dX12_reckons_57 : decode cX12_reckons 57 = .ok (.istore 4, 2) := dk_i kdX12_reckons_48 5 rfl
theorem dX12_reckons_59 : decode cX12_reckons 59 = .ok (.iload 4, 2) := dk_i kdX12_reckons_48 6 rfl
theorem dX12_reckons_61 : decode cX12_reckons 61 = .ok (.bipush 30, 2) := dk_i kdX12_reckons_48 7 rfl
theorem dX12_reckons_63 : decode cX12_reckons 63 = .ok (.if_icmp .gt 49, 3) := dk_i kdX12_reckons_48 8 rfl
theorem dX12_reckons_66 : decode cX12_reckons 66 = .ok (.aload_n 0, 1) := dk_i kdX12_reckons_48 9 rfl
theorem dX12_reckons_67 : decode cX12_reckons 67 = .ok (.getfield 183, 3) := dk_i kdX12_reckons_48 10 rfl
theorem dX12_reckons_70 : decode cX12_reckons 70 = .ok (.iload_n 2, 1) := dk_i kdX12_reckons_48 11 rfl
theorem dX12_reckons_71 : decode cX12_reckons 71 = .ok (.iload 4, 2) := dk_i kdX12_reckons_48 12 rfl
theorem dX12_reckons_73 : decode cX12_reckons 73 = .ok (.ifCond .ne 13, 3) := dk_i kdX12_reckons_48 13 rfl
theorem dX12_reckons_76 : decode cX12_reckons 76 = .ok (.aload_n 0, 1) := dk_i kdX12_reckons_48 14 rfl
theorem dX12_reckons_77 : decode cX12_reckons 77 = .ok (.getfield 99, 3) := dk_i kdX12_reckons_48 15 rfl
def ldX12_reckons_80 : List (Nat × ClassFile.Instr × Nat) := [(80, .iload_n 3, 1), (81, .iaload, 1), (82, .i2l, 1), (83, .goto 22, 3), (86, .iload 4, 2), (88, .bipush 30, 2), (90, .if_icmp .ne 7, 3), (93, .lconst 1, 1), (94, .goto 11, 3), (97, .aload_n 0, 1), (98, .getfield 186, 3), (101, .iload 4, 2), (103, .iaload, 1), (104, .i2l, 1), (105, .lastore, 1), (106, .iinc 2 1, 3)]
theorem kdX12_reckons_80 : dkO cX12_reckons 80 ldX12_reckons_80 = true := by decide +kernel
theorem dX12_reckons_80 : decode cX12_reckons 80 = .ok (.iload_n 3, 1) := dk_i kdX12_reckons_80 0 rfl
theorem dX12_reckons_81 : decode cX12_reckons 81 = .ok (.iaload, 1) := dk_i kdX12_reckons_80 1 rfl
theorem dX12_reckons_82 : decode cX12_reckons 82 = .ok (.i2l, 1) := dk_i kdX12_reckons_80 2 rfl
theorem dX12_reckons_83 : decode cX12_reckons 83 = .ok (.goto 22, 3) := dk_i kdX12_reckons_80 3 rfl
theorem dX12_reckons_86 : decode cX12_reckons 86 = .ok (.iload 4, 2) := dk_i kdX12_reckons_80 4 rfl
theorem dX12_reckons_88 : decode cX12_reckons 88 = .ok (.bipush 30, 2) := dk_i kdX12_reckons_80 5 rfl
theorem dX12_reckons_90 : decode cX12_reckons 90 = .ok (.if_icmp .ne 7, 3) := dk_i kdX12_reckons_80 6 rfl
theorem dX12_reckons_93 : decode cX12_reckons 93 = .ok (.lconst 1, 1) := dk_i kdX12_reckons_80 7 rfl
theorem dX12_reckons_94 : decode cX12_reckons 94 = .ok (.goto 11, 3) := dk_i kdX12_reckons_80 8 rfl
theorem dX12_reckons_97 : decode cX12_reckons 97 = .ok (.aload_n 0, 1) := dk_i kdX12_reckons_80 9 rfl
theorem dX12_reckons_98 : decode cX12_reckons 98 = .ok (.getfield 186, 3) := dk_i kdX12_reckons_80 10 rfl
theorem dX12_reckons_101 : decode cX12_reckons 101 = .ok (.iload 4, 2) := dk_i kdX12_reckons_80 11 rfl
theorem dX12_reckons_103 : decode cX12_reckons 103 = .ok (.iaload, 1) := dk_i kdX12_reckons_80 12 rfl
theorem dX12_reckons_104 : decode cX12_reckons 104 = .ok (.i2l, 1) := dk_i kdX12_reckons_80 13 rfl
theorem dX12_reckons_105 : decode cX12_reckons 105 = .ok (.lastore, 1) := dk_i kdX12_reckons_80 14 rfl
theorem dX12_reckons_106 : decode cX12_reckons 106 = .ok (.iinc 2 1, 3) := dk_i kdX12_reckons_80 15 rfl
def ldX12_reckons_109 : List (Nat × ClassFile.Instr × Nat) := [(109, .goto 112, 3), (112, .iload 4, 2), (114, .bipush 43, 2), (116, .if_icmp .ne 24, 3), (119, .aload_n 0, 1), (120, .getfield 183, 3), (123, .iload_n 2, 1), (124, .iconst 1, 1), (125, .isub, 1), (126, .lconst 1, 1), (127, .aload_n 0, 1), (128, .getfield 183, 3), (131, .iload_n 2, 1), (132, .iconst 1, 1), (133, .isub, 1), (134, .laload, 1)]
theorem kdX12_reckons_109 : dkO cX12_reckons 109 ldX12_reckons_109 = true := by decide +kernel
theorem dX12_reckons_109 : decode cX12_reckons 109 = .ok (.goto 112, 3) := dk_i kdX12_reckons_109 0 rfl
theorem dX12_reckons_112 : decode cX12_reckons 112 = .ok (.iload 4, 2) := dk_i kdX12_reckons_109 1 rfl
theorem dX12_reckons_114 : decode cX12_reckons 114 = .ok (.bipush 43, 2) := dk_i kdX12_reckons_109 2 rfl
theorem dX12_reckons_116 : decode cX12_reckons 116 = .ok (.if_icmp .ne 24, 3) := dk_i kdX12_reckons_109 3 rfl
theorem dX12_reckons_119 : decode cX12_reckons 119 = .ok (.aload_n 0, 1) := dk_i kdX12_reckons_109 4 rfl
theorem dX12_reckons_120 : decode cX12_reckons 120 = .ok (.getfield 183, 3) := dk_i kdX12_reckons_109 5 rfl
theorem dX12_reckons_123 : decode cX12_reckons 123 = .ok (.iload_n 2, 1) := dk_i kdX12_reckons_109 6 rfl
theorem dX12_reckons_124 : decode cX12_reckons 124 = .ok (.iconst 1, 1) := dk_i kdX12_reckons_109 7 rfl
theorem dX12_reckons_125 : decode cX12_reckons 125 = .ok (.isub, 1) := dk_i kdX12_reckons_109 8 rfl
theorem dX12_reckons_126 : decode cX12_reckons 126 = .ok (.lconst 1, 1) := dk_i kdX12_reckons_109 9 rfl
theorem dX12_reckons_127 : decode cX12_reckons 127 = .ok (.aload_n 0, 1) := dk_i kdX12_reckons_109 10 rfl
theorem dX12_reckons_128 : decode cX12_reckons 128 = .ok (.getfield 183, 3) := dk_i kdX12_reckons_109 11 rfl
theorem dX12_reckons_131 : decode cX12_reckons 131 = .ok (.iload_n 2, 1) := dk_i kdX12_reckons_109 12 rfl
theorem dX12_reckons_132 : decode cX12_reckons 132 = .ok (.iconst 1, 1) := dk_i kdX12_reckons_109 13 rfl
theorem dX12_reckons_133 : decode cX12_reckons 133 = .ok (.isub, 1) := dk_i kdX12_reckons_109 14 rfl
theorem dX12_reckons_134 : decode cX12_reckons 134 = .ok (.laload, 1) := dk_i kdX12_reckons_109 15 rfl
def ldX12_reckons_135 : List (Nat × ClassFile.Instr × Nat) := [(135, .lsub, 1), (136, .lastore, 1), (137, .goto 84, 3), (140, .iload 4, 2), (142, .bipush 44, 2), (144, .if_icmp .ne 47, 3), (147, .iinc 2 (-2), 3), (150, .aload_n 0, 1), (151, .getfield 183, 3), (154, .iload_n 2, 1), (155, .iconst 1, 1), (156, .isub, 1), (157, .aload_n 0, 1), (158, .getfield 183, 3), (161, .iload_n 2, 1), (162, .iconst 1, 1)]
theorem kdX12_reckons_135 : dkO cX12_reckons 135 ldX12_reckons_135 = true := by decide +kernel
theorem dX12_reckons_135 : decode cX12_reckons 135 = .ok (.lsub, 1) := dk_i kdX12_reckons_135 0 rfl
theorem dX12_reckons_136 : decode cX12_reckons 136 = .ok (.lastore, 1) := dk_i kdX12_reckons_135 1 rfl
theorem dX12_reckons_137 : decode cX12_reckons 137 = .ok (.goto 84, 3) := dk_i kdX12_reckons_135 2 rfl
theorem dX12_reckons_140 : decode cX12_reckons 140 = .ok (.iload 4, 2) := dk_i kdX12_reckons_135 3 rfl
theorem dX12_reckons_142 : decode cX12_reckons 142 = .ok (.bipush 44, 2) := dk_i kdX12_reckons_135 4 rfl
theorem dX12_reckons_144 : decode cX12_reckons 144 = .ok (.if_icmp .ne 47, 3) := dk_i kdX12_reckons_135 5 rfl
theorem dX12_reckons_147 : decode cX12_reckons 147 = .ok (.iinc 2 (-2), 3) := dk_i kdX12_reckons_135 6 rfl
theorem dX12_reckons_150 : decode cX12_reckons 150 = .ok (.aload_n 0, 1) := dk_i kdX12_reckons_135 7 rfl
theorem dX12_reckons_151 : decode cX12_reckons 151 = .ok (.getfield 183, 3) := dk_i kdX12_reckons_135 8 rfl
theorem dX12_reckons_154 : decode cX12_reckons 154 = .ok (.iload_n 2, 1) := dk_i kdX12_reckons_135 9 rfl
theorem dX12_reckons_155 : decode cX12_reckons 155 = .ok (.iconst 1, 1) := dk_i kdX12_reckons_135 10 rfl
theorem dX12_reckons_156 : decode cX12_reckons 156 = .ok (.isub, 1) := dk_i kdX12_reckons_135 11 rfl
theorem dX12_reckons_157 : decode cX12_reckons 157 = .ok (.aload_n 0, 1) := dk_i kdX12_reckons_135 12 rfl
theorem dX12_reckons_158 : decode cX12_reckons 158 = .ok (.getfield 183, 3) := dk_i kdX12_reckons_135 13 rfl
theorem dX12_reckons_161 : decode cX12_reckons 161 = .ok (.iload_n 2, 1) := dk_i kdX12_reckons_135 14 rfl
theorem dX12_reckons_162 : decode cX12_reckons 162 = .ok (.iconst 1, 1) := dk_i kdX12_reckons_135 15 rfl
def ldX12_reckons_163 : List (Nat × ClassFile.Instr × Nat) := [(163, .isub, 1), (164, .laload, 1), (165, .lconst 1, 1), (166, .lcmp, 1), (167, .ifCond .ne 12, 3), (170, .aload_n 0, 1), (171, .getfield 183, 3), (174, .iload_n 2, 1), (175, .laload, 1), (176, .goto 11, 3), (179, .aload_n 0, 1), (180, .getfield 183, 3), (183, .iload_n 2, 1), (184, .iconst 1, 1), (185, .iadd, 1), (186, .laload, 1)]
theorem kdX12_reckons_163 : dkO cX12_reckons 163 ldX12_reckons_163 = true := by decide +kernel
theorem dX12_reckons_163 : decode cX12_reckons 163 = .ok (.isub, 1) := dk_i kdX12_reckons_163 0 rfl
theorem dX12_reckons_164 : decode cX12_reckons 164 = .ok (.laload, 1) := dk_i kdX12_reckons_163 1 rfl
theorem dX12_reckons_165 : decode cX12_reckons 165 = .ok (.lconst 1, 1) := dk_i kdX12_reckons_163 2 rfl
theorem dX12_reckons_166 : decode cX12_reckons 166 = .ok (.lcmp, 1) := dk_i kdX12_reckons_163 3 rfl
theorem dX12_reckons_167 : decode cX12_reckons 167 = .ok (.ifCond .ne 12, 3) := dk_i kdX12_reckons_163 4 rfl
theorem dX12_reckons_170 : decode cX12_reckons 170 = .ok (.aload_n 0, 1) := dk_i kdX12_reckons_163 5 rfl
theorem dX12_reckons_171 : decode cX12_reckons 171 = .ok (.getfield 183, 3) := dk_i kdX12_reckons_163 6 rfl
theorem dX12_reckons_174 : decode cX12_reckons 174 = .ok (.iload_n 2, 1) := dk_i kdX12_reckons_163 7 rfl
theorem dX12_reckons_175 : decode cX12_reckons 175 = .ok (.laload, 1) := dk_i kdX12_reckons_163 8 rfl
theorem dX12_reckons_176 : decode cX12_reckons 176 = .ok (.goto 11, 3) := dk_i kdX12_reckons_163 9 rfl
theorem dX12_reckons_179 : decode cX12_reckons 179 = .ok (.aload_n 0, 1) := dk_i kdX12_reckons_163 10 rfl
theorem dX12_reckons_180 : decode cX12_reckons 180 = .ok (.getfield 183, 3) := dk_i kdX12_reckons_163 11 rfl
theorem dX12_reckons_183 : decode cX12_reckons 183 = .ok (.iload_n 2, 1) := dk_i kdX12_reckons_163 12 rfl
theorem dX12_reckons_184 : decode cX12_reckons 184 = .ok (.iconst 1, 1) := dk_i kdX12_reckons_163 13 rfl
theorem dX12_reckons_185 : decode cX12_reckons 185 = .ok (.iadd, 1) := dk_i kdX12_reckons_163 14 rfl
theorem dX12_reckons_186 : decode cX12_reckons 186 = .ok (.laload, 1) := dk_i kdX12_reckons_163 15 rfl
def ldX12_reckons_187 : List (Nat × ClassFile.Instr × Nat) := [(187, .lastore, 1), (188, .goto 33, 3), (191, .iinc 2 (-1), 3), (194, .aload_n 0, 1), (195, .getfield 183, 3), (198, .iload_n 2, 1), (199, .iconst 1, 1), (200, .isub, 1), (201, .iload 4, 2), (203, .aload_n 0, 1), (204, .getfield 183, 3), (207, .iload_n 2, 1), (208, .iconst 1, 1), (209, .isub, 1), (210, .laload, 1), (211, .aload_n 0, 1)]
theorem kdX12_reckons_187 : dkO cX12_reckons 187 ldX12_reckons_187 = true := by decide +kernel
theorem dX12_reckons_187 : decode cX12_reckons 187 = .ok (.lastore, 1) := dk_i kdX12_reckons_187 0 rfl
theorem dX12_reckons_188 : decode cX12_reckons 188 = .ok (.goto 33, 3) := dk_i kdX12_reckons_187 1 rfl
theorem dX12_reckons_191 : decode cX12_reckons 191 = .ok (.iinc 2 (-1), 3) := dk_i kdX12_reckons_187 2 rfl
theorem dX12_reckons_194 : decode cX12_reckons 194 = .ok (.aload_n 0, 1) := dk_i kdX12_reckons_187 3 rfl
theorem dX12_reckons_195 : decode cX12_reckons 195 = .ok (.getfield 183, 3) := dk_i kdX12_reckons_187 4 rfl
theorem dX12_reckons_198 : decode cX12_reckons 198 = .ok (.iload_n 2, 1) := dk_i kdX12_reckons_187 5 rfl
theorem dX12_reckons_199 : decode cX12_reckons 199 = .ok (.iconst 1, 1) := dk_i kdX12_reckons_187 6 rfl
theorem dX12_reckons_200 : decode cX12_reckons 200 = .ok (.isub, 1) := dk_i kdX12_reckons_187 7 rfl
theorem dX12_reckons_201 : decode cX12_reckons 201 = .ok (.iload 4, 2) := dk_i kdX12_reckons_187 8 rfl
theorem dX12_reckons_203 : decode cX12_reckons 203 = .ok (.aload_n 0, 1) := dk_i kdX12_reckons_187 9 rfl
theorem dX12_reckons_204 : decode cX12_reckons 204 = .ok (.getfield 183, 3) := dk_i kdX12_reckons_187 10 rfl
theorem dX12_reckons_207 : decode cX12_reckons 207 = .ok (.iload_n 2, 1) := dk_i kdX12_reckons_187 11 rfl
theorem dX12_reckons_208 : decode cX12_reckons 208 = .ok (.iconst 1, 1) := dk_i kdX12_reckons_187 12 rfl
theorem dX12_reckons_209 : decode cX12_reckons 209 = .ok (.isub, 1) := dk_i kdX12_reckons_187 13 rfl
theorem dX12_reckons_210 : decode cX12_reckons 210 = .ok (.laload, 1) := dk_i kdX12_reckons_187 14 rfl
theorem dX12_reckons_211 : decode cX12_reckons 211 = .ok (.aload_n 0, 1) := dk_i kdX12_reckons_187 15 rfl
def ldX12_reckons_212 : List (Nat × ClassFile.Instr × Nat) := [(212, .getfield 183, 3), (215, .iload_n 2, 1), (216, .laload, 1), (217, .invokestatic 433, 3), (220, .lastore, 1), (221, .iinc 3 1, 3), (224, .goto (-199), 3), (227, .aload_n 0, 1), (228, .getfield 183, 3), (231, .iconst 0, 1), (232, .laload, 1), (233, .lreturn, 1)]
theorem kdX12_reckons_212 : dkO cX12_reckons 212 ldX12_reckons_212 = true := by decide +kernel
theorem dX12_reckons_212 : decode cX12_reckons 212 = .ok (.getfield 183, 3) := dk_i kdX12_reckons_212 0 rfl
theorem dX12_reckons_215 : decode cX12_reckons 215 = .ok (.iload_n 2, 1) := dk_i kdX12_reckons_212 1 rfl
theorem dX12_reckons_216 : decode cX12_reckons 216 = .ok (.laload, 1) := dk_i kdX12_reckons_212 2 rfl
theorem dX12_reckons_217 : decode cX12_reckons 217 = .ok (.invokestatic 433, 3) := dk_i kdX12_reckons_212 3 rfl
theorem dX12_reckons_220 : decode cX12_reckons 220 = .ok (.lastore, 1) := dk_i kdX12_reckons_212 4 rfl
theorem dX12_reckons_221 : decode cX12_reckons 221 = .ok (.iinc 3 1, 3) := dk_i kdX12_reckons_212 5 rfl
theorem dX12_reckons_224 : decode cX12_reckons 224 = .ok (.goto (-199), 3) := dk_i kdX12_reckons_212 6 rfl
theorem dX12_reckons_227 : decode cX12_reckons 227 = .ok (.aload_n 0, 1) := dk_i kdX12_reckons_212 7 rfl
theorem dX12_reckons_228 : decode cX12_reckons 228 = .ok (.getfield 183, 3) := dk_i kdX12_reckons_212 8 rfl
theorem dX12_reckons_231 : decode cX12_reckons 231 = .ok (.iconst 0, 1) := dk_i kdX12_reckons_212 9 rfl
theorem dX12_reckons_232 : decode cX12_reckons 232 = .ok (.laload, 1) := dk_i kdX12_reckons_212 10 rfl
theorem dX12_reckons_233 : decode cX12_reckons 233 = .ok (.lreturn, 1) := dk_i kdX12_reckons_212 11 rfl
def ldX12_isTold_0 : List (Nat × ClassFile.Instr × Nat) := [(0, .aload_n 0, 1), (1, .getfield 90, 3), (4, .iconst 2, 1), (5, .aload_n 0, 1), (6, .getfield 51, 3), (9, .imul, 1), (10, .iload_n 1, 1), (11, .iadd, 1), (12, .iaload, 1), (13, .iconst (-1), 1), (14, .if_icmp .eq 7, 3), (17, .iconst 1, 1), (18, .goto 4, 3), (21, .iconst 0, 1), (22, .ireturn, 1)]
theorem kdX12_isTold_0 : dkO cX12_isTold 0 ldX12_isTold_0 = true := by decide +kernel
theorem dX12_isTold_0 : decode cX12_isTold 0 = .ok (.aload_n 0, 1) := dk_i kdX12_isTold_0 0 rfl
theorem dX12_isTold_1 : decode cX12_isTold 1 = .ok (.getfield 90, 3) := dk_i kdX12_isTold_0 1 rfl
theorem dX12_isTold_4 : decode cX12_isTold 4 = .ok (.iconst 2, 1) := dk_i kdX12_isTold_0 2 rfl
theorem dX12_isTold_5 : decode cX12_isTold 5 = .ok (.aload_n 0, 1) := dk_i kdX12_isTold_0 3 rfl
theorem dX12_isTold_6 : decode cX12_isTold 6 = .ok (.getfield 51, 3) := dk_i kdX12_isTold_0 4 rfl
theorem dX12_isTold_9 : decode cX12_isTold 9 = .ok (.imul, 1) := dk_i kdX12_isTold_0 5 rfl
theorem dX12_isTold_10 : decode cX12_isTold 10 = .ok (.iload_n 1, 1) := dk_i kdX12_isTold_0 6 rfl
theorem dX12_isTold_11 : decode cX12_isTold 11 = .ok (.iadd, 1) := dk_i kdX12_isTold_0 7 rfl
theorem dX12_isTold_12 : decode cX12_isTold 12 = .ok (.iaload, 1) := dk_i kdX12_isTold_0 8 rfl
theorem dX12_isTold_13 : decode cX12_isTold 13 = .ok (.iconst (-1), 1) := dk_i kdX12_isTold_0 9 rfl
theorem dX12_isTold_14 : decode cX12_isTold 14 = .ok (.if_icmp .eq 7, 3) := dk_i kdX12_isTold_0 10 rfl
theorem dX12_isTold_17 : decode cX12_isTold 17 = .ok (.iconst 1, 1) := dk_i kdX12_isTold_0 11 rfl
theorem dX12_isTold_18 : decode cX12_isTold 18 = .ok (.goto 4, 3) := dk_i kdX12_isTold_0 12 rfl
theorem dX12_isTold_21 : decode cX12_isTold 21 = .ok (.iconst 0, 1) := dk_i kdX12_isTold_0 13 rfl
theorem dX12_isTold_22 : decode cX12_isTold 22 = .ok (.ireturn, 1) := dk_i kdX12_isTold_0 14 rfl
def ldX12_lays_0 : List (Nat × ClassFile.Instr × Nat) := [(0, .aload_n 0, 1), (1, .getfield 159, 3), (4, .iconst 5, 1), (5, .iload_n 1, 1), (6, .imul, 1), (7, .iload_n 2, 1), (8, .iadd, 1), (9, .iaload, 1), (10, .istore_n 3, 1), (11, .aload_n 0, 1), (12, .getfield 186, 3), (15, .iconst 1, 1), (16, .iload_n 3, 1), (17, .iconst (-1), 1), (18, .if_icmp .ne 7, 3), (21, .iconst 0, 1)]
theorem kdX12_lays_0 : dkO cX12_lays 0 ldX12_lays_0 = true := by decide +kernel
theorem dX12_lays_0 : decode cX12_lays 0 = .ok (.aload_n 0, 1) := dk_i kdX12_lays_0 0 rfl
theorem dX12_lays_1 : decode cX12_lays 1 = .ok (.getfield 159, 3) := dk_i kdX12_lays_0 1 rfl
theorem dX12_lays_4 : decode cX12_lays 4 = .ok (.iconst 5, 1) := dk_i kdX12_lays_0 2 rfl
theorem dX12_lays_5 : decode cX12_lays 5 = .ok (.iload_n 1, 1) := dk_i kdX12_lays_0 3 rfl
theorem dX12_lays_6 : decode cX12_lays 6 = .ok (.imul, 1) := dk_i kdX12_lays_0 4 rfl
theorem dX12_lays_7 : decode cX12_lays 7 = .ok (.iload_n 2, 1) := dk_i kdX12_lays_0 5 rfl
theorem dX12_lays_8 : decode cX12_lays 8 = .ok (.iadd, 1) := dk_i kdX12_lays_0 6 rfl
theorem dX12_lays_9 : decode cX12_lays 9 = .ok (.iaload, 1) := dk_i kdX12_lays_0 7 rfl
theorem dX12_lays_10 : decode cX12_lays 10 = .ok (.istore_n 3, 1) := dk_i kdX12_lays_0 8 rfl
theorem dX12_lays_11 : decode cX12_lays 11 = .ok (.aload_n 0, 1) := dk_i kdX12_lays_0 9 rfl
theorem dX12_lays_12 : decode cX12_lays 12 = .ok (.getfield 186, 3) := dk_i kdX12_lays_0 10 rfl
theorem dX12_lays_15 : decode cX12_lays 15 = .ok (.iconst 1, 1) := dk_i kdX12_lays_0 11 rfl
theorem dX12_lays_16 : decode cX12_lays 16 = .ok (.iload_n 3, 1) := dk_i kdX12_lays_0 12 rfl
theorem dX12_lays_17 : decode cX12_lays 17 = .ok (.iconst (-1), 1) := dk_i kdX12_lays_0 13 rfl
theorem dX12_lays_18 : decode cX12_lays 18 = .ok (.if_icmp .ne 7, 3) := dk_i kdX12_lays_0 14 rfl
theorem dX12_lays_21 : decode cX12_lays 21 = .ok (.iconst 0, 1) := dk_i kdX12_lays_0 15 rfl
def ldX12_lays_22 : List (Nat × ClassFile.Instr × Nat) := [(22, .goto 17, 3), (25, .aload_n 0, 1), (26, .getfield 57, 3), (29, .bipush 6, 2), (31, .aload_n 0, 1), (32, .getfield 51, 3), (35, .imul, 1), (36, .iload_n 3, 1), (37, .iadd, 1), (38, .iaload, 1), (39, .iastore, 1), (40, .aload_n 0, 1), (41, .getfield 186, 3), (44, .iconst 2, 1), (45, .aload_n 0, 1), (46, .getfield 162, 3)]
theorem kdX12_lays_22 : dkO cX12_lays 22 ldX12_lays_22 = true := by decide +kernel
theorem dX12_lays_22 : decode cX12_lays 22 = .ok (.goto 17, 3) := dk_i kdX12_lays_22 0 rfl
theorem dX12_lays_25 : decode cX12_lays 25 = .ok (.aload_n 0, 1) := dk_i kdX12_lays_22 1 rfl
theorem dX12_lays_26 : decode cX12_lays 26 = .ok (.getfield 57, 3) := dk_i kdX12_lays_22 2 rfl
theorem dX12_lays_29 : decode cX12_lays 29 = .ok (.bipush 6, 2) := dk_i kdX12_lays_22 3 rfl
theorem dX12_lays_31 : decode cX12_lays 31 = .ok (.aload_n 0, 1) := dk_i kdX12_lays_22 4 rfl
theorem dX12_lays_32 : decode cX12_lays 32 = .ok (.getfield 51, 3) := dk_i kdX12_lays_22 5 rfl
theorem dX12_lays_35 : decode cX12_lays 35 = .ok (.imul, 1) := dk_i kdX12_lays_22 6 rfl
theorem dX12_lays_36 : decode cX12_lays 36 = .ok (.iload_n 3, 1) := dk_i kdX12_lays_22 7 rfl
theorem dX12_lays_37 : decode cX12_lays 37 = .ok (.iadd, 1) := dk_i kdX12_lays_22 8 rfl
theorem dX12_lays_38 : decode cX12_lays 38 = .ok (.iaload, 1) := dk_i kdX12_lays_22 9 rfl
theorem dX12_lays_39 : decode cX12_lays 39 = .ok (.iastore, 1) := dk_i kdX12_lays_22 10 rfl
theorem dX12_lays_40 : decode cX12_lays 40 = .ok (.aload_n 0, 1) := dk_i kdX12_lays_22 11 rfl
theorem dX12_lays_41 : decode cX12_lays 41 = .ok (.getfield 186, 3) := dk_i kdX12_lays_22 12 rfl
theorem dX12_lays_44 : decode cX12_lays 44 = .ok (.iconst 2, 1) := dk_i kdX12_lays_22 13 rfl
theorem dX12_lays_45 : decode cX12_lays 45 = .ok (.aload_n 0, 1) := dk_i kdX12_lays_22 14 rfl
theorem dX12_lays_46 : decode cX12_lays 46 = .ok (.getfield 162, 3) := dk_i kdX12_lays_22 15 rfl
def ldX12_lays_49 : List (Nat × ClassFile.Instr × Nat) := [(49, .iconst 5, 1), (50, .iload_n 1, 1), (51, .imul, 1), (52, .iload_n 2, 1), (53, .iadd, 1), (54, .iaload, 1), (55, .iastore, 1), (56, .aload_n 0, 1), (57, .getfield 186, 3), (60, .iconst 3, 1), (61, .iload_n 2, 1), (62, .iastore, 1), (63, .aload_n 0, 1), (64, .getfield 186, 3), (67, .iconst 4, 1), (68, .aload_n 0, 1)]
theorem kdX12_lays_49 : dkO cX12_lays 49 ldX12_lays_49 = true := by decide +kernel
theorem dX12_lays_49 : decode cX12_lays 49 = .ok (.iconst 5, 1) := dk_i kdX12_lays_49 0 rfl
theorem dX12_lays_50 : decode cX12_lays 50 = .ok (.iload_n 1, 1) := dk_i kdX12_lays_49 1 rfl
theorem dX12_lays_51 : decode cX12_lays 51 = .ok (.imul, 1) := dk_i kdX12_lays_49 2 rfl
theorem dX12_lays_52 : decode cX12_lays 52 = .ok (.iload_n 2, 1) := dk_i kdX12_lays_49 3 rfl
theorem dX12_lays_53 : decode cX12_lays 53 = .ok (.iadd, 1) := dk_i kdX12_lays_49 4 rfl
theorem dX12_lays_54 : decode cX12_lays 54 = .ok (.iaload, 1) := dk_i kdX12_lays_49 5 rfl
theorem dX12_lays_55 : decode cX12_lays 55 = .ok (.iastore, 1) := dk_i kdX12_lays_49 6 rfl
theorem dX12_lays_56 : decode cX12_lays 56 = .ok (.aload_n 0, 1) := dk_i kdX12_lays_49 7 rfl
theorem dX12_lays_57 : decode cX12_lays 57 = .ok (.getfield 186, 3) := dk_i kdX12_lays_49 8 rfl
theorem dX12_lays_60 : decode cX12_lays 60 = .ok (.iconst 3, 1) := dk_i kdX12_lays_49 9 rfl
theorem dX12_lays_61 : decode cX12_lays 61 = .ok (.iload_n 2, 1) := dk_i kdX12_lays_49 10 rfl
theorem dX12_lays_62 : decode cX12_lays 62 = .ok (.iastore, 1) := dk_i kdX12_lays_49 11 rfl
theorem dX12_lays_63 : decode cX12_lays 63 = .ok (.aload_n 0, 1) := dk_i kdX12_lays_49 12 rfl
theorem dX12_lays_64 : decode cX12_lays 64 = .ok (.getfield 186, 3) := dk_i kdX12_lays_49 13 rfl
theorem dX12_lays_67 : decode cX12_lays 67 = .ok (.iconst 4, 1) := dk_i kdX12_lays_49 14 rfl
theorem dX12_lays_68 : decode cX12_lays 68 = .ok (.aload_n 0, 1) := dk_i kdX12_lays_49 15 rfl
def ldX12_lays_69 : List (Nat × ClassFile.Instr × Nat) := [(69, .getfield 156, 3), (72, .iload_n 1, 1), (73, .iaload, 1), (74, .iastore, 1), (75, .aload_n 0, 1), (76, .getfield 186, 3), (79, .iconst 5, 1), (80, .iload_n 3, 1), (81, .iconst (-1), 1), (82, .if_icmp .ne 7, 3), (85, .iconst 1, 1), (86, .goto 4, 3), (89, .iconst 0, 1), (90, .iastore, 1), (91, .aload_n 0, 1), (92, .getfield 186, 3)]
theorem kdX12_lays_69 : dkO cX12_lays 69 ldX12_lays_69 = true := by decide +kernel
theorem dX12_lays_69 : decode cX12_lays 69 = .ok (.getfield 156, 3) := dk_i kdX12_lays_69 0 rfl
theorem dX12_lays_72 : decode cX12_lays 72 = .ok (.iload_n 1, 1) := dk_i kdX12_lays_69 1 rfl
theorem dX12_lays_73 : decode cX12_lays 73 = .ok (.iaload, 1) := dk_i kdX12_lays_69 2 rfl
theorem dX12_lays_74 : decode cX12_lays 74 = .ok (.iastore, 1) := dk_i kdX12_lays_69 3 rfl
theorem dX12_lays_75 : decode cX12_lays 75 = .ok (.aload_n 0, 1) := dk_i kdX12_lays_69 4 rfl
theorem dX12_lays_76 : decode cX12_lays 76 = .ok (.getfield 186, 3) := dk_i kdX12_lays_69 5 rfl
theorem dX12_lays_79 : decode cX12_lays 79 = .ok (.iconst 5, 1) := dk_i kdX12_lays_69 6 rfl
theorem dX12_lays_80 : decode cX12_lays 80 = .ok (.iload_n 3, 1) := dk_i kdX12_lays_69 7 rfl
theorem dX12_lays_81 : decode cX12_lays 81 = .ok (.iconst (-1), 1) := dk_i kdX12_lays_69 8 rfl
theorem dX12_lays_82 : decode cX12_lays 82 = .ok (.if_icmp .ne 7, 3) := dk_i kdX12_lays_69 9 rfl
theorem dX12_lays_85 : decode cX12_lays 85 = .ok (.iconst 1, 1) := dk_i kdX12_lays_69 10 rfl
theorem dX12_lays_86 : decode cX12_lays 86 = .ok (.goto 4, 3) := dk_i kdX12_lays_69 11 rfl
theorem dX12_lays_89 : decode cX12_lays 89 = .ok (.iconst 0, 1) := dk_i kdX12_lays_69 12 rfl
theorem dX12_lays_90 : decode cX12_lays 90 = .ok (.iastore, 1) := dk_i kdX12_lays_69 13 rfl
theorem dX12_lays_91 : decode cX12_lays 91 = .ok (.aload_n 0, 1) := dk_i kdX12_lays_69 14 rfl
theorem dX12_lays_92 : decode cX12_lays 92 = .ok (.getfield 186, 3) := dk_i kdX12_lays_69 15 rfl
def ldX12_lays_95 : List (Nat × ClassFile.Instr × Nat) := [(95, .bipush 6, 2), (97, .iload_n 3, 1), (98, .iconst (-1), 1), (99, .if_icmp .ne 7, 3), (102, .iconst 0, 1), (103, .goto 17, 3), (106, .aload_n 0, 1), (107, .getfield 60, 3), (110, .bipush 6, 2), (112, .aload_n 0, 1), (113, .getfield 51, 3), (116, .imul, 1), (117, .iload_n 3, 1), (118, .iadd, 1), (119, .iaload, 1), (120, .iastore, 1)]
theorem kdX12_lays_95 : dkO cX12_lays 95 ldX12_lays_95 = true := by decide +kernel
theorem dX12_lays_95 : decode cX12_lays 95 = .ok (.bipush 6, 2) := dk_i kdX12_lays_95 0 rfl
theorem dX12_lays_97 : decode cX12_lays 97 = .ok (.iload_n 3, 1) := dk_i kdX12_lays_95 1 rfl
theorem dX12_lays_98 : decode cX12_lays 98 = .ok (.iconst (-1), 1) := dk_i kdX12_lays_95 2 rfl
theorem dX12_lays_99 : decode cX12_lays 99 = .ok (.if_icmp .ne 7, 3) := dk_i kdX12_lays_95 3 rfl
theorem dX12_lays_102 : decode cX12_lays 102 = .ok (.iconst 0, 1) := dk_i kdX12_lays_95 4 rfl
theorem dX12_lays_103 : decode cX12_lays 103 = .ok (.goto 17, 3) := dk_i kdX12_lays_95 5 rfl
theorem dX12_lays_106 : decode cX12_lays 106 = .ok (.aload_n 0, 1) := dk_i kdX12_lays_95 6 rfl
theorem dX12_lays_107 : decode cX12_lays 107 = .ok (.getfield 60, 3) := dk_i kdX12_lays_95 7 rfl
theorem dX12_lays_110 : decode cX12_lays 110 = .ok (.bipush 6, 2) := dk_i kdX12_lays_95 8 rfl
theorem dX12_lays_112 : decode cX12_lays 112 = .ok (.aload_n 0, 1) := dk_i kdX12_lays_95 9 rfl
theorem dX12_lays_113 : decode cX12_lays 113 = .ok (.getfield 51, 3) := dk_i kdX12_lays_95 10 rfl
theorem dX12_lays_116 : decode cX12_lays 116 = .ok (.imul, 1) := dk_i kdX12_lays_95 11 rfl
theorem dX12_lays_117 : decode cX12_lays 117 = .ok (.iload_n 3, 1) := dk_i kdX12_lays_95 12 rfl
theorem dX12_lays_118 : decode cX12_lays 118 = .ok (.iadd, 1) := dk_i kdX12_lays_95 13 rfl
theorem dX12_lays_119 : decode cX12_lays 119 = .ok (.iaload, 1) := dk_i kdX12_lays_95 14 rfl
theorem dX12_lays_120 : decode cX12_lays 120 = .ok (.iastore, 1) := dk_i kdX12_lays_95 15 rfl
def ldX12_lays_121 : List (Nat × ClassFile.Instr × Nat) := [(121, .return_, 1)]
theorem kdX12_lays_121 : dkO cX12_lays 121 ldX12_lays_121 = true := by decide +kernel
theorem dX12_lays_121 : decode cX12_lays 121 = .ok (.return_, 1) := dk_i kdX12_lays_121 0 rfl
def ldX12_hour_0 : List (Nat × ClassFile.Instr × Nat) := [(0, .aload_n 0, 1), (1, .iload_n 1, 1), (2, .iload_n 2, 1), (3, .invokevirtual 437, 3), (6, .aload_n 0, 1), (7, .iconst 0, 1), (8, .invokevirtual 440, 3), (11, .ifCond .eq 11, 3), (14, .aload_n 0, 1), (15, .iconst 0, 1), (16, .invokevirtual 443, 3), (19, .goto 10, 3), (22, .aload_n 0, 1), (23, .getfield 186, 3), (26, .iconst 1, 1), (27, .iaload, 1)]
theorem kdX12_hour_0 : dkO cX12_hour 0 ldX12_hour_0 = true := by decide +kernel
theorem dX12_hour_0 : decode cX12_hour 0 = .ok (.aload_n 0, 1) := dk_i kdX12_hour_0 0 rfl
theorem dX12_hour_1 : decode cX12_hour 1 = .ok (.iload_n 1, 1) := dk_i kdX12_hour_0 1 rfl
theorem dX12_hour_2 : decode cX12_hour 2 = .ok (.iload_n 2, 1) := dk_i kdX12_hour_0 2 rfl
theorem dX12_hour_3 : decode cX12_hour 3 = .ok (.invokevirtual 437, 3) := dk_i kdX12_hour_0 3 rfl
theorem dX12_hour_6 : decode cX12_hour 6 = .ok (.aload_n 0, 1) := dk_i kdX12_hour_0 4 rfl
theorem dX12_hour_7 : decode cX12_hour 7 = .ok (.iconst 0, 1) := dk_i kdX12_hour_0 5 rfl
theorem dX12_hour_8 : decode cX12_hour 8 = .ok (.invokevirtual 440, 3) := dk_i kdX12_hour_0 6 rfl
theorem dX12_hour_11 : decode cX12_hour 11 = .ok (.ifCond .eq 11, 3) := dk_i kdX12_hour_0 7 rfl
theorem dX12_hour_14 : decode cX12_hour 14 = .ok (.aload_n 0, 1) := dk_i kdX12_hour_0 8 rfl
theorem dX12_hour_15 : decode cX12_hour 15 = .ok (.iconst 0, 1) := dk_i kdX12_hour_0 9 rfl
theorem dX12_hour_16 : decode cX12_hour 16 = .ok (.invokevirtual 443, 3) := dk_i kdX12_hour_0 10 rfl
theorem dX12_hour_19 : decode cX12_hour 19 = .ok (.goto 10, 3) := dk_i kdX12_hour_0 11 rfl
theorem dX12_hour_22 : decode cX12_hour 22 = .ok (.aload_n 0, 1) := dk_i kdX12_hour_0 12 rfl
theorem dX12_hour_23 : decode cX12_hour 23 = .ok (.getfield 186, 3) := dk_i kdX12_hour_0 13 rfl
theorem dX12_hour_26 : decode cX12_hour 26 = .ok (.iconst 1, 1) := dk_i kdX12_hour_0 14 rfl
theorem dX12_hour_27 : decode cX12_hour 27 = .ok (.iaload, 1) := dk_i kdX12_hour_0 15 rfl
def ldX12_hour_28 : List (Nat × ClassFile.Instr × Nat) := [(28, .i2l, 1), (29, .lstore_n 3, 1), (30, .lload_n 3, 1), (31, .lconst 0, 1), (32, .lcmp, 1), (33, .ifCond .ge 7, 3), (36, .iconst 0, 1), (37, .goto 18, 3), (40, .lload_n 3, 1), (41, .ldc2_w 447, 3), (44, .lcmp, 1), (45, .ifCond .le 8, 3), (48, .bipush 23, 2), (50, .goto 5, 3), (53, .lload_n 3, 1), (54, .l2i, 1)]
theorem kdX12_hour_28 : dkO cX12_hour 28 ldX12_hour_28 = true := by decide +kernel
theorem dX12_hour_28 : decode cX12_hour 28 = .ok (.i2l, 1) := dk_i kdX12_hour_28 0 rfl
theorem dX12_hour_29 : decode cX12_hour 29 = .ok (.lstore_n 3, 1) := dk_i kdX12_hour_28 1 rfl
theorem dX12_hour_30 : decode cX12_hour 30 = .ok (.lload_n 3, 1) := dk_i kdX12_hour_28 2 rfl
theorem dX12_hour_31 : decode cX12_hour 31 = .ok (.lconst 0, 1) := dk_i kdX12_hour_28 3 rfl
theorem dX12_hour_32 : decode cX12_hour 32 = .ok (.lcmp, 1) := dk_i kdX12_hour_28 4 rfl
theorem dX12_hour_33 : decode cX12_hour 33 = .ok (.ifCond .ge 7, 3) := dk_i kdX12_hour_28 5 rfl
theorem dX12_hour_36 : decode cX12_hour 36 = .ok (.iconst 0, 1) := dk_i kdX12_hour_28 6 rfl
theorem dX12_hour_37 : decode cX12_hour 37 = .ok (.goto 18, 3) := dk_i kdX12_hour_28 7 rfl
theorem dX12_hour_40 : decode cX12_hour 40 = .ok (.lload_n 3, 1) := dk_i kdX12_hour_28 8 rfl
theorem dX12_hour_41 : decode cX12_hour 41 = .ok (.ldc2_w 447, 3) := dk_i kdX12_hour_28 9 rfl
theorem dX12_hour_44 : decode cX12_hour 44 = .ok (.lcmp, 1) := dk_i kdX12_hour_28 10 rfl
theorem dX12_hour_45 : decode cX12_hour 45 = .ok (.ifCond .le 8, 3) := dk_i kdX12_hour_28 11 rfl
theorem dX12_hour_48 : decode cX12_hour 48 = .ok (.bipush 23, 2) := dk_i kdX12_hour_28 12 rfl
theorem dX12_hour_50 : decode cX12_hour 50 = .ok (.goto 5, 3) := dk_i kdX12_hour_28 13 rfl
theorem dX12_hour_53 : decode cX12_hour 53 = .ok (.lload_n 3, 1) := dk_i kdX12_hour_28 14 rfl
theorem dX12_hour_54 : decode cX12_hour 54 = .ok (.l2i, 1) := dk_i kdX12_hour_28 15 rfl
def ldX12_hour_55 : List (Nat × ClassFile.Instr × Nat) := [(55, .ireturn, 1)]
theorem kdX12_hour_55 : dkO cX12_hour 55 ldX12_hour_55 = true := by decide +kernel
theorem dX12_hour_55 : decode cX12_hour 55 = .ok (.ireturn, 1) := dk_i kdX12_hour_55 0 rfl
def ldX12_writesDown_0 : List (Nat × ClassFile.Instr × Nat) := [(0, .aload_n 0, 1), (1, .getfield 168, 3), (4, .iload_n 1, 1), (5, .iaload, 1), (6, .bipush 40, 2), (8, .if_icmp .ne 51, 3), (11, .bipush 80, 2), (13, .iload_n 1, 1), (14, .imul, 1), (15, .istore_n 3, 1), (16, .iload_n 3, 1), (17, .bipush 80, 2), (19, .iload_n 1, 1), (20, .imul, 1), (21, .bipush 80, 2), (23, .iadd, 1)]
theorem kdX12_writesDown_0 : dkO cX12_writesDown 0 ldX12_writesDown_0 = true := by decide +kernel
theorem dX12_writesDown_0 : decode cX12_writesDown 0 = .ok (.aload_n 0, 1) := dk_i kdX12_writesDown_0 0 rfl
theorem dX12_writesDown_1 : decode cX12_writesDown 1 = .ok (.getfield 168, 3) := dk_i kdX12_writesDown_0 1 rfl
theorem dX12_writesDown_4 : decode cX12_writesDown 4 = .ok (.iload_n 1, 1) := dk_i kdX12_writesDown_0 2 rfl
theorem dX12_writesDown_5 : decode cX12_writesDown 5 = .ok (.iaload, 1) := dk_i kdX12_writesDown_0 3 rfl
theorem dX12_writesDown_6 : decode cX12_writesDown 6 = .ok (.bipush 40, 2) := dk_i kdX12_writesDown_0 4 rfl
theorem dX12_writesDown_8 : decode cX12_writesDown 8 = .ok (.if_icmp .ne 51, 3) := dk_i kdX12_writesDown_0 5 rfl
theorem dX12_writesDown_11 : decode cX12_writesDown 11 = .ok (.bipush 80, 2) := dk_i kdX12_writesDown_0 6 rfl
theorem dX12_writesDown_13 : decode cX12_writesDown 13 = .ok (.iload_n 1, 1) := dk_i kdX12_writesDown_0 7 rfl
theorem dX12_writesDown_14 : decode cX12_writesDown 14 = .ok (.imul, 1) := dk_i kdX12_writesDown_0 8 rfl
theorem dX12_writesDown_15 : decode cX12_writesDown 15 = .ok (.istore_n 3, 1) := dk_i kdX12_writesDown_0 9 rfl
theorem dX12_writesDown_16 : decode cX12_writesDown 16 = .ok (.iload_n 3, 1) := dk_i kdX12_writesDown_0 10 rfl
theorem dX12_writesDown_17 : decode cX12_writesDown 17 = .ok (.bipush 80, 2) := dk_i kdX12_writesDown_0 11 rfl
theorem dX12_writesDown_19 : decode cX12_writesDown 19 = .ok (.iload_n 1, 1) := dk_i kdX12_writesDown_0 12 rfl
theorem dX12_writesDown_20 : decode cX12_writesDown 20 = .ok (.imul, 1) := dk_i kdX12_writesDown_0 13 rfl
theorem dX12_writesDown_21 : decode cX12_writesDown 21 = .ok (.bipush 80, 2) := dk_i kdX12_writesDown_0 14 rfl
theorem dX12_writesDown_23 : decode cX12_writesDown 23 = .ok (.iadd, 1) := dk_i kdX12_writesDown_0 15 rfl
def ldX12_writesDown_24 : List (Nat × ClassFile.Instr × Nat) := [(24, .iconst 2, 1), (25, .isub, 1), (26, .if_icmp .ge 23, 3), (29, .aload_n 0, 1), (30, .getfield 171, 3), (33, .iload_n 3, 1), (34, .aload_n 0, 1), (35, .getfield 171, 3), (38, .iload_n 3, 1), (39, .iconst 2, 1), (40, .iadd, 1), (41, .iaload, 1), (42, .iastore, 1), (43, .iinc 3 1, 3), (46, .goto (-30), 3), (49, .aload_n 0, 1)]
theorem kdX12_writesDown_24 : dkO cX12_writesDown 24 ldX12_writesDown_24 = true := by decide +kernel
theorem dX12_writesDown_24 : decode cX12_writesDown 24 = .ok (.iconst 2, 1) := dk_i kdX12_writesDown_24 0 rfl
theorem dX12_writesDown_25 : decode cX12_writesDown 25 = .ok (.isub, 1) := dk_i kdX12_writesDown_24 1 rfl
theorem dX12_writesDown_26 : decode cX12_writesDown 26 = .ok (.if_icmp .ge 23, 3) := dk_i kdX12_writesDown_24 2 rfl
theorem dX12_writesDown_29 : decode cX12_writesDown 29 = .ok (.aload_n 0, 1) := dk_i kdX12_writesDown_24 3 rfl
theorem dX12_writesDown_30 : decode cX12_writesDown 30 = .ok (.getfield 171, 3) := dk_i kdX12_writesDown_24 4 rfl
theorem dX12_writesDown_33 : decode cX12_writesDown 33 = .ok (.iload_n 3, 1) := dk_i kdX12_writesDown_24 5 rfl
theorem dX12_writesDown_34 : decode cX12_writesDown 34 = .ok (.aload_n 0, 1) := dk_i kdX12_writesDown_24 6 rfl
theorem dX12_writesDown_35 : decode cX12_writesDown 35 = .ok (.getfield 171, 3) := dk_i kdX12_writesDown_24 7 rfl
theorem dX12_writesDown_38 : decode cX12_writesDown 38 = .ok (.iload_n 3, 1) := dk_i kdX12_writesDown_24 8 rfl
theorem dX12_writesDown_39 : decode cX12_writesDown 39 = .ok (.iconst 2, 1) := dk_i kdX12_writesDown_24 9 rfl
theorem dX12_writesDown_40 : decode cX12_writesDown 40 = .ok (.iadd, 1) := dk_i kdX12_writesDown_24 10 rfl
theorem dX12_writesDown_41 : decode cX12_writesDown 41 = .ok (.iaload, 1) := dk_i kdX12_writesDown_24 11 rfl
theorem dX12_writesDown_42 : decode cX12_writesDown 42 = .ok (.iastore, 1) := dk_i kdX12_writesDown_24 12 rfl
theorem dX12_writesDown_43 : decode cX12_writesDown 43 = .ok (.iinc 3 1, 3) := dk_i kdX12_writesDown_24 13 rfl
theorem dX12_writesDown_46 : decode cX12_writesDown 46 = .ok (.goto (-30), 3) := dk_i kdX12_writesDown_24 14 rfl
theorem dX12_writesDown_49 : decode cX12_writesDown 49 = .ok (.aload_n 0, 1) := dk_i kdX12_writesDown_24 15 rfl
def ldX12_writesDown_50 : List (Nat × ClassFile.Instr × Nat) := [(50, .getfield 168, 3), (53, .iload_n 1, 1), (54, .dup2, 1), (55, .iaload, 1), (56, .iconst 1, 1), (57, .isub, 1), (58, .iastore, 1), (59, .iconst 2, 1), (60, .bipush 40, 2), (62, .iload_n 1, 1), (63, .imul, 1), (64, .aload_n 0, 1), (65, .getfield 168, 3), (68, .iload_n 1, 1), (69, .iaload, 1), (70, .iadd, 1)]
theorem kdX12_writesDown_50 : dkO cX12_writesDown 50 ldX12_writesDown_50 = true := by decide +kernel
theorem dX12_writesDown_50 : decode cX12_writesDown 50 = .ok (.getfield 168, 3) := dk_i kdX12_writesDown_50 0 rfl
theorem dX12_writesDown_53 : decode cX12_writesDown 53 = .ok (.iload_n 1, 1) := dk_i kdX12_writesDown_50 1 rfl
theorem dX12_writesDown_54 : decode cX12_writesDown 54 = .ok (.dup2, 1) := dk_i kdX12_writesDown_50 2 rfl
theorem dX12_writesDown_55 : decode cX12_writesDown 55 = .ok (.iaload, 1) := dk_i kdX12_writesDown_50 3 rfl
theorem dX12_writesDown_56 : decode cX12_writesDown 56 = .ok (.iconst 1, 1) := dk_i kdX12_writesDown_50 4 rfl
theorem dX12_writesDown_57 : decode cX12_writesDown 57 = .ok (.isub, 1) := dk_i kdX12_writesDown_50 5 rfl
theorem dX12_writesDown_58 : decode cX12_writesDown 58 = .ok (.iastore, 1) := dk_i kdX12_writesDown_50 6 rfl
theorem dX12_writesDown_59 : decode cX12_writesDown 59 = .ok (.iconst 2, 1) := dk_i kdX12_writesDown_50 7 rfl
theorem dX12_writesDown_60 : decode cX12_writesDown 60 = .ok (.bipush 40, 2) := dk_i kdX12_writesDown_50 8 rfl
theorem dX12_writesDown_62 : decode cX12_writesDown 62 = .ok (.iload_n 1, 1) := dk_i kdX12_writesDown_50 9 rfl
theorem dX12_writesDown_63 : decode cX12_writesDown 63 = .ok (.imul, 1) := dk_i kdX12_writesDown_50 10 rfl
theorem dX12_writesDown_64 : decode cX12_writesDown 64 = .ok (.aload_n 0, 1) := dk_i kdX12_writesDown_50 11 rfl
theorem dX12_writesDown_65 : decode cX12_writesDown 65 = .ok (.getfield 168, 3) := dk_i kdX12_writesDown_50 12 rfl
theorem dX12_writesDown_68 : decode cX12_writesDown 68 = .ok (.iload_n 1, 1) := dk_i kdX12_writesDown_50 13 rfl
theorem dX12_writesDown_69 : decode cX12_writesDown 69 = .ok (.iaload, 1) := dk_i kdX12_writesDown_50 14 rfl
theorem dX12_writesDown_70 : decode cX12_writesDown 70 = .ok (.iadd, 1) := dk_i kdX12_writesDown_50 15 rfl
def ldX12_writesDown_71 : List (Nat × ClassFile.Instr × Nat) := [(71, .imul, 1), (72, .istore_n 3, 1), (73, .aload_n 0, 1), (74, .getfield 171, 3), (77, .iload_n 3, 1), (78, .aload_n 0, 1), (79, .getfield 156, 3), (82, .iload_n 1, 1), (83, .iaload, 1), (84, .iastore, 1), (85, .aload_n 0, 1), (86, .getfield 171, 3), (89, .iload_n 3, 1), (90, .iconst 1, 1), (91, .iadd, 1), (92, .iload_n 2, 1)]
theorem kdX12_writesDown_71 : dkO cX12_writesDown 71 ldX12_writesDown_71 = true := by decide +kernel
theorem dX12_writesDown_71 : decode cX12_writesDown 71 = .ok (.imul, 1) := dk_i kdX12_writesDown_71 0 rfl
theorem dX12_writesDown_72 : decode cX12_writesDown 72 = .ok (.istore_n 3, 1) := dk_i kdX12_writesDown_71 1 rfl
theorem dX12_writesDown_73 : decode cX12_writesDown 73 = .ok (.aload_n 0, 1) := dk_i kdX12_writesDown_71 2 rfl
theorem dX12_writesDown_74 : decode cX12_writesDown 74 = .ok (.getfield 171, 3) := dk_i kdX12_writesDown_71 3 rfl
theorem dX12_writesDown_77 : decode cX12_writesDown 77 = .ok (.iload_n 3, 1) := dk_i kdX12_writesDown_71 4 rfl
theorem dX12_writesDown_78 : decode cX12_writesDown 78 = .ok (.aload_n 0, 1) := dk_i kdX12_writesDown_71 5 rfl
theorem dX12_writesDown_79 : decode cX12_writesDown 79 = .ok (.getfield 156, 3) := dk_i kdX12_writesDown_71 6 rfl
theorem dX12_writesDown_82 : decode cX12_writesDown 82 = .ok (.iload_n 1, 1) := dk_i kdX12_writesDown_71 7 rfl
theorem dX12_writesDown_83 : decode cX12_writesDown 83 = .ok (.iaload, 1) := dk_i kdX12_writesDown_71 8 rfl
theorem dX12_writesDown_84 : decode cX12_writesDown 84 = .ok (.iastore, 1) := dk_i kdX12_writesDown_71 9 rfl
theorem dX12_writesDown_85 : decode cX12_writesDown 85 = .ok (.aload_n 0, 1) := dk_i kdX12_writesDown_71 10 rfl
theorem dX12_writesDown_86 : decode cX12_writesDown 86 = .ok (.getfield 171, 3) := dk_i kdX12_writesDown_71 11 rfl
theorem dX12_writesDown_89 : decode cX12_writesDown 89 = .ok (.iload_n 3, 1) := dk_i kdX12_writesDown_71 12 rfl
theorem dX12_writesDown_90 : decode cX12_writesDown 90 = .ok (.iconst 1, 1) := dk_i kdX12_writesDown_71 13 rfl
theorem dX12_writesDown_91 : decode cX12_writesDown 91 = .ok (.iadd, 1) := dk_i kdX12_writesDown_71 14 rfl
theorem dX12_writesDown_92 : decode cX12_writesDown 92 = .ok (.iload_n 2, 1) := dk_i kdX12_writesDown_71 15 rfl
def ldX12_writesDown_93 : List (Nat × ClassFile.Instr × Nat) := [(93, .iastore, 1), (94, .aload_n 0, 1), (95, .getfield 168, 3), (98, .iload_n 1, 1), (99, .dup2, 1), (100, .iaload, 1), (101, .iconst 1, 1), (102, .iadd, 1), (103, .iastore, 1), (104, .return_, 1)]
theorem kdX12_writesDown_93 : dkO cX12_writesDown 93 ldX12_writesDown_93 = true := by decide +kernel
theorem dX12_writesDown_93 : decode cX12_writesDown 93 = .ok (.iastore, 1) := dk_i kdX12_writesDown_93 0 rfl
theorem dX12_writesDown_94 : decode cX12_writesDown 94 = .ok (.aload_n 0, 1) := dk_i kdX12_writesDown_93 1 rfl
theorem dX12_writesDown_95 : decode cX12_writesDown 95 = .ok (.getfield 168, 3) := dk_i kdX12_writesDown_93 2 rfl
theorem dX12_writesDown_98 : decode cX12_writesDown 98 = .ok (.iload_n 1, 1) := dk_i kdX12_writesDown_93 3 rfl
theorem dX12_writesDown_99 : decode cX12_writesDown 99 = .ok (.dup2, 1) := dk_i kdX12_writesDown_93 4 rfl
theorem dX12_writesDown_100 : decode cX12_writesDown 100 = .ok (.iaload, 1) := dk_i kdX12_writesDown_93 5 rfl
theorem dX12_writesDown_101 : decode cX12_writesDown 101 = .ok (.iconst 1, 1) := dk_i kdX12_writesDown_93 6 rfl
theorem dX12_writesDown_102 : decode cX12_writesDown 102 = .ok (.iadd, 1) := dk_i kdX12_writesDown_93 7 rfl
theorem dX12_writesDown_103 : decode cX12_writesDown 103 = .ok (.iastore, 1) := dk_i kdX12_writesDown_93 8 rfl
theorem dX12_writesDown_104 : decode cX12_writesDown 104 = .ok (.return_, 1) := dk_i kdX12_writesDown_93 9 rfl
def ldX12_finishesDoings_0 : List (Nat × ClassFile.Instr × Nat) := [(0, .iconst 0, 1), (1, .istore_n 2, 1), (2, .iconst 0, 1), (3, .istore_n 3, 1), (4, .iload_n 3, 1), (5, .aload_n 0, 1), (6, .getfield 78, 3), (9, .aload_n 0, 1), (10, .getfield 51, 3), (13, .iaload, 1), (14, .if_icmp .ge 82, 3), (17, .aload_n 0, 1), (18, .getfield 165, 3), (21, .iload_n 1, 1), (22, .iaload, 1), (23, .iload_n 3, 1)]
theorem kdX12_finishesDoings_0 : dkO cX12_finishesDoings 0 ldX12_finishesDoings_0 = true := by decide +kernel
theorem dX12_finishesDoings_0 : decode cX12_finishesDoings 0 = .ok (.iconst 0, 1) := dk_i kdX12_finishesDoings_0 0 rfl
theorem dX12_finishesDoings_1 : decode cX12_finishesDoings 1 = .ok (.istore_n 2, 1) := dk_i kdX12_finishesDoings_0 1 rfl
theorem dX12_finishesDoings_2 : decode cX12_finishesDoings 2 = .ok (.iconst 0, 1) := dk_i kdX12_finishesDoings_0 2 rfl
theorem dX12_finishesDoings_3 : decode cX12_finishesDoings 3 = .ok (.istore_n 3, 1) := dk_i kdX12_finishesDoings_0 3 rfl
theorem dX12_finishesDoings_4 : decode cX12_finishesDoings 4 = .ok (.iload_n 3, 1) := dk_i kdX12_finishesDoings_0 4 rfl
theorem dX12_finishesDoings_5 : decode cX12_finishesDoings 5 = .ok (.aload_n 0, 1) := dk_i kdX12_finishesDoings_0 5 rfl
theorem dX12_finishesDoings_6 : decode cX12_finishesDoings 6 = .ok (.getfield 78, 3) := dk_i kdX12_finishesDoings_0 6 rfl
theorem dX12_finishesDoings_9 : decode cX12_finishesDoings 9 = .ok (.aload_n 0, 1) := dk_i kdX12_finishesDoings_0 7 rfl
theorem dX12_finishesDoings_10 : decode cX12_finishesDoings 10 = .ok (.getfield 51, 3) := dk_i kdX12_finishesDoings_0 8 rfl
theorem dX12_finishesDoings_13 : decode cX12_finishesDoings 13 = .ok (.iaload, 1) := dk_i kdX12_finishesDoings_0 9 rfl
theorem dX12_finishesDoings_14 : decode cX12_finishesDoings 14 = .ok (.if_icmp .ge 82, 3) := dk_i kdX12_finishesDoings_0 10 rfl
theorem dX12_finishesDoings_17 : decode cX12_finishesDoings 17 = .ok (.aload_n 0, 1) := dk_i kdX12_finishesDoings_0 11 rfl
theorem dX12_finishesDoings_18 : decode cX12_finishesDoings 18 = .ok (.getfield 165, 3) := dk_i kdX12_finishesDoings_0 12 rfl
theorem dX12_finishesDoings_21 : decode cX12_finishesDoings 21 = .ok (.iload_n 1, 1) := dk_i kdX12_finishesDoings_0 13 rfl
theorem dX12_finishesDoings_22 : decode cX12_finishesDoings 22 = .ok (.iaload, 1) := dk_i kdX12_finishesDoings_0 14 rfl
theorem dX12_finishesDoings_23 : decode cX12_finishesDoings 23 = .ok (.iload_n 3, 1) := dk_i kdX12_finishesDoings_0 15 rfl
def ldX12_finishesDoings_24 : List (Nat × ClassFile.Instr × Nat) := [(24, .invokestatic 347, 3), (27, .ifCond .ne 63, 3), (30, .aload_n 0, 1), (31, .iload_n 1, 1), (32, .aload_n 0, 1), (33, .getfield 81, 3), (36, .bipush 6, 2), (38, .aload_n 0, 1), (39, .getfield 51, 3), (42, .imul, 1), (43, .iload_n 3, 1), (44, .iadd, 1), (45, .iaload, 1), (46, .invokevirtual 449, 3), (49, .aload_n 0, 1), (50, .getfield 84, 3)]
theorem kdX12_finishesDoings_24 : dkO cX12_finishesDoings 24 ldX12_finishesDoings_24 = true := by decide +kernel
theorem dX12_finishesDoings_24 : decode cX12_finishesDoings 24 = .ok (.invokestatic 347, 3) := dk_i kdX12_finishesDoings_24 0 rfl
theorem dX12_finishesDoings_27 : decode cX12_finishesDoings 27 = .ok (.ifCond .ne 63, 3) := dk_i kdX12_finishesDoings_24 1 rfl
theorem dX12_finishesDoings_30 : decode cX12_finishesDoings 30 = .ok (.aload_n 0, 1) := dk_i kdX12_finishesDoings_24 2 rfl
theorem dX12_finishesDoings_31 : decode cX12_finishesDoings 31 = .ok (.iload_n 1, 1) := dk_i kdX12_finishesDoings_24 3 rfl
theorem dX12_finishesDoings_32 : decode cX12_finishesDoings 32 = .ok (.aload_n 0, 1) := dk_i kdX12_finishesDoings_24 4 rfl
theorem dX12_finishesDoings_33 : decode cX12_finishesDoings 33 = .ok (.getfield 81, 3) := dk_i kdX12_finishesDoings_24 5 rfl
theorem dX12_finishesDoings_36 : decode cX12_finishesDoings 36 = .ok (.bipush 6, 2) := dk_i kdX12_finishesDoings_24 6 rfl
theorem dX12_finishesDoings_38 : decode cX12_finishesDoings 38 = .ok (.aload_n 0, 1) := dk_i kdX12_finishesDoings_24 7 rfl
theorem dX12_finishesDoings_39 : decode cX12_finishesDoings 39 = .ok (.getfield 51, 3) := dk_i kdX12_finishesDoings_24 8 rfl
theorem dX12_finishesDoings_42 : decode cX12_finishesDoings 42 = .ok (.imul, 1) := dk_i kdX12_finishesDoings_24 9 rfl
theorem dX12_finishesDoings_43 : decode cX12_finishesDoings 43 = .ok (.iload_n 3, 1) := dk_i kdX12_finishesDoings_24 10 rfl
theorem dX12_finishesDoings_44 : decode cX12_finishesDoings 44 = .ok (.iadd, 1) := dk_i kdX12_finishesDoings_24 11 rfl
theorem dX12_finishesDoings_45 : decode cX12_finishesDoings 45 = .ok (.iaload, 1) := dk_i kdX12_finishesDoings_24 12 rfl
theorem dX12_finishesDoings_46 : decode cX12_finishesDoings 46 = .ok (.invokevirtual 449, 3) := dk_i kdX12_finishesDoings_24 13 rfl
theorem dX12_finishesDoings_49 : decode cX12_finishesDoings 49 = .ok (.aload_n 0, 1) := dk_i kdX12_finishesDoings_24 14 rfl
theorem dX12_finishesDoings_50 : decode cX12_finishesDoings 50 = .ok (.getfield 84, 3) := dk_i kdX12_finishesDoings_24 15 rfl
def ldX12_finishesDoings_53 : List (Nat × ClassFile.Instr × Nat) := [(53, .bipush 6, 2), (55, .aload_n 0, 1), (56, .getfield 51, 3), (59, .imul, 1), (60, .iload_n 3, 1), (61, .iadd, 1), (62, .iaload, 1), (63, .if_icmp .eq 6, 3), (66, .goto 24, 3), (69, .aload_n 0, 1), (70, .getfield 165, 3), (73, .iload_n 1, 1), (74, .dup2, 1), (75, .iaload, 1), (76, .iconst 1, 1), (77, .iload_n 3, 1)]
theorem kdX12_finishesDoings_53 : dkO cX12_finishesDoings 53 ldX12_finishesDoings_53 = true := by decide +kernel
theorem dX12_finishesDoings_53 : decode cX12_finishesDoings 53 = .ok (.bipush 6, 2) := dk_i kdX12_finishesDoings_53 0 rfl
theorem dX12_finishesDoings_55 : decode cX12_finishesDoings 55 = .ok (.aload_n 0, 1) := dk_i kdX12_finishesDoings_53 1 rfl
theorem dX12_finishesDoings_56 : decode cX12_finishesDoings 56 = .ok (.getfield 51, 3) := dk_i kdX12_finishesDoings_53 2 rfl
theorem dX12_finishesDoings_59 : decode cX12_finishesDoings 59 = .ok (.imul, 1) := dk_i kdX12_finishesDoings_53 3 rfl
theorem dX12_finishesDoings_60 : decode cX12_finishesDoings 60 = .ok (.iload_n 3, 1) := dk_i kdX12_finishesDoings_53 4 rfl
theorem dX12_finishesDoings_61 : decode cX12_finishesDoings 61 = .ok (.iadd, 1) := dk_i kdX12_finishesDoings_53 5 rfl
theorem dX12_finishesDoings_62 : decode cX12_finishesDoings 62 = .ok (.iaload, 1) := dk_i kdX12_finishesDoings_53 6 rfl
theorem dX12_finishesDoings_63 : decode cX12_finishesDoings 63 = .ok (.if_icmp .eq 6, 3) := dk_i kdX12_finishesDoings_53 7 rfl
theorem dX12_finishesDoings_66 : decode cX12_finishesDoings 66 = .ok (.goto 24, 3) := dk_i kdX12_finishesDoings_53 8 rfl
theorem dX12_finishesDoings_69 : decode cX12_finishesDoings 69 = .ok (.aload_n 0, 1) := dk_i kdX12_finishesDoings_53 9 rfl
theorem dX12_finishesDoings_70 : decode cX12_finishesDoings 70 = .ok (.getfield 165, 3) := dk_i kdX12_finishesDoings_53 10 rfl
theorem dX12_finishesDoings_73 : decode cX12_finishesDoings 73 = .ok (.iload_n 1, 1) := dk_i kdX12_finishesDoings_53 11 rfl
theorem dX12_finishesDoings_74 : decode cX12_finishesDoings 74 = .ok (.dup2, 1) := dk_i kdX12_finishesDoings_53 12 rfl
theorem dX12_finishesDoings_75 : decode cX12_finishesDoings 75 = .ok (.iaload, 1) := dk_i kdX12_finishesDoings_53 13 rfl
theorem dX12_finishesDoings_76 : decode cX12_finishesDoings 76 = .ok (.iconst 1, 1) := dk_i kdX12_finishesDoings_53 14 rfl
theorem dX12_finishesDoings_77 : decode cX12_finishesDoings 77 = .ok (.iload_n 3, 1) := dk_i kdX12_finishesDoings_53 15 rfl
def ldX12_finishesDoings_78 : List (Nat × ClassFile.Instr × Nat) := [(78, .ishl, 1), (79, .ior, 1), (80, .iastore, 1), (81, .aload_n 0, 1), (82, .iload_n 1, 1), (83, .iload_n 3, 1), (84, .invokevirtual 452, 3), (87, .iinc 2 1, 3), (90, .iinc 3 1, 3), (93, .goto (-89), 3), (96, .iload_n 2, 1), (97, .ireturn, 1)]
theorem kdX12_finishesDoings_78 : dkO cX12_finishesDoings 78 ldX12_finishesDoings_78 = true := by decide +kernel
theorem dX12_finishesDoings_78 : decode cX12_finishesDoings 78 = .ok (.ishl, 1) := dk_i kdX12_finishesDoings_78 0 rfl
theorem dX12_finishesDoings_79 : decode cX12_finishesDoings 79 = .ok (.ior, 1) := dk_i kdX12_finishesDoings_78 1 rfl
theorem dX12_finishesDoings_80 : decode cX12_finishesDoings 80 = .ok (.iastore, 1) := dk_i kdX12_finishesDoings_78 2 rfl
theorem dX12_finishesDoings_81 : decode cX12_finishesDoings 81 = .ok (.aload_n 0, 1) := dk_i kdX12_finishesDoings_78 3 rfl
theorem dX12_finishesDoings_82 : decode cX12_finishesDoings 82 = .ok (.iload_n 1, 1) := dk_i kdX12_finishesDoings_78 4 rfl
theorem dX12_finishesDoings_83 : decode cX12_finishesDoings 83 = .ok (.iload_n 3, 1) := dk_i kdX12_finishesDoings_78 5 rfl
theorem dX12_finishesDoings_84 : decode cX12_finishesDoings 84 = .ok (.invokevirtual 452, 3) := dk_i kdX12_finishesDoings_78 6 rfl
theorem dX12_finishesDoings_87 : decode cX12_finishesDoings 87 = .ok (.iinc 2 1, 3) := dk_i kdX12_finishesDoings_78 7 rfl
theorem dX12_finishesDoings_90 : decode cX12_finishesDoings 90 = .ok (.iinc 3 1, 3) := dk_i kdX12_finishesDoings_78 8 rfl
theorem dX12_finishesDoings_93 : decode cX12_finishesDoings 93 = .ok (.goto (-89), 3) := dk_i kdX12_finishesDoings_78 9 rfl
theorem dX12_finishesDoings_96 : decode cX12_finishesDoings 96 = .ok (.iload_n 2, 1) := dk_i kdX12_finishesDoings_78 10 rfl
theorem dX12_finishesDoings_97 : decode cX12_finishesDoings 97 = .ok (.ireturn, 1) := dk_i kdX12_finishesDoings_78 11 rfl
def ldX12_puts_0 : List (Nat × ClassFile.Instr × Nat) := [(0, .aload_n 0, 1), (1, .getfield 159, 3), (4, .iconst 5, 1), (5, .iload_n 1, 1), (6, .imul, 1), (7, .iload_n 2, 1), (8, .iadd, 1), (9, .iload_n 3, 1), (10, .iastore, 1), (11, .aload_n 0, 1), (12, .getfield 162, 3), (15, .iconst 5, 1), (16, .iload_n 1, 1), (17, .imul, 1), (18, .iload_n 2, 1), (19, .iadd, 1)]
theorem kdX12_puts_0 : dkO cX12_puts 0 ldX12_puts_0 = true := by decide +kernel
theorem dX12_puts_0 : decode cX12_puts 0 = .ok (.aload_n 0, 1) := dk_i kdX12_puts_0 0 rfl
theorem dX12_puts_1 : decode cX12_puts 1 = .ok (.getfield 159, 3) := dk_i kdX12_puts_0 1 rfl
theorem dX12_puts_4 : decode cX12_puts 4 = .ok (.iconst 5, 1) := dk_i kdX12_puts_0 2 rfl
theorem dX12_puts_5 : decode cX12_puts 5 = .ok (.iload_n 1, 1) := dk_i kdX12_puts_0 3 rfl
theorem dX12_puts_6 : decode cX12_puts 6 = .ok (.imul, 1) := dk_i kdX12_puts_0 4 rfl
theorem dX12_puts_7 : decode cX12_puts 7 = .ok (.iload_n 2, 1) := dk_i kdX12_puts_0 5 rfl
theorem dX12_puts_8 : decode cX12_puts 8 = .ok (.iadd, 1) := dk_i kdX12_puts_0 6 rfl
theorem dX12_puts_9 : decode cX12_puts 9 = .ok (.iload_n 3, 1) := dk_i kdX12_puts_0 7 rfl
theorem dX12_puts_10 : decode cX12_puts 10 = .ok (.iastore, 1) := dk_i kdX12_puts_0 8 rfl
theorem dX12_puts_11 : decode cX12_puts 11 = .ok (.aload_n 0, 1) := dk_i kdX12_puts_0 9 rfl
theorem dX12_puts_12 : decode cX12_puts 12 = .ok (.getfield 162, 3) := dk_i kdX12_puts_0 10 rfl
theorem dX12_puts_15 : decode cX12_puts 15 = .ok (.iconst 5, 1) := dk_i kdX12_puts_0 11 rfl
theorem dX12_puts_16 : decode cX12_puts 16 = .ok (.iload_n 1, 1) := dk_i kdX12_puts_0 12 rfl
theorem dX12_puts_17 : decode cX12_puts 17 = .ok (.imul, 1) := dk_i kdX12_puts_0 13 rfl
theorem dX12_puts_18 : decode cX12_puts 18 = .ok (.iload_n 2, 1) := dk_i kdX12_puts_0 14 rfl
theorem dX12_puts_19 : decode cX12_puts 19 = .ok (.iadd, 1) := dk_i kdX12_puts_0 15 rfl
def ldX12_puts_20 : List (Nat × ClassFile.Instr × Nat) := [(20, .iconst 0, 1), (21, .iastore, 1), (22, .return_, 1)]
theorem kdX12_puts_20 : dkO cX12_puts 20 ldX12_puts_20 = true := by decide +kernel
theorem dX12_puts_20 : decode cX12_puts 20 = .ok (.iconst 0, 1) := dk_i kdX12_puts_20 0 rfl
theorem dX12_puts_21 : decode cX12_puts 21 = .ok (.iastore, 1) := dk_i kdX12_puts_20 1 rfl
theorem dX12_puts_22 : decode cX12_puts 22 = .ok (.return_, 1) := dk_i kdX12_puts_20 2 rfl
def ldX12_isGone_0 : List (Nat × ClassFile.Instr × Nat) := [(0, .aload_n 0, 1), (1, .iload_n 1, 1), (2, .iload_n 2, 1), (3, .invokevirtual 437, 3), (6, .aload_n 0, 1), (7, .getfield 159, 3), (10, .iconst 5, 1), (11, .iload_n 1, 1), (12, .imul, 1), (13, .iload_n 2, 1), (14, .iadd, 1), (15, .iaload, 1), (16, .iconst (-1), 1), (17, .if_icmp .eq 44, 3), (20, .aload_n 0, 1), (21, .iconst 1, 1)]
theorem kdX12_isGone_0 : dkO cX12_isGone 0 ldX12_isGone_0 = true := by decide +kernel
theorem dX12_isGone_0 : decode cX12_isGone 0 = .ok (.aload_n 0, 1) := dk_i kdX12_isGone_0 0 rfl
theorem dX12_isGone_1 : decode cX12_isGone 1 = .ok (.iload_n 1, 1) := dk_i kdX12_isGone_0 1 rfl
theorem dX12_isGone_2 : decode cX12_isGone 2 = .ok (.iload_n 2, 1) := dk_i kdX12_isGone_0 2 rfl
theorem dX12_isGone_3 : decode cX12_isGone 3 = .ok (.invokevirtual 437, 3) := dk_i kdX12_isGone_0 3 rfl
theorem dX12_isGone_6 : decode cX12_isGone 6 = .ok (.aload_n 0, 1) := dk_i kdX12_isGone_0 4 rfl
theorem dX12_isGone_7 : decode cX12_isGone 7 = .ok (.getfield 159, 3) := dk_i kdX12_isGone_0 5 rfl
theorem dX12_isGone_10 : decode cX12_isGone 10 = .ok (.iconst 5, 1) := dk_i kdX12_isGone_0 6 rfl
theorem dX12_isGone_11 : decode cX12_isGone 11 = .ok (.iload_n 1, 1) := dk_i kdX12_isGone_0 7 rfl
theorem dX12_isGone_12 : decode cX12_isGone 12 = .ok (.imul, 1) := dk_i kdX12_isGone_0 8 rfl
theorem dX12_isGone_13 : decode cX12_isGone 13 = .ok (.iload_n 2, 1) := dk_i kdX12_isGone_0 9 rfl
theorem dX12_isGone_14 : decode cX12_isGone 14 = .ok (.iadd, 1) := dk_i kdX12_isGone_0 10 rfl
theorem dX12_isGone_15 : decode cX12_isGone 15 = .ok (.iaload, 1) := dk_i kdX12_isGone_0 11 rfl
theorem dX12_isGone_16 : decode cX12_isGone 16 = .ok (.iconst (-1), 1) := dk_i kdX12_isGone_0 12 rfl
theorem dX12_isGone_17 : decode cX12_isGone 17 = .ok (.if_icmp .eq 44, 3) := dk_i kdX12_isGone_0 13 rfl
theorem dX12_isGone_20 : decode cX12_isGone 20 = .ok (.aload_n 0, 1) := dk_i kdX12_isGone_0 14 rfl
theorem dX12_isGone_21 : decode cX12_isGone 21 = .ok (.iconst 1, 1) := dk_i kdX12_isGone_0 15 rfl
def ldX12_isGone_22 : List (Nat × ClassFile.Instr × Nat) := [(22, .invokevirtual 440, 3), (25, .ifCond .eq 16, 3), (28, .aload_n 0, 1), (29, .iconst 1, 1), (30, .invokevirtual 443, 3), (33, .lconst 1, 1), (34, .lcmp, 1), (35, .ifCond .ne 26, 3), (38, .goto 19, 3), (41, .aload_n 0, 1), (42, .getfield 186, 3), (45, .iconst 2, 1), (46, .iaload, 1), (47, .aload_n 0, 1), (48, .getfield 186, 3), (51, .bipush 6, 2)]
theorem kdX12_isGone_22 : dkO cX12_isGone 22 ldX12_isGone_22 = true := by decide +kernel
theorem dX12_isGone_22 : decode cX12_isGone 22 = .ok (.invokevirtual 440, 3) := dk_i kdX12_isGone_22 0 rfl
theorem dX12_isGone_25 : decode cX12_isGone 25 = .ok (.ifCond .eq 16, 3) := dk_i kdX12_isGone_22 1 rfl
theorem dX12_isGone_28 : decode cX12_isGone 28 = .ok (.aload_n 0, 1) := dk_i kdX12_isGone_22 2 rfl
theorem dX12_isGone_29 : decode cX12_isGone 29 = .ok (.iconst 1, 1) := dk_i kdX12_isGone_22 3 rfl
theorem dX12_isGone_30 : decode cX12_isGone 30 = .ok (.invokevirtual 443, 3) := dk_i kdX12_isGone_22 4 rfl
theorem dX12_isGone_33 : decode cX12_isGone 33 = .ok (.lconst 1, 1) := dk_i kdX12_isGone_22 5 rfl
theorem dX12_isGone_34 : decode cX12_isGone 34 = .ok (.lcmp, 1) := dk_i kdX12_isGone_22 6 rfl
theorem dX12_isGone_35 : decode cX12_isGone 35 = .ok (.ifCond .ne 26, 3) := dk_i kdX12_isGone_22 7 rfl
theorem dX12_isGone_38 : decode cX12_isGone 38 = .ok (.goto 19, 3) := dk_i kdX12_isGone_22 8 rfl
theorem dX12_isGone_41 : decode cX12_isGone 41 = .ok (.aload_n 0, 1) := dk_i kdX12_isGone_22 9 rfl
theorem dX12_isGone_42 : decode cX12_isGone 42 = .ok (.getfield 186, 3) := dk_i kdX12_isGone_22 10 rfl
theorem dX12_isGone_45 : decode cX12_isGone 45 = .ok (.iconst 2, 1) := dk_i kdX12_isGone_22 11 rfl
theorem dX12_isGone_46 : decode cX12_isGone 46 = .ok (.iaload, 1) := dk_i kdX12_isGone_22 12 rfl
theorem dX12_isGone_47 : decode cX12_isGone 47 = .ok (.aload_n 0, 1) := dk_i kdX12_isGone_22 13 rfl
theorem dX12_isGone_48 : decode cX12_isGone 48 = .ok (.getfield 186, 3) := dk_i kdX12_isGone_22 14 rfl
theorem dX12_isGone_51 : decode cX12_isGone 51 = .ok (.bipush 6, 2) := dk_i kdX12_isGone_22 15 rfl
def ldX12_isGone_53 : List (Nat × ClassFile.Instr × Nat) := [(53, .iaload, 1), (54, .if_icmp .lt 7, 3), (57, .iconst 1, 1), (58, .goto 4, 3), (61, .iconst 0, 1), (62, .ireturn, 1)]
theorem kdX12_isGone_53 : dkO cX12_isGone 53 ldX12_isGone_53 = true := by decide +kernel
theorem dX12_isGone_53 : decode cX12_isGone 53 = .ok (.iaload, 1) := dk_i kdX12_isGone_53 0 rfl
theorem dX12_isGone_54 : decode cX12_isGone 54 = .ok (.if_icmp .lt 7, 3) := dk_i kdX12_isGone_53 1 rfl
theorem dX12_isGone_57 : decode cX12_isGone 57 = .ok (.iconst 1, 1) := dk_i kdX12_isGone_53 2 rfl
theorem dX12_isGone_58 : decode cX12_isGone 58 = .ok (.goto 4, 3) := dk_i kdX12_isGone_53 3 rfl
theorem dX12_isGone_61 : decode cX12_isGone 61 = .ok (.iconst 0, 1) := dk_i kdX12_isGone_53 4 rfl
theorem dX12_isGone_62 : decode cX12_isGone 62 = .ok (.ireturn, 1) := dk_i kdX12_isGone_53 5 rfl
def ldX12_ticks_0 : List (Nat × ClassFile.Instr × Nat) := [(0, .aload_n 0, 1), (1, .getfield 156, 3), (4, .iload_n 1, 1), (5, .dup2, 1), (6, .iaload, 1), (7, .iconst 1, 1), (8, .iadd, 1), (9, .iastore, 1), (10, .iconst 0, 1), (11, .istore_n 2, 1), (12, .iload_n 2, 1), (13, .aload_n 0, 1), (14, .getfield 63, 3), (17, .aload_n 0, 1), (18, .getfield 51, 3), (21, .iaload, 1)]
theorem kdX12_ticks_0 : dkO cX12_ticks 0 ldX12_ticks_0 = true := by decide +kernel
theorem dX12_ticks_0 : decode cX12_ticks 0 = .ok (.aload_n 0, 1) := dk_i kdX12_ticks_0 0 rfl
theorem dX12_ticks_1 : decode cX12_ticks 1 = .ok (.getfield 156, 3) := dk_i kdX12_ticks_0 1 rfl
theorem dX12_ticks_4 : decode cX12_ticks 4 = .ok (.iload_n 1, 1) := dk_i kdX12_ticks_0 2 rfl
theorem dX12_ticks_5 : decode cX12_ticks 5 = .ok (.dup2, 1) := dk_i kdX12_ticks_0 3 rfl
theorem dX12_ticks_6 : decode cX12_ticks 6 = .ok (.iaload, 1) := dk_i kdX12_ticks_0 4 rfl
theorem dX12_ticks_7 : decode cX12_ticks 7 = .ok (.iconst 1, 1) := dk_i kdX12_ticks_0 5 rfl
theorem dX12_ticks_8 : decode cX12_ticks 8 = .ok (.iadd, 1) := dk_i kdX12_ticks_0 6 rfl
theorem dX12_ticks_9 : decode cX12_ticks 9 = .ok (.iastore, 1) := dk_i kdX12_ticks_0 7 rfl
theorem dX12_ticks_10 : decode cX12_ticks 10 = .ok (.iconst 0, 1) := dk_i kdX12_ticks_0 8 rfl
theorem dX12_ticks_11 : decode cX12_ticks 11 = .ok (.istore_n 2, 1) := dk_i kdX12_ticks_0 9 rfl
theorem dX12_ticks_12 : decode cX12_ticks 12 = .ok (.iload_n 2, 1) := dk_i kdX12_ticks_0 10 rfl
theorem dX12_ticks_13 : decode cX12_ticks 13 = .ok (.aload_n 0, 1) := dk_i kdX12_ticks_0 11 rfl
theorem dX12_ticks_14 : decode cX12_ticks 14 = .ok (.getfield 63, 3) := dk_i kdX12_ticks_0 12 rfl
theorem dX12_ticks_17 : decode cX12_ticks 17 = .ok (.aload_n 0, 1) := dk_i kdX12_ticks_0 13 rfl
theorem dX12_ticks_18 : decode cX12_ticks 18 = .ok (.getfield 51, 3) := dk_i kdX12_ticks_0 14 rfl
theorem dX12_ticks_21 : decode cX12_ticks 21 = .ok (.iaload, 1) := dk_i kdX12_ticks_0 15 rfl
def ldX12_ticks_22 : List (Nat × ClassFile.Instr × Nat) := [(22, .if_icmp .ge 55, 3), (25, .aload_n 0, 1), (26, .getfield 162, 3), (29, .iconst 5, 1), (30, .iload_n 1, 1), (31, .imul, 1), (32, .iload_n 2, 1), (33, .iadd, 1), (34, .iaload, 1), (35, .sipush 999, 3), (38, .if_icmp .ge 17, 3), (41, .aload_n 0, 1), (42, .getfield 162, 3), (45, .iconst 5, 1), (46, .iload_n 1, 1), (47, .imul, 1)]
theorem kdX12_ticks_22 : dkO cX12_ticks 22 ldX12_ticks_22 = true := by decide +kernel
theorem dX12_ticks_22 : decode cX12_ticks 22 = .ok (.if_icmp .ge 55, 3) := dk_i kdX12_ticks_22 0 rfl
theorem dX12_ticks_25 : decode cX12_ticks 25 = .ok (.aload_n 0, 1) := dk_i kdX12_ticks_22 1 rfl
theorem dX12_ticks_26 : decode cX12_ticks 26 = .ok (.getfield 162, 3) := dk_i kdX12_ticks_22 2 rfl
theorem dX12_ticks_29 : decode cX12_ticks 29 = .ok (.iconst 5, 1) := dk_i kdX12_ticks_22 3 rfl
theorem dX12_ticks_30 : decode cX12_ticks 30 = .ok (.iload_n 1, 1) := dk_i kdX12_ticks_22 4 rfl
theorem dX12_ticks_31 : decode cX12_ticks 31 = .ok (.imul, 1) := dk_i kdX12_ticks_22 5 rfl
theorem dX12_ticks_32 : decode cX12_ticks 32 = .ok (.iload_n 2, 1) := dk_i kdX12_ticks_22 6 rfl
theorem dX12_ticks_33 : decode cX12_ticks 33 = .ok (.iadd, 1) := dk_i kdX12_ticks_22 7 rfl
theorem dX12_ticks_34 : decode cX12_ticks 34 = .ok (.iaload, 1) := dk_i kdX12_ticks_22 8 rfl
theorem dX12_ticks_35 : decode cX12_ticks 35 = .ok (.sipush 999, 3) := dk_i kdX12_ticks_22 9 rfl
theorem dX12_ticks_38 : decode cX12_ticks 38 = .ok (.if_icmp .ge 17, 3) := dk_i kdX12_ticks_22 10 rfl
theorem dX12_ticks_41 : decode cX12_ticks 41 = .ok (.aload_n 0, 1) := dk_i kdX12_ticks_22 11 rfl
theorem dX12_ticks_42 : decode cX12_ticks 42 = .ok (.getfield 162, 3) := dk_i kdX12_ticks_22 12 rfl
theorem dX12_ticks_45 : decode cX12_ticks 45 = .ok (.iconst 5, 1) := dk_i kdX12_ticks_22 13 rfl
theorem dX12_ticks_46 : decode cX12_ticks 46 = .ok (.iload_n 1, 1) := dk_i kdX12_ticks_22 14 rfl
theorem dX12_ticks_47 : decode cX12_ticks 47 = .ok (.imul, 1) := dk_i kdX12_ticks_22 15 rfl
def ldX12_ticks_48 : List (Nat × ClassFile.Instr × Nat) := [(48, .iload_n 2, 1), (49, .iadd, 1), (50, .dup2, 1), (51, .iaload, 1), (52, .iconst 1, 1), (53, .iadd, 1), (54, .iastore, 1), (55, .aload_n 0, 1), (56, .iload_n 1, 1), (57, .iload_n 2, 1), (58, .invokevirtual 455, 3), (61, .ifCond .eq 10, 3), (64, .aload_n 0, 1), (65, .iload_n 1, 1), (66, .iload_n 2, 1), (67, .iconst (-1), 1)]
theorem kdX12_ticks_48 : dkO cX12_ticks 48 ldX12_ticks_48 = true := by decide +kernel
theorem dX12_ticks_48 : decode cX12_ticks 48 = .ok (.iload_n 2, 1) := dk_i kdX12_ticks_48 0 rfl
theorem dX12_ticks_49 : decode cX12_ticks 49 = .ok (.iadd, 1) := dk_i kdX12_ticks_48 1 rfl
theorem dX12_ticks_50 : decode cX12_ticks 50 = .ok (.dup2, 1) := dk_i kdX12_ticks_48 2 rfl
theorem dX12_ticks_51 : decode cX12_ticks 51 = .ok (.iaload, 1) := dk_i kdX12_ticks_48 3 rfl
theorem dX12_ticks_52 : decode cX12_ticks 52 = .ok (.iconst 1, 1) := dk_i kdX12_ticks_48 4 rfl
theorem dX12_ticks_53 : decode cX12_ticks 53 = .ok (.iadd, 1) := dk_i kdX12_ticks_48 5 rfl
theorem dX12_ticks_54 : decode cX12_ticks 54 = .ok (.iastore, 1) := dk_i kdX12_ticks_48 6 rfl
theorem dX12_ticks_55 : decode cX12_ticks 55 = .ok (.aload_n 0, 1) := dk_i kdX12_ticks_48 7 rfl
theorem dX12_ticks_56 : decode cX12_ticks 56 = .ok (.iload_n 1, 1) := dk_i kdX12_ticks_48 8 rfl
theorem dX12_ticks_57 : decode cX12_ticks 57 = .ok (.iload_n 2, 1) := dk_i kdX12_ticks_48 9 rfl
theorem dX12_ticks_58 : decode cX12_ticks 58 = .ok (.invokevirtual 455, 3) := dk_i kdX12_ticks_48 10 rfl
theorem dX12_ticks_61 : decode cX12_ticks 61 = .ok (.ifCond .eq 10, 3) := dk_i kdX12_ticks_48 11 rfl
theorem dX12_ticks_64 : decode cX12_ticks 64 = .ok (.aload_n 0, 1) := dk_i kdX12_ticks_48 12 rfl
theorem dX12_ticks_65 : decode cX12_ticks 65 = .ok (.iload_n 1, 1) := dk_i kdX12_ticks_48 13 rfl
theorem dX12_ticks_66 : decode cX12_ticks 66 = .ok (.iload_n 2, 1) := dk_i kdX12_ticks_48 14 rfl
theorem dX12_ticks_67 : decode cX12_ticks 67 = .ok (.iconst (-1), 1) := dk_i kdX12_ticks_48 15 rfl
def ldX12_ticks_68 : List (Nat × ClassFile.Instr × Nat) := [(68, .invokevirtual 457, 3), (71, .iinc 2 1, 3), (74, .goto (-62), 3), (77, .return_, 1)]
theorem kdX12_ticks_68 : dkO cX12_ticks 68 ldX12_ticks_68 = true := by decide +kernel
theorem dX12_ticks_68 : decode cX12_ticks 68 = .ok (.invokevirtual 457, 3) := dk_i kdX12_ticks_68 0 rfl
theorem dX12_ticks_71 : decode cX12_ticks 71 = .ok (.iinc 2 1, 3) := dk_i kdX12_ticks_68 1 rfl
theorem dX12_ticks_74 : decode cX12_ticks 74 = .ok (.goto (-62), 3) := dk_i kdX12_ticks_68 2 rfl
theorem dX12_ticks_77 : decode cX12_ticks 77 = .ok (.return_, 1) := dk_i kdX12_ticks_68 3 rfl
def ldX12_passes_0 : List (Nat × ClassFile.Instr × Nat) := [(0, .aload_n 0, 1), (1, .iload_n 1, 1), (2, .invokevirtual 461, 3), (5, .aload_n 0, 1), (6, .iload_n 1, 1), (7, .invokevirtual 412, 3), (10, .ireturn, 1)]
theorem kdX12_passes_0 : dkO cX12_passes 0 ldX12_passes_0 = true := by decide +kernel
theorem dX12_passes_0 : decode cX12_passes 0 = .ok (.aload_n 0, 1) := dk_i kdX12_passes_0 0 rfl
theorem dX12_passes_1 : decode cX12_passes 1 = .ok (.iload_n 1, 1) := dk_i kdX12_passes_0 1 rfl
theorem dX12_passes_2 : decode cX12_passes 2 = .ok (.invokevirtual 461, 3) := dk_i kdX12_passes_0 2 rfl
theorem dX12_passes_5 : decode cX12_passes 5 = .ok (.aload_n 0, 1) := dk_i kdX12_passes_0 3 rfl
theorem dX12_passes_6 : decode cX12_passes 6 = .ok (.iload_n 1, 1) := dk_i kdX12_passes_0 4 rfl
theorem dX12_passes_7 : decode cX12_passes 7 = .ok (.invokevirtual 412, 3) := dk_i kdX12_passes_0 5 rfl
theorem dX12_passes_10 : decode cX12_passes 10 = .ok (.ireturn, 1) := dk_i kdX12_passes_0 6 rfl
def ldX12_bits_0 : List (Nat × ClassFile.Instr × Nat) := [(0, .iconst 0, 1), (1, .istore_n 1, 1), (2, .iload_n 0, 1), (3, .istore_n 2, 1), (4, .iload_n 2, 1), (5, .ifCond .eq 15, 3), (8, .iinc 1 1, 3), (11, .iload_n 2, 1), (12, .iload_n 2, 1), (13, .iconst 1, 1), (14, .isub, 1), (15, .iand, 1), (16, .istore_n 2, 1), (17, .goto (-13), 3), (20, .iload_n 1, 1), (21, .ireturn, 1)]
theorem kdX12_bits_0 : dkO cX12_bits 0 ldX12_bits_0 = true := by decide +kernel
theorem dX12_bits_0 : decode cX12_bits 0 = .ok (.iconst 0, 1) := dk_i kdX12_bits_0 0 rfl
theorem dX12_bits_1 : decode cX12_bits 1 = .ok (.istore_n 1, 1) := dk_i kdX12_bits_0 1 rfl
theorem dX12_bits_2 : decode cX12_bits 2 = .ok (.iload_n 0, 1) := dk_i kdX12_bits_0 2 rfl
theorem dX12_bits_3 : decode cX12_bits 3 = .ok (.istore_n 2, 1) := dk_i kdX12_bits_0 3 rfl
theorem dX12_bits_4 : decode cX12_bits 4 = .ok (.iload_n 2, 1) := dk_i kdX12_bits_0 4 rfl
theorem dX12_bits_5 : decode cX12_bits 5 = .ok (.ifCond .eq 15, 3) := dk_i kdX12_bits_0 5 rfl
theorem dX12_bits_8 : decode cX12_bits 8 = .ok (.iinc 1 1, 3) := dk_i kdX12_bits_0 6 rfl
theorem dX12_bits_11 : decode cX12_bits 11 = .ok (.iload_n 2, 1) := dk_i kdX12_bits_0 7 rfl
theorem dX12_bits_12 : decode cX12_bits 12 = .ok (.iload_n 2, 1) := dk_i kdX12_bits_0 8 rfl
theorem dX12_bits_13 : decode cX12_bits 13 = .ok (.iconst 1, 1) := dk_i kdX12_bits_0 9 rfl
theorem dX12_bits_14 : decode cX12_bits 14 = .ok (.isub, 1) := dk_i kdX12_bits_0 10 rfl
theorem dX12_bits_15 : decode cX12_bits 15 = .ok (.iand, 1) := dk_i kdX12_bits_0 11 rfl
theorem dX12_bits_16 : decode cX12_bits 16 = .ok (.istore_n 2, 1) := dk_i kdX12_bits_0 12 rfl
theorem dX12_bits_17 : decode cX12_bits 17 = .ok (.goto (-13), 3) := dk_i kdX12_bits_0 13 rfl
theorem dX12_bits_20 : decode cX12_bits 20 = .ok (.iload_n 1, 1) := dk_i kdX12_bits_0 14 rfl
theorem dX12_bits_21 : decode cX12_bits 21 = .ok (.ireturn, 1) := dk_i kdX12_bits_0 15 rfl
def ldX12_isThing_0 : List (Nat × ClassFile.Instr × Nat) := [(0, .iload_n 1, 1), (1, .ifCond .lt 20, 3), (4, .iload_n 1, 1), (5, .aload_n 0, 1), (6, .getfield 54, 3), (9, .aload_n 0, 1), (10, .getfield 51, 3), (13, .iaload, 1), (14, .if_icmp .ge 7, 3), (17, .iconst 1, 1), (18, .goto 4, 3), (21, .iconst 0, 1), (22, .ireturn, 1)]
theorem kdX12_isThing_0 : dkO cX12_isThing 0 ldX12_isThing_0 = true := by decide +kernel
theorem dX12_isThing_0 : decode cX12_isThing 0 = .ok (.iload_n 1, 1) := dk_i kdX12_isThing_0 0 rfl
theorem dX12_isThing_1 : decode cX12_isThing 1 = .ok (.ifCond .lt 20, 3) := dk_i kdX12_isThing_0 1 rfl
theorem dX12_isThing_4 : decode cX12_isThing 4 = .ok (.iload_n 1, 1) := dk_i kdX12_isThing_0 2 rfl
theorem dX12_isThing_5 : decode cX12_isThing 5 = .ok (.aload_n 0, 1) := dk_i kdX12_isThing_0 3 rfl
theorem dX12_isThing_6 : decode cX12_isThing 6 = .ok (.getfield 54, 3) := dk_i kdX12_isThing_0 4 rfl
theorem dX12_isThing_9 : decode cX12_isThing 9 = .ok (.aload_n 0, 1) := dk_i kdX12_isThing_0 5 rfl
theorem dX12_isThing_10 : decode cX12_isThing 10 = .ok (.getfield 51, 3) := dk_i kdX12_isThing_0 6 rfl
theorem dX12_isThing_13 : decode cX12_isThing 13 = .ok (.iaload, 1) := dk_i kdX12_isThing_0 7 rfl
theorem dX12_isThing_14 : decode cX12_isThing 14 = .ok (.if_icmp .ge 7, 3) := dk_i kdX12_isThing_0 8 rfl
theorem dX12_isThing_17 : decode cX12_isThing 17 = .ok (.iconst 1, 1) := dk_i kdX12_isThing_0 9 rfl
theorem dX12_isThing_18 : decode cX12_isThing 18 = .ok (.goto 4, 3) := dk_i kdX12_isThing_0 10 rfl
theorem dX12_isThing_21 : decode cX12_isThing 21 = .ok (.iconst 0, 1) := dk_i kdX12_isThing_0 11 rfl
theorem dX12_isThing_22 : decode cX12_isThing 22 = .ok (.ireturn, 1) := dk_i kdX12_isThing_0 12 rfl
def ldX12_isCorner_0 : List (Nat × ClassFile.Instr × Nat) := [(0, .iload_n 1, 1), (1, .ifCond .lt 20, 3), (4, .iload_n 1, 1), (5, .aload_n 0, 1), (6, .getfield 63, 3), (9, .aload_n 0, 1), (10, .getfield 51, 3), (13, .iaload, 1), (14, .if_icmp .ge 7, 3), (17, .iconst 1, 1), (18, .goto 4, 3), (21, .iconst 0, 1), (22, .ireturn, 1)]
theorem kdX12_isCorner_0 : dkO cX12_isCorner 0 ldX12_isCorner_0 = true := by decide +kernel
theorem dX12_isCorner_0 : decode cX12_isCorner 0 = .ok (.iload_n 1, 1) := dk_i kdX12_isCorner_0 0 rfl
theorem dX12_isCorner_1 : decode cX12_isCorner 1 = .ok (.ifCond .lt 20, 3) := dk_i kdX12_isCorner_0 1 rfl
theorem dX12_isCorner_4 : decode cX12_isCorner 4 = .ok (.iload_n 1, 1) := dk_i kdX12_isCorner_0 2 rfl
theorem dX12_isCorner_5 : decode cX12_isCorner 5 = .ok (.aload_n 0, 1) := dk_i kdX12_isCorner_0 3 rfl
theorem dX12_isCorner_6 : decode cX12_isCorner 6 = .ok (.getfield 63, 3) := dk_i kdX12_isCorner_0 4 rfl
theorem dX12_isCorner_9 : decode cX12_isCorner 9 = .ok (.aload_n 0, 1) := dk_i kdX12_isCorner_0 5 rfl
theorem dX12_isCorner_10 : decode cX12_isCorner 10 = .ok (.getfield 51, 3) := dk_i kdX12_isCorner_0 6 rfl
theorem dX12_isCorner_13 : decode cX12_isCorner 13 = .ok (.iaload, 1) := dk_i kdX12_isCorner_0 7 rfl
theorem dX12_isCorner_14 : decode cX12_isCorner 14 = .ok (.if_icmp .ge 7, 3) := dk_i kdX12_isCorner_0 8 rfl
theorem dX12_isCorner_17 : decode cX12_isCorner 17 = .ok (.iconst 1, 1) := dk_i kdX12_isCorner_0 9 rfl
theorem dX12_isCorner_18 : decode cX12_isCorner 18 = .ok (.goto 4, 3) := dk_i kdX12_isCorner_0 10 rfl
theorem dX12_isCorner_21 : decode cX12_isCorner 21 = .ok (.iconst 0, 1) := dk_i kdX12_isCorner_0 11 rfl
theorem dX12_isCorner_22 : decode cX12_isCorner 22 = .ok (.ireturn, 1) := dk_i kdX12_isCorner_0 12 rfl
def ldX12_isDoing_0 : List (Nat × ClassFile.Instr × Nat) := [(0, .iload_n 1, 1), (1, .ifCond .lt 20, 3), (4, .iload_n 1, 1), (5, .aload_n 0, 1), (6, .getfield 78, 3), (9, .aload_n 0, 1), (10, .getfield 51, 3), (13, .iaload, 1), (14, .if_icmp .ge 7, 3), (17, .iconst 1, 1), (18, .goto 4, 3), (21, .iconst 0, 1), (22, .ireturn, 1)]
theorem kdX12_isDoing_0 : dkO cX12_isDoing 0 ldX12_isDoing_0 = true := by decide +kernel
theorem dX12_isDoing_0 : decode cX12_isDoing 0 = .ok (.iload_n 1, 1) := dk_i kdX12_isDoing_0 0 rfl
theorem dX12_isDoing_1 : decode cX12_isDoing 1 = .ok (.ifCond .lt 20, 3) := dk_i kdX12_isDoing_0 1 rfl
theorem dX12_isDoing_4 : decode cX12_isDoing 4 = .ok (.iload_n 1, 1) := dk_i kdX12_isDoing_0 2 rfl
theorem dX12_isDoing_5 : decode cX12_isDoing 5 = .ok (.aload_n 0, 1) := dk_i kdX12_isDoing_0 3 rfl
theorem dX12_isDoing_6 : decode cX12_isDoing 6 = .ok (.getfield 78, 3) := dk_i kdX12_isDoing_0 4 rfl
theorem dX12_isDoing_9 : decode cX12_isDoing 9 = .ok (.aload_n 0, 1) := dk_i kdX12_isDoing_0 5 rfl
theorem dX12_isDoing_10 : decode cX12_isDoing 10 = .ok (.getfield 51, 3) := dk_i kdX12_isDoing_0 6 rfl
theorem dX12_isDoing_13 : decode cX12_isDoing 13 = .ok (.iaload, 1) := dk_i kdX12_isDoing_0 7 rfl
theorem dX12_isDoing_14 : decode cX12_isDoing 14 = .ok (.if_icmp .ge 7, 3) := dk_i kdX12_isDoing_0 8 rfl
theorem dX12_isDoing_17 : decode cX12_isDoing 17 = .ok (.iconst 1, 1) := dk_i kdX12_isDoing_0 9 rfl
theorem dX12_isDoing_18 : decode cX12_isDoing 18 = .ok (.goto 4, 3) := dk_i kdX12_isDoing_0 10 rfl
theorem dX12_isDoing_21 : decode cX12_isDoing 21 = .ok (.iconst 0, 1) := dk_i kdX12_isDoing_0 11 rfl
theorem dX12_isDoing_22 : decode cX12_isDoing 22 = .ok (.ireturn, 1) := dk_i kdX12_isDoing_0 12 rfl
def ldX12_has_0 : List (Nat × ClassFile.Instr × Nat) := [(0, .iconst 0, 1), (1, .istore_n 2, 1), (2, .iload_n 1, 1), (3, .tableswitch 178 0 10 #[57, 67, 77, 87, 97, 104, 114, 155, 162, 167, 172], 57), (60, .aload_n 0, 1), (61, .getfield 54, 3), (64, .aload_n 0, 1), (65, .getfield 51, 3), (68, .iaload, 1), (69, .ireturn, 1), (70, .aload_n 0, 1), (71, .getfield 63, 3), (74, .aload_n 0, 1), (75, .getfield 51, 3), (78, .iaload, 1), (79, .ireturn, 1)]
theorem kdX12_has_0 : dkO cX12_has 0 ldX12_has_0 = true := by decide +kernel
theorem dX12_has_0 : decode cX12_has 0 = .ok (.iconst 0, 1) := dk_i kdX12_has_0 0 rfl
theorem dX12_has_1 : decode cX12_has 1 = .ok (.istore_n 2, 1) := dk_i kdX12_has_0 1 rfl
theorem dX12_has_2 : decode cX12_has 2 = .ok (.iload_n 1, 1) := dk_i kdX12_has_0 2 rfl
theorem dX12_has_3 : decode cX12_has 3 = .ok (.tableswitch 178 0 10 #[57, 67, 77, 87, 97, 104, 114, 155, 162, 167, 172], 57) := dk_i kdX12_has_0 3 rfl
theorem dX12_has_60 : decode cX12_has 60 = .ok (.aload_n 0, 1) := dk_i kdX12_has_0 4 rfl
theorem dX12_has_61 : decode cX12_has 61 = .ok (.getfield 54, 3) := dk_i kdX12_has_0 5 rfl
theorem dX12_has_64 : decode cX12_has 64 = .ok (.aload_n 0, 1) := dk_i kdX12_has_0 6 rfl
theorem dX12_has_65 : decode cX12_has 65 = .ok (.getfield 51, 3) := dk_i kdX12_has_0 7 rfl
theorem dX12_has_68 : decode cX12_has 68 = .ok (.iaload, 1) := dk_i kdX12_has_0 8 rfl
theorem dX12_has_69 : decode cX12_has 69 = .ok (.ireturn, 1) := dk_i kdX12_has_0 9 rfl
theorem dX12_has_70 : decode cX12_has 70 = .ok (.aload_n 0, 1) := dk_i kdX12_has_0 10 rfl
theorem dX12_has_71 : decode cX12_has 71 = .ok (.getfield 63, 3) := dk_i kdX12_has_0 11 rfl
theorem dX12_has_74 : decode cX12_has 74 = .ok (.aload_n 0, 1) := dk_i kdX12_has_0 12 rfl
theorem dX12_has_75 : decode cX12_has 75 = .ok (.getfield 51, 3) := dk_i kdX12_has_0 13 rfl
theorem dX12_has_78 : decode cX12_has 78 = .ok (.iaload, 1) := dk_i kdX12_has_0 14 rfl
theorem dX12_has_79 : decode cX12_has 79 = .ok (.ireturn, 1) := dk_i kdX12_has_0 15 rfl
def ldX12_has_80 : List (Nat × ClassFile.Instr × Nat) := [(80, .aload_n 0, 1), (81, .getfield 69, 3), (84, .aload_n 0, 1), (85, .getfield 51, 3), (88, .iaload, 1), (89, .ireturn, 1), (90, .aload_n 0, 1), (91, .getfield 78, 3), (94, .aload_n 0, 1), (95, .getfield 51, 3), (98, .iaload, 1), (99, .ireturn, 1), (100, .aload_n 0, 1), (101, .getfield 156, 3), (104, .iconst 0, 1), (105, .iaload, 1)]
theorem kdX12_has_80 : dkO cX12_has 80 ldX12_has_80 = true := by decide +kernel
theorem dX12_has_80 : decode cX12_has 80 = .ok (.aload_n 0, 1) := dk_i kdX12_has_80 0 rfl
theorem dX12_has_81 : decode cX12_has 81 = .ok (.getfield 69, 3) := dk_i kdX12_has_80 1 rfl
theorem dX12_has_84 : decode cX12_has 84 = .ok (.aload_n 0, 1) := dk_i kdX12_has_80 2 rfl
theorem dX12_has_85 : decode cX12_has 85 = .ok (.getfield 51, 3) := dk_i kdX12_has_80 3 rfl
theorem dX12_has_88 : decode cX12_has 88 = .ok (.iaload, 1) := dk_i kdX12_has_80 4 rfl
theorem dX12_has_89 : decode cX12_has 89 = .ok (.ireturn, 1) := dk_i kdX12_has_80 5 rfl
theorem dX12_has_90 : decode cX12_has 90 = .ok (.aload_n 0, 1) := dk_i kdX12_has_80 6 rfl
theorem dX12_has_91 : decode cX12_has 91 = .ok (.getfield 78, 3) := dk_i kdX12_has_80 7 rfl
theorem dX12_has_94 : decode cX12_has 94 = .ok (.aload_n 0, 1) := dk_i kdX12_has_80 8 rfl
theorem dX12_has_95 : decode cX12_has 95 = .ok (.getfield 51, 3) := dk_i kdX12_has_80 9 rfl
theorem dX12_has_98 : decode cX12_has 98 = .ok (.iaload, 1) := dk_i kdX12_has_80 10 rfl
theorem dX12_has_99 : decode cX12_has 99 = .ok (.ireturn, 1) := dk_i kdX12_has_80 11 rfl
theorem dX12_has_100 : decode cX12_has 100 = .ok (.aload_n 0, 1) := dk_i kdX12_has_80 12 rfl
theorem dX12_has_101 : decode cX12_has 101 = .ok (.getfield 156, 3) := dk_i kdX12_has_80 13 rfl
theorem dX12_has_104 : decode cX12_has 104 = .ok (.iconst 0, 1) := dk_i kdX12_has_80 14 rfl
theorem dX12_has_105 : decode cX12_has 105 = .ok (.iaload, 1) := dk_i kdX12_has_80 15 rfl
def ldX12_has_106 : List (Nat × ClassFile.Instr × Nat) := [(106, .ireturn, 1), (107, .aload_n 0, 1), (108, .getfield 165, 3), (111, .iconst 0, 1), (112, .iaload, 1), (113, .invokestatic 464, 3), (116, .ireturn, 1), (117, .iconst 0, 1), (118, .istore_n 3, 1), (119, .iload_n 3, 1), (120, .aload_n 0, 1), (121, .getfield 63, 3), (124, .aload_n 0, 1), (125, .getfield 51, 3), (128, .iaload, 1), (129, .if_icmp .ge 27, 3)]
theorem kdX12_has_106 : dkO cX12_has 106 ldX12_has_106 = true := by decide +kernel
theorem dX12_has_106 : decode cX12_has 106 = .ok (.ireturn, 1) := dk_i kdX12_has_106 0 rfl
theorem dX12_has_107 : decode cX12_has 107 = .ok (.aload_n 0, 1) := dk_i kdX12_has_106 1 rfl
theorem dX12_has_108 : decode cX12_has 108 = .ok (.getfield 165, 3) := dk_i kdX12_has_106 2 rfl
theorem dX12_has_111 : decode cX12_has 111 = .ok (.iconst 0, 1) := dk_i kdX12_has_106 3 rfl
theorem dX12_has_112 : decode cX12_has 112 = .ok (.iaload, 1) := dk_i kdX12_has_106 4 rfl
theorem dX12_has_113 : decode cX12_has 113 = .ok (.invokestatic 464, 3) := dk_i kdX12_has_106 5 rfl
theorem dX12_has_116 : decode cX12_has 116 = .ok (.ireturn, 1) := dk_i kdX12_has_106 6 rfl
theorem dX12_has_117 : decode cX12_has 117 = .ok (.iconst 0, 1) := dk_i kdX12_has_106 7 rfl
theorem dX12_has_118 : decode cX12_has 118 = .ok (.istore_n 3, 1) := dk_i kdX12_has_106 8 rfl
theorem dX12_has_119 : decode cX12_has 119 = .ok (.iload_n 3, 1) := dk_i kdX12_has_106 9 rfl
theorem dX12_has_120 : decode cX12_has 120 = .ok (.aload_n 0, 1) := dk_i kdX12_has_106 10 rfl
theorem dX12_has_121 : decode cX12_has 121 = .ok (.getfield 63, 3) := dk_i kdX12_has_106 11 rfl
theorem dX12_has_124 : decode cX12_has 124 = .ok (.aload_n 0, 1) := dk_i kdX12_has_106 12 rfl
theorem dX12_has_125 : decode cX12_has 125 = .ok (.getfield 51, 3) := dk_i kdX12_has_106 13 rfl
theorem dX12_has_128 : decode cX12_has 128 = .ok (.iaload, 1) := dk_i kdX12_has_106 14 rfl
theorem dX12_has_129 : decode cX12_has 129 = .ok (.if_icmp .ge 27, 3) := dk_i kdX12_has_106 15 rfl
def ldX12_has_132 : List (Nat × ClassFile.Instr × Nat) := [(132, .iload_n 2, 1), (133, .aload_n 0, 1), (134, .getfield 159, 3), (137, .iload_n 3, 1), (138, .iaload, 1), (139, .iconst (-1), 1), (140, .if_icmp .ne 7, 3), (143, .iconst 1, 1), (144, .goto 4, 3), (147, .iconst 0, 1), (148, .iadd, 1), (149, .istore_n 2, 1), (150, .iinc 3 1, 3), (153, .goto (-34), 3), (156, .iload_n 2, 1), (157, .ireturn, 1)]
theorem kdX12_has_132 : dkO cX12_has 132 ldX12_has_132 = true := by decide +kernel
theorem dX12_has_132 : decode cX12_has 132 = .ok (.iload_n 2, 1) := dk_i kdX12_has_132 0 rfl
theorem dX12_has_133 : decode cX12_has 133 = .ok (.aload_n 0, 1) := dk_i kdX12_has_132 1 rfl
theorem dX12_has_134 : decode cX12_has 134 = .ok (.getfield 159, 3) := dk_i kdX12_has_132 2 rfl
theorem dX12_has_137 : decode cX12_has 137 = .ok (.iload_n 3, 1) := dk_i kdX12_has_132 3 rfl
theorem dX12_has_138 : decode cX12_has 138 = .ok (.iaload, 1) := dk_i kdX12_has_132 4 rfl
theorem dX12_has_139 : decode cX12_has 139 = .ok (.iconst (-1), 1) := dk_i kdX12_has_132 5 rfl
theorem dX12_has_140 : decode cX12_has 140 = .ok (.if_icmp .ne 7, 3) := dk_i kdX12_has_132 6 rfl
theorem dX12_has_143 : decode cX12_has 143 = .ok (.iconst 1, 1) := dk_i kdX12_has_132 7 rfl
theorem dX12_has_144 : decode cX12_has 144 = .ok (.goto 4, 3) := dk_i kdX12_has_132 8 rfl
theorem dX12_has_147 : decode cX12_has 147 = .ok (.iconst 0, 1) := dk_i kdX12_has_132 9 rfl
theorem dX12_has_148 : decode cX12_has 148 = .ok (.iadd, 1) := dk_i kdX12_has_132 10 rfl
theorem dX12_has_149 : decode cX12_has 149 = .ok (.istore_n 2, 1) := dk_i kdX12_has_132 11 rfl
theorem dX12_has_150 : decode cX12_has 150 = .ok (.iinc 3 1, 3) := dk_i kdX12_has_132 12 rfl
theorem dX12_has_153 : decode cX12_has 153 = .ok (.goto (-34), 3) := dk_i kdX12_has_132 13 rfl
theorem dX12_has_156 : decode cX12_has 156 = .ok (.iload_n 2, 1) := dk_i kdX12_has_132 14 rfl
theorem dX12_has_157 : decode cX12_has 157 = .ok (.ireturn, 1) := dk_i kdX12_has_132 15 rfl
def ldX12_has_158 : List (Nat × ClassFile.Instr × Nat) := [(158, .aload_n 0, 1), (159, .getfield 168, 3), (162, .iconst 0, 1), (163, .iaload, 1), (164, .ireturn, 1), (165, .aload_n 0, 1), (166, .getfield 198, 3), (169, .ireturn, 1), (170, .aload_n 0, 1), (171, .getfield 177, 3), (174, .ireturn, 1), (175, .aload_n 0, 1), (176, .getfield 180, 3), (179, .l2i, 1), (180, .ireturn, 1), (181, .iconst (-1), 1)]
theorem kdX12_has_158 : dkO cX12_has 158 ldX12_has_158 = true := by decide +kernel
theorem dX12_has_158 : decode cX12_has 158 = .ok (.aload_n 0, 1) := dk_i kdX12_has_158 0 rfl
theorem dX12_has_159 : decode cX12_has 159 = .ok (.getfield 168, 3) := dk_i kdX12_has_158 1 rfl
theorem dX12_has_162 : decode cX12_has 162 = .ok (.iconst 0, 1) := dk_i kdX12_has_158 2 rfl
theorem dX12_has_163 : decode cX12_has 163 = .ok (.iaload, 1) := dk_i kdX12_has_158 3 rfl
theorem dX12_has_164 : decode cX12_has 164 = .ok (.ireturn, 1) := dk_i kdX12_has_158 4 rfl
theorem dX12_has_165 : decode cX12_has 165 = .ok (.aload_n 0, 1) := dk_i kdX12_has_158 5 rfl
theorem dX12_has_166 : decode cX12_has 166 = .ok (.getfield 198, 3) := dk_i kdX12_has_158 6 rfl
theorem dX12_has_169 : decode cX12_has 169 = .ok (.ireturn, 1) := dk_i kdX12_has_158 7 rfl
theorem dX12_has_170 : decode cX12_has 170 = .ok (.aload_n 0, 1) := dk_i kdX12_has_158 8 rfl
theorem dX12_has_171 : decode cX12_has 171 = .ok (.getfield 177, 3) := dk_i kdX12_has_158 9 rfl
theorem dX12_has_174 : decode cX12_has 174 = .ok (.ireturn, 1) := dk_i kdX12_has_158 10 rfl
theorem dX12_has_175 : decode cX12_has 175 = .ok (.aload_n 0, 1) := dk_i kdX12_has_158 11 rfl
theorem dX12_has_176 : decode cX12_has 176 = .ok (.getfield 180, 3) := dk_i kdX12_has_158 12 rfl
theorem dX12_has_179 : decode cX12_has 179 = .ok (.l2i, 1) := dk_i kdX12_has_158 13 rfl
theorem dX12_has_180 : decode cX12_has 180 = .ok (.ireturn, 1) := dk_i kdX12_has_158 14 rfl
theorem dX12_has_181 : decode cX12_has 181 = .ok (.iconst (-1), 1) := dk_i kdX12_has_158 15 rfl
def ldX12_has_182 : List (Nat × ClassFile.Instr × Nat) := [(182, .ireturn, 1)]
theorem kdX12_has_182 : dkO cX12_has 182 ldX12_has_182 = true := by decide +kernel
theorem dX12_has_182 : decode cX12_has 182 = .ok (.ireturn, 1) := dk_i kdX12_has_182 0 rfl
def ldX12_letter_0 : List (Nat × ClassFile.Instr × Nat) := [(0, .iload_n 1, 1), (1, .iconst 0, 1), (2, .iconst 2, 1), (3, .invokestatic 305, 3), (6, .ifCond .eq 31, 3), (9, .iload_n 2, 1), (10, .iconst 0, 1), (11, .aload_n 0, 1), (12, .aload_n 0, 1), (13, .getfield 51, 3), (16, .iload_n 1, 1), (17, .invokevirtual 297, 3), (20, .iconst 1, 1), (21, .isub, 1), (22, .invokestatic 305, 3), (25, .ifCond .eq 12, 3)]
theorem kdX12_letter_0 : dkO cX12_letter 0 ldX12_letter_0 = true := by decide +kernel
theorem dX12_letter_0 : decode cX12_letter 0 = .ok (.iload_n 1, 1) := dk_i kdX12_letter_0 0 rfl
theorem dX12_letter_1 : decode cX12_letter 1 = .ok (.iconst 0, 1) := dk_i kdX12_letter_0 1 rfl
theorem dX12_letter_2 : decode cX12_letter 2 = .ok (.iconst 2, 1) := dk_i kdX12_letter_0 2 rfl
theorem dX12_letter_3 : decode cX12_letter 3 = .ok (.invokestatic 305, 3) := dk_i kdX12_letter_0 3 rfl
theorem dX12_letter_6 : decode cX12_letter 6 = .ok (.ifCond .eq 31, 3) := dk_i kdX12_letter_0 4 rfl
theorem dX12_letter_9 : decode cX12_letter 9 = .ok (.iload_n 2, 1) := dk_i kdX12_letter_0 5 rfl
theorem dX12_letter_10 : decode cX12_letter 10 = .ok (.iconst 0, 1) := dk_i kdX12_letter_0 6 rfl
theorem dX12_letter_11 : decode cX12_letter 11 = .ok (.aload_n 0, 1) := dk_i kdX12_letter_0 7 rfl
theorem dX12_letter_12 : decode cX12_letter 12 = .ok (.aload_n 0, 1) := dk_i kdX12_letter_0 8 rfl
theorem dX12_letter_13 : decode cX12_letter 13 = .ok (.getfield 51, 3) := dk_i kdX12_letter_0 9 rfl
theorem dX12_letter_16 : decode cX12_letter 16 = .ok (.iload_n 1, 1) := dk_i kdX12_letter_0 10 rfl
theorem dX12_letter_17 : decode cX12_letter 17 = .ok (.invokevirtual 297, 3) := dk_i kdX12_letter_0 11 rfl
theorem dX12_letter_20 : decode cX12_letter 20 = .ok (.iconst 1, 1) := dk_i kdX12_letter_0 12 rfl
theorem dX12_letter_21 : decode cX12_letter 21 = .ok (.isub, 1) := dk_i kdX12_letter_0 13 rfl
theorem dX12_letter_22 : decode cX12_letter 22 = .ok (.invokestatic 305, 3) := dk_i kdX12_letter_0 14 rfl
theorem dX12_letter_25 : decode cX12_letter 25 = .ok (.ifCond .eq 12, 3) := dk_i kdX12_letter_0 15 rfl
def ldX12_letter_28 : List (Nat × ClassFile.Instr × Nat) := [(28, .iload_n 3, 1), (29, .iconst 0, 1), (30, .iconst 5, 1), (31, .invokestatic 305, 3), (34, .ifCond .ne 5, 3), (37, .iconst (-1), 1), (38, .ireturn, 1), (39, .aload_n 0, 1), (40, .aload_n 0, 1), (41, .getfield 51, 3), (44, .iload_n 1, 1), (45, .iload_n 2, 1), (46, .invokevirtual 301, 3), (49, .lstore 4, 2), (51, .iconst 0, 1), (52, .istore 6, 2)]
theorem kdX12_letter_28 : dkO cX12_letter 28 ldX12_letter_28 = true := by decide +kernel
theorem dX12_letter_28 : decode cX12_letter 28 = .ok (.iload_n 3, 1) := dk_i kdX12_letter_28 0 rfl
theorem dX12_letter_29 : decode cX12_letter 29 = .ok (.iconst 0, 1) := dk_i kdX12_letter_28 1 rfl
theorem dX12_letter_30 : decode cX12_letter 30 = .ok (.iconst 5, 1) := dk_i kdX12_letter_28 2 rfl
theorem dX12_letter_31 : decode cX12_letter 31 = .ok (.invokestatic 305, 3) := dk_i kdX12_letter_28 3 rfl
theorem dX12_letter_34 : decode cX12_letter 34 = .ok (.ifCond .ne 5, 3) := dk_i kdX12_letter_28 4 rfl
theorem dX12_letter_37 : decode cX12_letter 37 = .ok (.iconst (-1), 1) := dk_i kdX12_letter_28 5 rfl
theorem dX12_letter_38 : decode cX12_letter 38 = .ok (.ireturn, 1) := dk_i kdX12_letter_28 6 rfl
theorem dX12_letter_39 : decode cX12_letter 39 = .ok (.aload_n 0, 1) := dk_i kdX12_letter_28 7 rfl
theorem dX12_letter_40 : decode cX12_letter 40 = .ok (.aload_n 0, 1) := dk_i kdX12_letter_28 8 rfl
theorem dX12_letter_41 : decode cX12_letter 41 = .ok (.getfield 51, 3) := dk_i kdX12_letter_28 9 rfl
theorem dX12_letter_44 : decode cX12_letter 44 = .ok (.iload_n 1, 1) := dk_i kdX12_letter_28 10 rfl
theorem dX12_letter_45 : decode cX12_letter 45 = .ok (.iload_n 2, 1) := dk_i kdX12_letter_28 11 rfl
theorem dX12_letter_46 : decode cX12_letter 46 = .ok (.invokevirtual 301, 3) := dk_i kdX12_letter_28 12 rfl
theorem dX12_letter_49 : decode cX12_letter 49 = .ok (.lstore 4, 2) := dk_i kdX12_letter_28 13 rfl
theorem dX12_letter_51 : decode cX12_letter 51 = .ok (.iconst 0, 1) := dk_i kdX12_letter_28 14 rfl
theorem dX12_letter_52 : decode cX12_letter 52 = .ok (.istore 6, 2) := dk_i kdX12_letter_28 15 rfl
def ldX12_letter_54 : List (Nat × ClassFile.Instr × Nat) := [(54, .lload 4, 2), (56, .lstore 7, 2), (58, .lload 7, 2), (60, .lconst 0, 1), (61, .lcmp, 1), (62, .ifCond .le 16, 3), (65, .iinc 6 1, 3), (68, .lload 7, 2), (70, .bipush 8, 2), (72, .lshr, 1), (73, .lstore 7, 2), (75, .goto (-17), 3), (78, .iload_n 3, 1), (79, .iload 6, 2), (81, .if_icmp .lt 7, 3), (84, .iconst 0, 1)]
theorem kdX12_letter_54 : dkO cX12_letter 54 ldX12_letter_54 = true := by decide +kernel
theorem dX12_letter_54 : decode cX12_letter 54 = .ok (.lload 4, 2) := dk_i kdX12_letter_54 0 rfl
theorem dX12_letter_56 : decode cX12_letter 56 = .ok (.lstore 7, 2) := dk_i kdX12_letter_54 1 rfl
theorem dX12_letter_58 : decode cX12_letter 58 = .ok (.lload 7, 2) := dk_i kdX12_letter_54 2 rfl
theorem dX12_letter_60 : decode cX12_letter 60 = .ok (.lconst 0, 1) := dk_i kdX12_letter_54 3 rfl
theorem dX12_letter_61 : decode cX12_letter 61 = .ok (.lcmp, 1) := dk_i kdX12_letter_54 4 rfl
theorem dX12_letter_62 : decode cX12_letter 62 = .ok (.ifCond .le 16, 3) := dk_i kdX12_letter_54 5 rfl
theorem dX12_letter_65 : decode cX12_letter 65 = .ok (.iinc 6 1, 3) := dk_i kdX12_letter_54 6 rfl
theorem dX12_letter_68 : decode cX12_letter 68 = .ok (.lload 7, 2) := dk_i kdX12_letter_54 7 rfl
theorem dX12_letter_70 : decode cX12_letter 70 = .ok (.bipush 8, 2) := dk_i kdX12_letter_54 8 rfl
theorem dX12_letter_72 : decode cX12_letter 72 = .ok (.lshr, 1) := dk_i kdX12_letter_54 9 rfl
theorem dX12_letter_73 : decode cX12_letter 73 = .ok (.lstore 7, 2) := dk_i kdX12_letter_54 10 rfl
theorem dX12_letter_75 : decode cX12_letter 75 = .ok (.goto (-17), 3) := dk_i kdX12_letter_54 11 rfl
theorem dX12_letter_78 : decode cX12_letter 78 = .ok (.iload_n 3, 1) := dk_i kdX12_letter_54 12 rfl
theorem dX12_letter_79 : decode cX12_letter 79 = .ok (.iload 6, 2) := dk_i kdX12_letter_54 13 rfl
theorem dX12_letter_81 : decode cX12_letter 81 = .ok (.if_icmp .lt 7, 3) := dk_i kdX12_letter_54 14 rfl
theorem dX12_letter_84 : decode cX12_letter 84 = .ok (.iconst 0, 1) := dk_i kdX12_letter_54 15 rfl
def ldX12_letter_85 : List (Nat × ClassFile.Instr × Nat) := [(85, .goto 25, 3), (88, .lload 4, 2), (90, .bipush 8, 2), (92, .iload 6, 2), (94, .iconst 1, 1), (95, .isub, 1), (96, .iload_n 3, 1), (97, .isub, 1), (98, .imul, 1), (99, .lshr, 1), (100, .ldc2_w 467, 3), (103, .land, 1), (104, .l2i, 1), (105, .bipush 97, 2), (107, .isub, 1), (108, .iconst 1, 1)]
theorem kdX12_letter_85 : dkO cX12_letter 85 ldX12_letter_85 = true := by decide +kernel
theorem dX12_letter_85 : decode cX12_letter 85 = .ok (.goto 25, 3) := dk_i kdX12_letter_85 0 rfl
theorem dX12_letter_88 : decode cX12_letter 88 = .ok (.lload 4, 2) := dk_i kdX12_letter_85 1 rfl
theorem dX12_letter_90 : decode cX12_letter 90 = .ok (.bipush 8, 2) := dk_i kdX12_letter_85 2 rfl
theorem dX12_letter_92 : decode cX12_letter 92 = .ok (.iload 6, 2) := dk_i kdX12_letter_85 3 rfl
theorem dX12_letter_94 : decode cX12_letter 94 = .ok (.iconst 1, 1) := dk_i kdX12_letter_85 4 rfl
theorem dX12_letter_95 : decode cX12_letter 95 = .ok (.isub, 1) := dk_i kdX12_letter_85 5 rfl
theorem dX12_letter_96 : decode cX12_letter 96 = .ok (.iload_n 3, 1) := dk_i kdX12_letter_85 6 rfl
theorem dX12_letter_97 : decode cX12_letter 97 = .ok (.isub, 1) := dk_i kdX12_letter_85 7 rfl
theorem dX12_letter_98 : decode cX12_letter 98 = .ok (.imul, 1) := dk_i kdX12_letter_85 8 rfl
theorem dX12_letter_99 : decode cX12_letter 99 = .ok (.lshr, 1) := dk_i kdX12_letter_85 9 rfl
theorem dX12_letter_100 : decode cX12_letter 100 = .ok (.ldc2_w 467, 3) := dk_i kdX12_letter_85 10 rfl
theorem dX12_letter_103 : decode cX12_letter 103 = .ok (.land, 1) := dk_i kdX12_letter_85 11 rfl
theorem dX12_letter_104 : decode cX12_letter 104 = .ok (.l2i, 1) := dk_i kdX12_letter_85 12 rfl
theorem dX12_letter_105 : decode cX12_letter 105 = .ok (.bipush 97, 2) := dk_i kdX12_letter_85 13 rfl
theorem dX12_letter_107 : decode cX12_letter 107 = .ok (.isub, 1) := dk_i kdX12_letter_85 14 rfl
theorem dX12_letter_108 : decode cX12_letter 108 = .ok (.iconst 1, 1) := dk_i kdX12_letter_85 15 rfl
def ldX12_letter_109 : List (Nat × ClassFile.Instr × Nat) := [(109, .iadd, 1), (110, .ireturn, 1)]
theorem kdX12_letter_109 : dkO cX12_letter 109 ldX12_letter_109 = true := by decide +kernel
theorem dX12_letter_109 : decode cX12_letter 109 = .ok (.iadd, 1) := dk_i kdX12_letter_109 0 rfl
theorem dX12_letter_110 : decode cX12_letter 110 = .ok (.ireturn, 1) := dk_i kdX12_letter_109 1 rfl
def ldX12_thing_0 : List (Nat × ClassFile.Instr × Nat) := [(0, .aload_n 0, 1), (1, .iload_n 1, 1), (2, .invokevirtual 469, 3), (5, .ifCond .ne 7, 3), (8, .iconst (-1), 1), (9, .goto 47, 3), (12, .iload_n 2, 1), (13, .ifCond .ne 20, 3), (16, .aload_n 0, 1), (17, .getfield 57, 3), (20, .bipush 6, 2), (22, .aload_n 0, 1), (23, .getfield 51, 3), (26, .imul, 1), (27, .iload_n 1, 1), (28, .iadd, 1)]
theorem kdX12_thing_0 : dkO cX12_thing 0 ldX12_thing_0 = true := by decide +kernel
theorem dX12_thing_0 : decode cX12_thing 0 = .ok (.aload_n 0, 1) := dk_i kdX12_thing_0 0 rfl
theorem dX12_thing_1 : decode cX12_thing 1 = .ok (.iload_n 1, 1) := dk_i kdX12_thing_0 1 rfl
theorem dX12_thing_2 : decode cX12_thing 2 = .ok (.invokevirtual 469, 3) := dk_i kdX12_thing_0 2 rfl
theorem dX12_thing_5 : decode cX12_thing 5 = .ok (.ifCond .ne 7, 3) := dk_i kdX12_thing_0 3 rfl
theorem dX12_thing_8 : decode cX12_thing 8 = .ok (.iconst (-1), 1) := dk_i kdX12_thing_0 4 rfl
theorem dX12_thing_9 : decode cX12_thing 9 = .ok (.goto 47, 3) := dk_i kdX12_thing_0 5 rfl
theorem dX12_thing_12 : decode cX12_thing 12 = .ok (.iload_n 2, 1) := dk_i kdX12_thing_0 6 rfl
theorem dX12_thing_13 : decode cX12_thing 13 = .ok (.ifCond .ne 20, 3) := dk_i kdX12_thing_0 7 rfl
theorem dX12_thing_16 : decode cX12_thing 16 = .ok (.aload_n 0, 1) := dk_i kdX12_thing_0 8 rfl
theorem dX12_thing_17 : decode cX12_thing 17 = .ok (.getfield 57, 3) := dk_i kdX12_thing_0 9 rfl
theorem dX12_thing_20 : decode cX12_thing 20 = .ok (.bipush 6, 2) := dk_i kdX12_thing_0 10 rfl
theorem dX12_thing_22 : decode cX12_thing 22 = .ok (.aload_n 0, 1) := dk_i kdX12_thing_0 11 rfl
theorem dX12_thing_23 : decode cX12_thing 23 = .ok (.getfield 51, 3) := dk_i kdX12_thing_0 12 rfl
theorem dX12_thing_26 : decode cX12_thing 26 = .ok (.imul, 1) := dk_i kdX12_thing_0 13 rfl
theorem dX12_thing_27 : decode cX12_thing 27 = .ok (.iload_n 1, 1) := dk_i kdX12_thing_0 14 rfl
theorem dX12_thing_28 : decode cX12_thing 28 = .ok (.iadd, 1) := dk_i kdX12_thing_0 15 rfl
def ldX12_thing_29 : List (Nat × ClassFile.Instr × Nat) := [(29, .iaload, 1), (30, .goto 26, 3), (33, .iload_n 2, 1), (34, .iconst 1, 1), (35, .if_icmp .ne 20, 3), (38, .aload_n 0, 1), (39, .getfield 60, 3), (42, .bipush 6, 2), (44, .aload_n 0, 1), (45, .getfield 51, 3), (48, .imul, 1), (49, .iload_n 1, 1), (50, .iadd, 1), (51, .iaload, 1), (52, .goto 4, 3), (55, .iconst (-1), 1)]
theorem kdX12_thing_29 : dkO cX12_thing 29 ldX12_thing_29 = true := by decide +kernel
theorem dX12_thing_29 : decode cX12_thing 29 = .ok (.iaload, 1) := dk_i kdX12_thing_29 0 rfl
theorem dX12_thing_30 : decode cX12_thing 30 = .ok (.goto 26, 3) := dk_i kdX12_thing_29 1 rfl
theorem dX12_thing_33 : decode cX12_thing 33 = .ok (.iload_n 2, 1) := dk_i kdX12_thing_29 2 rfl
theorem dX12_thing_34 : decode cX12_thing 34 = .ok (.iconst 1, 1) := dk_i kdX12_thing_29 3 rfl
theorem dX12_thing_35 : decode cX12_thing 35 = .ok (.if_icmp .ne 20, 3) := dk_i kdX12_thing_29 4 rfl
theorem dX12_thing_38 : decode cX12_thing 38 = .ok (.aload_n 0, 1) := dk_i kdX12_thing_29 5 rfl
theorem dX12_thing_39 : decode cX12_thing 39 = .ok (.getfield 60, 3) := dk_i kdX12_thing_29 6 rfl
theorem dX12_thing_42 : decode cX12_thing 42 = .ok (.bipush 6, 2) := dk_i kdX12_thing_29 7 rfl
theorem dX12_thing_44 : decode cX12_thing 44 = .ok (.aload_n 0, 1) := dk_i kdX12_thing_29 8 rfl
theorem dX12_thing_45 : decode cX12_thing 45 = .ok (.getfield 51, 3) := dk_i kdX12_thing_29 9 rfl
theorem dX12_thing_48 : decode cX12_thing 48 = .ok (.imul, 1) := dk_i kdX12_thing_29 10 rfl
theorem dX12_thing_49 : decode cX12_thing 49 = .ok (.iload_n 1, 1) := dk_i kdX12_thing_29 11 rfl
theorem dX12_thing_50 : decode cX12_thing 50 = .ok (.iadd, 1) := dk_i kdX12_thing_29 12 rfl
theorem dX12_thing_51 : decode cX12_thing 51 = .ok (.iaload, 1) := dk_i kdX12_thing_29 13 rfl
theorem dX12_thing_52 : decode cX12_thing 52 = .ok (.goto 4, 3) := dk_i kdX12_thing_29 14 rfl
theorem dX12_thing_55 : decode cX12_thing 55 = .ok (.iconst (-1), 1) := dk_i kdX12_thing_29 15 rfl
def ldX12_thing_56 : List (Nat × ClassFile.Instr × Nat) := [(56, .ireturn, 1)]
theorem kdX12_thing_56 : dkO cX12_thing 56 ldX12_thing_56 = true := by decide +kernel
theorem dX12_thing_56 : decode cX12_thing 56 = .ok (.ireturn, 1) := dk_i kdX12_thing_56 0 rfl
def ldX12_corner_0 : List (Nat × ClassFile.Instr × Nat) := [(0, .aload_n 0, 1), (1, .iload_n 1, 1), (2, .invokevirtual 472, 3), (5, .ifCond .ne 7, 3), (8, .iconst (-1), 1), (9, .goto 45, 3), (12, .iload_n 2, 1), (13, .ifCond .ne 12, 3), (16, .aload_n 0, 1), (17, .getfield 159, 3), (20, .iload_n 1, 1), (21, .iaload, 1), (22, .goto 32, 3), (25, .iload_n 2, 1), (26, .iconst 1, 1), (27, .if_icmp .ne 12, 3)]
theorem kdX12_corner_0 : dkO cX12_corner 0 ldX12_corner_0 = true := by decide +kernel
theorem dX12_corner_0 : decode cX12_corner 0 = .ok (.aload_n 0, 1) := dk_i kdX12_corner_0 0 rfl
theorem dX12_corner_1 : decode cX12_corner 1 = .ok (.iload_n 1, 1) := dk_i kdX12_corner_0 1 rfl
theorem dX12_corner_2 : decode cX12_corner 2 = .ok (.invokevirtual 472, 3) := dk_i kdX12_corner_0 2 rfl
theorem dX12_corner_5 : decode cX12_corner 5 = .ok (.ifCond .ne 7, 3) := dk_i kdX12_corner_0 3 rfl
theorem dX12_corner_8 : decode cX12_corner 8 = .ok (.iconst (-1), 1) := dk_i kdX12_corner_0 4 rfl
theorem dX12_corner_9 : decode cX12_corner 9 = .ok (.goto 45, 3) := dk_i kdX12_corner_0 5 rfl
theorem dX12_corner_12 : decode cX12_corner 12 = .ok (.iload_n 2, 1) := dk_i kdX12_corner_0 6 rfl
theorem dX12_corner_13 : decode cX12_corner 13 = .ok (.ifCond .ne 12, 3) := dk_i kdX12_corner_0 7 rfl
theorem dX12_corner_16 : decode cX12_corner 16 = .ok (.aload_n 0, 1) := dk_i kdX12_corner_0 8 rfl
theorem dX12_corner_17 : decode cX12_corner 17 = .ok (.getfield 159, 3) := dk_i kdX12_corner_0 9 rfl
theorem dX12_corner_20 : decode cX12_corner 20 = .ok (.iload_n 1, 1) := dk_i kdX12_corner_0 10 rfl
theorem dX12_corner_21 : decode cX12_corner 21 = .ok (.iaload, 1) := dk_i kdX12_corner_0 11 rfl
theorem dX12_corner_22 : decode cX12_corner 22 = .ok (.goto 32, 3) := dk_i kdX12_corner_0 12 rfl
theorem dX12_corner_25 : decode cX12_corner 25 = .ok (.iload_n 2, 1) := dk_i kdX12_corner_0 13 rfl
theorem dX12_corner_26 : decode cX12_corner 26 = .ok (.iconst 1, 1) := dk_i kdX12_corner_0 14 rfl
theorem dX12_corner_27 : decode cX12_corner 27 = .ok (.if_icmp .ne 12, 3) := dk_i kdX12_corner_0 15 rfl
def ldX12_corner_30 : List (Nat × ClassFile.Instr × Nat) := [(30, .aload_n 0, 1), (31, .getfield 162, 3), (34, .iload_n 1, 1), (35, .iaload, 1), (36, .goto 18, 3), (39, .iload_n 2, 1), (40, .iconst 2, 1), (41, .if_icmp .ne 12, 3), (44, .aload_n 0, 1), (45, .iconst 0, 1), (46, .iload_n 1, 1), (47, .invokevirtual 449, 3), (50, .goto 4, 3), (53, .iconst (-1), 1), (54, .ireturn, 1)]
theorem kdX12_corner_30 : dkO cX12_corner 30 ldX12_corner_30 = true := by decide +kernel
theorem dX12_corner_30 : decode cX12_corner 30 = .ok (.aload_n 0, 1) := dk_i kdX12_corner_30 0 rfl
theorem dX12_corner_31 : decode cX12_corner 31 = .ok (.getfield 162, 3) := dk_i kdX12_corner_30 1 rfl
theorem dX12_corner_34 : decode cX12_corner 34 = .ok (.iload_n 1, 1) := dk_i kdX12_corner_30 2 rfl
theorem dX12_corner_35 : decode cX12_corner 35 = .ok (.iaload, 1) := dk_i kdX12_corner_30 3 rfl
theorem dX12_corner_36 : decode cX12_corner 36 = .ok (.goto 18, 3) := dk_i kdX12_corner_30 4 rfl
theorem dX12_corner_39 : decode cX12_corner 39 = .ok (.iload_n 2, 1) := dk_i kdX12_corner_30 5 rfl
theorem dX12_corner_40 : decode cX12_corner 40 = .ok (.iconst 2, 1) := dk_i kdX12_corner_30 6 rfl
theorem dX12_corner_41 : decode cX12_corner 41 = .ok (.if_icmp .ne 12, 3) := dk_i kdX12_corner_30 7 rfl
theorem dX12_corner_44 : decode cX12_corner 44 = .ok (.aload_n 0, 1) := dk_i kdX12_corner_30 8 rfl
theorem dX12_corner_45 : decode cX12_corner 45 = .ok (.iconst 0, 1) := dk_i kdX12_corner_30 9 rfl
theorem dX12_corner_46 : decode cX12_corner 46 = .ok (.iload_n 1, 1) := dk_i kdX12_corner_30 10 rfl
theorem dX12_corner_47 : decode cX12_corner 47 = .ok (.invokevirtual 449, 3) := dk_i kdX12_corner_30 11 rfl
theorem dX12_corner_50 : decode cX12_corner 50 = .ok (.goto 4, 3) := dk_i kdX12_corner_30 12 rfl
theorem dX12_corner_53 : decode cX12_corner 53 = .ok (.iconst (-1), 1) := dk_i kdX12_corner_30 13 rfl
theorem dX12_corner_54 : decode cX12_corner 54 = .ok (.ireturn, 1) := dk_i kdX12_corner_30 14 rfl
def ldX12_doing_0 : List (Nat × ClassFile.Instr × Nat) := [(0, .aload_n 0, 1), (1, .iload_n 1, 1), (2, .invokevirtual 475, 3), (5, .ifCond .ne 7, 3), (8, .iconst (-1), 1), (9, .goto 73, 3), (12, .iload_n 2, 1), (13, .ifCond .ne 20, 3), (16, .aload_n 0, 1), (17, .getfield 81, 3), (20, .bipush 6, 2), (22, .aload_n 0, 1), (23, .getfield 51, 3), (26, .imul, 1), (27, .iload_n 1, 1), (28, .iadd, 1)]
theorem kdX12_doing_0 : dkO cX12_doing 0 ldX12_doing_0 = true := by decide +kernel
theorem dX12_doing_0 : decode cX12_doing 0 = .ok (.aload_n 0, 1) := dk_i kdX12_doing_0 0 rfl
theorem dX12_doing_1 : decode cX12_doing 1 = .ok (.iload_n 1, 1) := dk_i kdX12_doing_0 1 rfl
theorem dX12_doing_2 : decode cX12_doing 2 = .ok (.invokevirtual 475, 3) := dk_i kdX12_doing_0 2 rfl
theorem dX12_doing_5 : decode cX12_doing 5 = .ok (.ifCond .ne 7, 3) := dk_i kdX12_doing_0 3 rfl
theorem dX12_doing_8 : decode cX12_doing 8 = .ok (.iconst (-1), 1) := dk_i kdX12_doing_0 4 rfl
theorem dX12_doing_9 : decode cX12_doing 9 = .ok (.goto 73, 3) := dk_i kdX12_doing_0 5 rfl
theorem dX12_doing_12 : decode cX12_doing 12 = .ok (.iload_n 2, 1) := dk_i kdX12_doing_0 6 rfl
theorem dX12_doing_13 : decode cX12_doing 13 = .ok (.ifCond .ne 20, 3) := dk_i kdX12_doing_0 7 rfl
theorem dX12_doing_16 : decode cX12_doing 16 = .ok (.aload_n 0, 1) := dk_i kdX12_doing_0 8 rfl
theorem dX12_doing_17 : decode cX12_doing 17 = .ok (.getfield 81, 3) := dk_i kdX12_doing_0 9 rfl
theorem dX12_doing_20 : decode cX12_doing 20 = .ok (.bipush 6, 2) := dk_i kdX12_doing_0 10 rfl
theorem dX12_doing_22 : decode cX12_doing 22 = .ok (.aload_n 0, 1) := dk_i kdX12_doing_0 11 rfl
theorem dX12_doing_23 : decode cX12_doing 23 = .ok (.getfield 51, 3) := dk_i kdX12_doing_0 12 rfl
theorem dX12_doing_26 : decode cX12_doing 26 = .ok (.imul, 1) := dk_i kdX12_doing_0 13 rfl
theorem dX12_doing_27 : decode cX12_doing 27 = .ok (.iload_n 1, 1) := dk_i kdX12_doing_0 14 rfl
theorem dX12_doing_28 : decode cX12_doing 28 = .ok (.iadd, 1) := dk_i kdX12_doing_0 15 rfl
def ldX12_doing_29 : List (Nat × ClassFile.Instr × Nat) := [(29, .iaload, 1), (30, .goto 52, 3), (33, .iload_n 2, 1), (34, .iconst 1, 1), (35, .if_icmp .ne 20, 3), (38, .aload_n 0, 1), (39, .getfield 84, 3), (42, .bipush 6, 2), (44, .aload_n 0, 1), (45, .getfield 51, 3), (48, .imul, 1), (49, .iload_n 1, 1), (50, .iadd, 1), (51, .iaload, 1), (52, .goto 30, 3), (55, .iload_n 2, 1)]
theorem kdX12_doing_29 : dkO cX12_doing 29 ldX12_doing_29 = true := by decide +kernel
theorem dX12_doing_29 : decode cX12_doing 29 = .ok (.iaload, 1) := dk_i kdX12_doing_29 0 rfl
theorem dX12_doing_30 : decode cX12_doing 30 = .ok (.goto 52, 3) := dk_i kdX12_doing_29 1 rfl
theorem dX12_doing_33 : decode cX12_doing 33 = .ok (.iload_n 2, 1) := dk_i kdX12_doing_29 2 rfl
theorem dX12_doing_34 : decode cX12_doing 34 = .ok (.iconst 1, 1) := dk_i kdX12_doing_29 3 rfl
theorem dX12_doing_35 : decode cX12_doing 35 = .ok (.if_icmp .ne 20, 3) := dk_i kdX12_doing_29 4 rfl
theorem dX12_doing_38 : decode cX12_doing 38 = .ok (.aload_n 0, 1) := dk_i kdX12_doing_29 5 rfl
theorem dX12_doing_39 : decode cX12_doing 39 = .ok (.getfield 84, 3) := dk_i kdX12_doing_29 6 rfl
theorem dX12_doing_42 : decode cX12_doing 42 = .ok (.bipush 6, 2) := dk_i kdX12_doing_29 7 rfl
theorem dX12_doing_44 : decode cX12_doing 44 = .ok (.aload_n 0, 1) := dk_i kdX12_doing_29 8 rfl
theorem dX12_doing_45 : decode cX12_doing 45 = .ok (.getfield 51, 3) := dk_i kdX12_doing_29 9 rfl
theorem dX12_doing_48 : decode cX12_doing 48 = .ok (.imul, 1) := dk_i kdX12_doing_29 10 rfl
theorem dX12_doing_49 : decode cX12_doing 49 = .ok (.iload_n 1, 1) := dk_i kdX12_doing_29 11 rfl
theorem dX12_doing_50 : decode cX12_doing 50 = .ok (.iadd, 1) := dk_i kdX12_doing_29 12 rfl
theorem dX12_doing_51 : decode cX12_doing 51 = .ok (.iaload, 1) := dk_i kdX12_doing_29 13 rfl
theorem dX12_doing_52 : decode cX12_doing 52 = .ok (.goto 30, 3) := dk_i kdX12_doing_29 14 rfl
theorem dX12_doing_55 : decode cX12_doing 55 = .ok (.iload_n 2, 1) := dk_i kdX12_doing_29 15 rfl
def ldX12_doing_56 : List (Nat × ClassFile.Instr × Nat) := [(56, .iconst 2, 1), (57, .if_icmp .ne 24, 3), (60, .aload_n 0, 1), (61, .getfield 165, 3), (64, .iconst 0, 1), (65, .iaload, 1), (66, .iload_n 1, 1), (67, .invokestatic 347, 3), (70, .ifCond .eq 7, 3), (73, .iconst 1, 1), (74, .goto 8, 3), (77, .iconst 0, 1), (78, .goto 4, 3), (81, .iconst (-1), 1), (82, .ireturn, 1)]
theorem kdX12_doing_56 : dkO cX12_doing 56 ldX12_doing_56 = true := by decide +kernel
theorem dX12_doing_56 : decode cX12_doing 56 = .ok (.iconst 2, 1) := dk_i kdX12_doing_56 0 rfl
theorem dX12_doing_57 : decode cX12_doing 57 = .ok (.if_icmp .ne 24, 3) := dk_i kdX12_doing_56 1 rfl
theorem dX12_doing_60 : decode cX12_doing 60 = .ok (.aload_n 0, 1) := dk_i kdX12_doing_56 2 rfl
theorem dX12_doing_61 : decode cX12_doing 61 = .ok (.getfield 165, 3) := dk_i kdX12_doing_56 3 rfl
theorem dX12_doing_64 : decode cX12_doing 64 = .ok (.iconst 0, 1) := dk_i kdX12_doing_56 4 rfl
theorem dX12_doing_65 : decode cX12_doing 65 = .ok (.iaload, 1) := dk_i kdX12_doing_56 5 rfl
theorem dX12_doing_66 : decode cX12_doing 66 = .ok (.iload_n 1, 1) := dk_i kdX12_doing_56 6 rfl
theorem dX12_doing_67 : decode cX12_doing 67 = .ok (.invokestatic 347, 3) := dk_i kdX12_doing_56 7 rfl
theorem dX12_doing_70 : decode cX12_doing 70 = .ok (.ifCond .eq 7, 3) := dk_i kdX12_doing_56 8 rfl
theorem dX12_doing_73 : decode cX12_doing 73 = .ok (.iconst 1, 1) := dk_i kdX12_doing_56 9 rfl
theorem dX12_doing_74 : decode cX12_doing 74 = .ok (.goto 8, 3) := dk_i kdX12_doing_56 10 rfl
theorem dX12_doing_77 : decode cX12_doing 77 = .ok (.iconst 0, 1) := dk_i kdX12_doing_56 11 rfl
theorem dX12_doing_78 : decode cX12_doing 78 = .ok (.goto 4, 3) := dk_i kdX12_doing_56 12 rfl
theorem dX12_doing_81 : decode cX12_doing 81 = .ok (.iconst (-1), 1) := dk_i kdX12_doing_56 13 rfl
theorem dX12_doing_82 : decode cX12_doing 82 = .ok (.ireturn, 1) := dk_i kdX12_doing_56 14 rfl
def ldX12_isAhead_0 : List (Nat × ClassFile.Instr × Nat) := [(0, .iload_n 1, 1), (1, .iload_n 2, 1), (2, .iload_n 3, 1), (3, .invokestatic 305, 3), (6, .ifCond .eq 21, 3), (9, .aload_n 0, 1), (10, .getfield 156, 3), (13, .iconst 0, 1), (14, .iaload, 1), (15, .sipush 9999, 3), (18, .iload_n 1, 1), (19, .isub, 1), (20, .if_icmp .gt 7, 3), (23, .iconst 1, 1), (24, .goto 4, 3), (27, .iconst 0, 1)]
theorem kdX12_isAhead_0 : dkO cX12_isAhead 0 ldX12_isAhead_0 = true := by decide +kernel
theorem dX12_isAhead_0 : decode cX12_isAhead 0 = .ok (.iload_n 1, 1) := dk_i kdX12_isAhead_0 0 rfl
theorem dX12_isAhead_1 : decode cX12_isAhead 1 = .ok (.iload_n 2, 1) := dk_i kdX12_isAhead_0 1 rfl
theorem dX12_isAhead_2 : decode cX12_isAhead 2 = .ok (.iload_n 3, 1) := dk_i kdX12_isAhead_0 2 rfl
theorem dX12_isAhead_3 : decode cX12_isAhead 3 = .ok (.invokestatic 305, 3) := dk_i kdX12_isAhead_0 3 rfl
theorem dX12_isAhead_6 : decode cX12_isAhead 6 = .ok (.ifCond .eq 21, 3) := dk_i kdX12_isAhead_0 4 rfl
theorem dX12_isAhead_9 : decode cX12_isAhead 9 = .ok (.aload_n 0, 1) := dk_i kdX12_isAhead_0 5 rfl
theorem dX12_isAhead_10 : decode cX12_isAhead 10 = .ok (.getfield 156, 3) := dk_i kdX12_isAhead_0 6 rfl
theorem dX12_isAhead_13 : decode cX12_isAhead 13 = .ok (.iconst 0, 1) := dk_i kdX12_isAhead_0 7 rfl
theorem dX12_isAhead_14 : decode cX12_isAhead 14 = .ok (.iaload, 1) := dk_i kdX12_isAhead_0 8 rfl
theorem dX12_isAhead_15 : decode cX12_isAhead 15 = .ok (.sipush 9999, 3) := dk_i kdX12_isAhead_0 9 rfl
theorem dX12_isAhead_18 : decode cX12_isAhead 18 = .ok (.iload_n 1, 1) := dk_i kdX12_isAhead_0 10 rfl
theorem dX12_isAhead_19 : decode cX12_isAhead 19 = .ok (.isub, 1) := dk_i kdX12_isAhead_0 11 rfl
theorem dX12_isAhead_20 : decode cX12_isAhead 20 = .ok (.if_icmp .gt 7, 3) := dk_i kdX12_isAhead_0 12 rfl
theorem dX12_isAhead_23 : decode cX12_isAhead 23 = .ok (.iconst 1, 1) := dk_i kdX12_isAhead_0 13 rfl
theorem dX12_isAhead_24 : decode cX12_isAhead 24 = .ok (.goto 4, 3) := dk_i kdX12_isAhead_0 14 rfl
theorem dX12_isAhead_27 : decode cX12_isAhead 27 = .ok (.iconst 0, 1) := dk_i kdX12_isAhead_0 15 rfl
def ldX12_isAhead_28 : List (Nat × ClassFile.Instr × Nat) := [(28, .ireturn, 1)]
theorem kdX12_isAhead_28 : dkO cX12_isAhead 28 ldX12_isAhead_28 = true := by decide +kernel
theorem dX12_isAhead_28 : decode cX12_isAhead 28 = .ok (.ireturn, 1) := dk_i kdX12_isAhead_28 0 rfl
def ldX12_later_0 : List (Nat × ClassFile.Instr × Nat) := [(0, .aload_n 0, 1), (1, .iload_n 1, 1), (2, .invokevirtual 472, 3), (5, .ifCond .eq 14, 3), (8, .aload_n 0, 1), (9, .iload_n 2, 1), (10, .iconst 0, 1), (11, .bipush 60, 2), (13, .invokevirtual 478, 3), (16, .ifCond .ne 5, 3), (19, .iconst (-1), 1), (20, .ireturn, 1), (21, .aload_n 0, 1), (22, .iconst 1, 1), (23, .iconst 0, 1), (24, .invokevirtual 418, 3)]
theorem kdX12_later_0 : dkO cX12_later 0 ldX12_later_0 = true := by decide +kernel
theorem dX12_later_0 : decode cX12_later 0 = .ok (.aload_n 0, 1) := dk_i kdX12_later_0 0 rfl
theorem dX12_later_1 : decode cX12_later 1 = .ok (.iload_n 1, 1) := dk_i kdX12_later_0 1 rfl
theorem dX12_later_2 : decode cX12_later 2 = .ok (.invokevirtual 472, 3) := dk_i kdX12_later_0 2 rfl
theorem dX12_later_5 : decode cX12_later 5 = .ok (.ifCond .eq 14, 3) := dk_i kdX12_later_0 3 rfl
theorem dX12_later_8 : decode cX12_later 8 = .ok (.aload_n 0, 1) := dk_i kdX12_later_0 4 rfl
theorem dX12_later_9 : decode cX12_later 9 = .ok (.iload_n 2, 1) := dk_i kdX12_later_0 5 rfl
theorem dX12_later_10 : decode cX12_later 10 = .ok (.iconst 0, 1) := dk_i kdX12_later_0 6 rfl
theorem dX12_later_11 : decode cX12_later 11 = .ok (.bipush 60, 2) := dk_i kdX12_later_0 7 rfl
theorem dX12_later_13 : decode cX12_later 13 = .ok (.invokevirtual 478, 3) := dk_i kdX12_later_0 8 rfl
theorem dX12_later_16 : decode cX12_later 16 = .ok (.ifCond .ne 5, 3) := dk_i kdX12_later_0 9 rfl
theorem dX12_later_19 : decode cX12_later 19 = .ok (.iconst (-1), 1) := dk_i kdX12_later_0 10 rfl
theorem dX12_later_20 : decode cX12_later 20 = .ok (.ireturn, 1) := dk_i kdX12_later_0 11 rfl
theorem dX12_later_21 : decode cX12_later 21 = .ok (.aload_n 0, 1) := dk_i kdX12_later_0 12 rfl
theorem dX12_later_22 : decode cX12_later 22 = .ok (.iconst 1, 1) := dk_i kdX12_later_0 13 rfl
theorem dX12_later_23 : decode cX12_later 23 = .ok (.iconst 0, 1) := dk_i kdX12_later_0 14 rfl
theorem dX12_later_24 : decode cX12_later 24 = .ok (.invokevirtual 418, 3) := dk_i kdX12_later_0 15 rfl
def ldX12_later_27 : List (Nat × ClassFile.Instr × Nat) := [(27, .iconst 0, 1), (28, .istore_n 3, 1), (29, .iload_n 3, 1), (30, .iload_n 2, 1), (31, .if_icmp .ge 15, 3), (34, .aload_n 0, 1), (35, .iconst 1, 1), (36, .invokevirtual 481, 3), (39, .pop, 1), (40, .iinc 3 1, 3), (43, .goto (-14), 3), (46, .aload_n 0, 1), (47, .iconst 1, 1), (48, .iload_n 1, 1), (49, .invokevirtual 449, 3), (52, .ireturn, 1)]
theorem kdX12_later_27 : dkO cX12_later 27 ldX12_later_27 = true := by decide +kernel
theorem dX12_later_27 : decode cX12_later 27 = .ok (.iconst 0, 1) := dk_i kdX12_later_27 0 rfl
theorem dX12_later_28 : decode cX12_later 28 = .ok (.istore_n 3, 1) := dk_i kdX12_later_27 1 rfl
theorem dX12_later_29 : decode cX12_later 29 = .ok (.iload_n 3, 1) := dk_i kdX12_later_27 2 rfl
theorem dX12_later_30 : decode cX12_later 30 = .ok (.iload_n 2, 1) := dk_i kdX12_later_27 3 rfl
theorem dX12_later_31 : decode cX12_later 31 = .ok (.if_icmp .ge 15, 3) := dk_i kdX12_later_27 4 rfl
theorem dX12_later_34 : decode cX12_later 34 = .ok (.aload_n 0, 1) := dk_i kdX12_later_27 5 rfl
theorem dX12_later_35 : decode cX12_later 35 = .ok (.iconst 1, 1) := dk_i kdX12_later_27 6 rfl
theorem dX12_later_36 : decode cX12_later 36 = .ok (.invokevirtual 481, 3) := dk_i kdX12_later_27 7 rfl
theorem dX12_later_39 : decode cX12_later 39 = .ok (.pop, 1) := dk_i kdX12_later_27 8 rfl
theorem dX12_later_40 : decode cX12_later 40 = .ok (.iinc 3 1, 3) := dk_i kdX12_later_27 9 rfl
theorem dX12_later_43 : decode cX12_later 43 = .ok (.goto (-14), 3) := dk_i kdX12_later_27 10 rfl
theorem dX12_later_46 : decode cX12_later 46 = .ok (.aload_n 0, 1) := dk_i kdX12_later_27 11 rfl
theorem dX12_later_47 : decode cX12_later 47 = .ok (.iconst 1, 1) := dk_i kdX12_later_27 12 rfl
theorem dX12_later_48 : decode cX12_later 48 = .ok (.iload_n 1, 1) := dk_i kdX12_later_27 13 rfl
theorem dX12_later_49 : decode cX12_later 49 = .ok (.invokevirtual 449, 3) := dk_i kdX12_later_27 14 rfl
theorem dX12_later_52 : decode cX12_later 52 = .ok (.ireturn, 1) := dk_i kdX12_later_27 15 rfl
def ldX12_when_0 : List (Nat × ClassFile.Instr × Nat) := [(0, .aload_n 0, 1), (1, .iload_n 1, 1), (2, .invokevirtual 475, 3), (5, .ifCond .ne 5, 3), (8, .iconst (-1), 1), (9, .ireturn, 1), (10, .aload_n 0, 1), (11, .iconst 1, 1), (12, .iconst 0, 1), (13, .invokevirtual 418, 3), (16, .iconst 0, 1), (17, .istore_n 2, 1), (18, .aload_n 0, 1), (19, .iload_n 2, 1), (20, .iconst 0, 1), (21, .bipush 60, 2)]
theorem kdX12_when_0 : dkO cX12_when 0 ldX12_when_0 = true := by decide +kernel
theorem dX12_when_0 : decode cX12_when 0 = .ok (.aload_n 0, 1) := dk_i kdX12_when_0 0 rfl
theorem dX12_when_1 : decode cX12_when 1 = .ok (.iload_n 1, 1) := dk_i kdX12_when_0 1 rfl
theorem dX12_when_2 : decode cX12_when 2 = .ok (.invokevirtual 475, 3) := dk_i kdX12_when_0 2 rfl
theorem dX12_when_5 : decode cX12_when 5 = .ok (.ifCond .ne 5, 3) := dk_i kdX12_when_0 3 rfl
theorem dX12_when_8 : decode cX12_when 8 = .ok (.iconst (-1), 1) := dk_i kdX12_when_0 4 rfl
theorem dX12_when_9 : decode cX12_when 9 = .ok (.ireturn, 1) := dk_i kdX12_when_0 5 rfl
theorem dX12_when_10 : decode cX12_when 10 = .ok (.aload_n 0, 1) := dk_i kdX12_when_0 6 rfl
theorem dX12_when_11 : decode cX12_when 11 = .ok (.iconst 1, 1) := dk_i kdX12_when_0 7 rfl
theorem dX12_when_12 : decode cX12_when 12 = .ok (.iconst 0, 1) := dk_i kdX12_when_0 8 rfl
theorem dX12_when_13 : decode cX12_when 13 = .ok (.invokevirtual 418, 3) := dk_i kdX12_when_0 9 rfl
theorem dX12_when_16 : decode cX12_when 16 = .ok (.iconst 0, 1) := dk_i kdX12_when_0 10 rfl
theorem dX12_when_17 : decode cX12_when 17 = .ok (.istore_n 2, 1) := dk_i kdX12_when_0 11 rfl
theorem dX12_when_18 : decode cX12_when 18 = .ok (.aload_n 0, 1) := dk_i kdX12_when_0 12 rfl
theorem dX12_when_19 : decode cX12_when 19 = .ok (.iload_n 2, 1) := dk_i kdX12_when_0 13 rfl
theorem dX12_when_20 : decode cX12_when 20 = .ok (.iconst 0, 1) := dk_i kdX12_when_0 14 rfl
theorem dX12_when_21 : decode cX12_when 21 = .ok (.bipush 60, 2) := dk_i kdX12_when_0 15 rfl
def ldX12_when_23 : List (Nat × ClassFile.Instr × Nat) := [(23, .invokevirtual 478, 3), (26, .ifCond .eq 30, 3), (29, .aload_n 0, 1), (30, .getfield 165, 3), (33, .iconst 1, 1), (34, .iaload, 1), (35, .iload_n 1, 1), (36, .invokestatic 347, 3), (39, .ifCond .eq 5, 3), (42, .iload_n 2, 1), (43, .ireturn, 1), (44, .aload_n 0, 1), (45, .iconst 1, 1), (46, .invokevirtual 481, 3), (49, .pop, 1), (50, .iinc 2 1, 3)]
theorem kdX12_when_23 : dkO cX12_when 23 ldX12_when_23 = true := by decide +kernel
theorem dX12_when_23 : decode cX12_when 23 = .ok (.invokevirtual 478, 3) := dk_i kdX12_when_23 0 rfl
theorem dX12_when_26 : decode cX12_when 26 = .ok (.ifCond .eq 30, 3) := dk_i kdX12_when_23 1 rfl
theorem dX12_when_29 : decode cX12_when 29 = .ok (.aload_n 0, 1) := dk_i kdX12_when_23 2 rfl
theorem dX12_when_30 : decode cX12_when 30 = .ok (.getfield 165, 3) := dk_i kdX12_when_23 3 rfl
theorem dX12_when_33 : decode cX12_when 33 = .ok (.iconst 1, 1) := dk_i kdX12_when_23 4 rfl
theorem dX12_when_34 : decode cX12_when 34 = .ok (.iaload, 1) := dk_i kdX12_when_23 5 rfl
theorem dX12_when_35 : decode cX12_when 35 = .ok (.iload_n 1, 1) := dk_i kdX12_when_23 6 rfl
theorem dX12_when_36 : decode cX12_when 36 = .ok (.invokestatic 347, 3) := dk_i kdX12_when_23 7 rfl
theorem dX12_when_39 : decode cX12_when 39 = .ok (.ifCond .eq 5, 3) := dk_i kdX12_when_23 8 rfl
theorem dX12_when_42 : decode cX12_when 42 = .ok (.iload_n 2, 1) := dk_i kdX12_when_23 9 rfl
theorem dX12_when_43 : decode cX12_when 43 = .ok (.ireturn, 1) := dk_i kdX12_when_23 10 rfl
theorem dX12_when_44 : decode cX12_when 44 = .ok (.aload_n 0, 1) := dk_i kdX12_when_23 11 rfl
theorem dX12_when_45 : decode cX12_when 45 = .ok (.iconst 1, 1) := dk_i kdX12_when_23 12 rfl
theorem dX12_when_46 : decode cX12_when 46 = .ok (.invokevirtual 481, 3) := dk_i kdX12_when_23 13 rfl
theorem dX12_when_49 : decode cX12_when 49 = .ok (.pop, 1) := dk_i kdX12_when_23 14 rfl
theorem dX12_when_50 : decode cX12_when 50 = .ok (.iinc 2 1, 3) := dk_i kdX12_when_23 15 rfl
def ldX12_when_53 : List (Nat × ClassFile.Instr × Nat) := [(53, .goto (-35), 3), (56, .iconst (-1), 1), (57, .ireturn, 1)]
theorem kdX12_when_53 : dkO cX12_when 53 ldX12_when_53 = true := by decide +kernel
theorem dX12_when_53 : decode cX12_when 53 = .ok (.goto (-35), 3) := dk_i kdX12_when_53 0 rfl
theorem dX12_when_56 : decode cX12_when 56 = .ok (.iconst (-1), 1) := dk_i kdX12_when_53 1 rfl
theorem dX12_when_57 : decode cX12_when 57 = .ok (.ireturn, 1) := dk_i kdX12_when_53 2 rfl
def ldX12_alike_0 : List (Nat × ClassFile.Instr × Nat) := [(0, .aload_n 0, 1), (1, .iload_n 1, 1), (2, .invokevirtual 472, 3), (5, .ifCond .eq 16, 3), (8, .aload_n 0, 1), (9, .iload_n 2, 1), (10, .invokevirtual 472, 3), (13, .ifCond .eq 8, 3), (16, .iload_n 1, 1), (17, .iload_n 2, 1), (18, .if_icmp .ne 5, 3), (21, .iconst (-1), 1), (22, .ireturn, 1), (23, .aload_n 0, 1), (24, .iconst 1, 1), (25, .iconst 0, 1)]
theorem kdX12_alike_0 : dkO cX12_alike 0 ldX12_alike_0 = true := by decide +kernel
theorem dX12_alike_0 : decode cX12_alike 0 = .ok (.aload_n 0, 1) := dk_i kdX12_alike_0 0 rfl
theorem dX12_alike_1 : decode cX12_alike 1 = .ok (.iload_n 1, 1) := dk_i kdX12_alike_0 1 rfl
theorem dX12_alike_2 : decode cX12_alike 2 = .ok (.invokevirtual 472, 3) := dk_i kdX12_alike_0 2 rfl
theorem dX12_alike_5 : decode cX12_alike 5 = .ok (.ifCond .eq 16, 3) := dk_i kdX12_alike_0 3 rfl
theorem dX12_alike_8 : decode cX12_alike 8 = .ok (.aload_n 0, 1) := dk_i kdX12_alike_0 4 rfl
theorem dX12_alike_9 : decode cX12_alike 9 = .ok (.iload_n 2, 1) := dk_i kdX12_alike_0 5 rfl
theorem dX12_alike_10 : decode cX12_alike 10 = .ok (.invokevirtual 472, 3) := dk_i kdX12_alike_0 6 rfl
theorem dX12_alike_13 : decode cX12_alike 13 = .ok (.ifCond .eq 8, 3) := dk_i kdX12_alike_0 7 rfl
theorem dX12_alike_16 : decode cX12_alike 16 = .ok (.iload_n 1, 1) := dk_i kdX12_alike_0 8 rfl
theorem dX12_alike_17 : decode cX12_alike 17 = .ok (.iload_n 2, 1) := dk_i kdX12_alike_0 9 rfl
theorem dX12_alike_18 : decode cX12_alike 18 = .ok (.if_icmp .ne 5, 3) := dk_i kdX12_alike_0 10 rfl
theorem dX12_alike_21 : decode cX12_alike 21 = .ok (.iconst (-1), 1) := dk_i kdX12_alike_0 11 rfl
theorem dX12_alike_22 : decode cX12_alike 22 = .ok (.ireturn, 1) := dk_i kdX12_alike_0 12 rfl
theorem dX12_alike_23 : decode cX12_alike 23 = .ok (.aload_n 0, 1) := dk_i kdX12_alike_0 13 rfl
theorem dX12_alike_24 : decode cX12_alike 24 = .ok (.iconst 1, 1) := dk_i kdX12_alike_0 14 rfl
theorem dX12_alike_25 : decode cX12_alike 25 = .ok (.iconst 0, 1) := dk_i kdX12_alike_0 15 rfl
def ldX12_alike_26 : List (Nat × ClassFile.Instr × Nat) := [(26, .invokevirtual 418, 3), (29, .iconst 0, 1), (30, .istore_n 3, 1), (31, .aload_n 0, 1), (32, .iload_n 3, 1), (33, .iconst 0, 1), (34, .bipush 60, 2), (36, .invokevirtual 478, 3), (39, .ifCond .eq 32, 3), (42, .aload_n 0, 1), (43, .iconst 1, 1), (44, .iload_n 1, 1), (45, .invokevirtual 449, 3), (48, .aload_n 0, 1), (49, .iconst 1, 1), (50, .iload_n 2, 1)]
theorem kdX12_alike_26 : dkO cX12_alike 26 ldX12_alike_26 = true := by decide +kernel
theorem dX12_alike_26 : decode cX12_alike 26 = .ok (.invokevirtual 418, 3) := dk_i kdX12_alike_26 0 rfl
theorem dX12_alike_29 : decode cX12_alike 29 = .ok (.iconst 0, 1) := dk_i kdX12_alike_26 1 rfl
theorem dX12_alike_30 : decode cX12_alike 30 = .ok (.istore_n 3, 1) := dk_i kdX12_alike_26 2 rfl
theorem dX12_alike_31 : decode cX12_alike 31 = .ok (.aload_n 0, 1) := dk_i kdX12_alike_26 3 rfl
theorem dX12_alike_32 : decode cX12_alike 32 = .ok (.iload_n 3, 1) := dk_i kdX12_alike_26 4 rfl
theorem dX12_alike_33 : decode cX12_alike 33 = .ok (.iconst 0, 1) := dk_i kdX12_alike_26 5 rfl
theorem dX12_alike_34 : decode cX12_alike 34 = .ok (.bipush 60, 2) := dk_i kdX12_alike_26 6 rfl
theorem dX12_alike_36 : decode cX12_alike 36 = .ok (.invokevirtual 478, 3) := dk_i kdX12_alike_26 7 rfl
theorem dX12_alike_39 : decode cX12_alike 39 = .ok (.ifCond .eq 32, 3) := dk_i kdX12_alike_26 8 rfl
theorem dX12_alike_42 : decode cX12_alike 42 = .ok (.aload_n 0, 1) := dk_i kdX12_alike_26 9 rfl
theorem dX12_alike_43 : decode cX12_alike 43 = .ok (.iconst 1, 1) := dk_i kdX12_alike_26 10 rfl
theorem dX12_alike_44 : decode cX12_alike 44 = .ok (.iload_n 1, 1) := dk_i kdX12_alike_26 11 rfl
theorem dX12_alike_45 : decode cX12_alike 45 = .ok (.invokevirtual 449, 3) := dk_i kdX12_alike_26 12 rfl
theorem dX12_alike_48 : decode cX12_alike 48 = .ok (.aload_n 0, 1) := dk_i kdX12_alike_26 13 rfl
theorem dX12_alike_49 : decode cX12_alike 49 = .ok (.iconst 1, 1) := dk_i kdX12_alike_26 14 rfl
theorem dX12_alike_50 : decode cX12_alike 50 = .ok (.iload_n 2, 1) := dk_i kdX12_alike_26 15 rfl
def ldX12_alike_51 : List (Nat × ClassFile.Instr × Nat) := [(51, .invokevirtual 449, 3), (54, .if_icmp .ne 5, 3), (57, .iload_n 3, 1), (58, .ireturn, 1), (59, .aload_n 0, 1), (60, .iconst 1, 1), (61, .invokevirtual 481, 3), (64, .pop, 1), (65, .iinc 3 1, 3), (68, .goto (-37), 3), (71, .iconst (-1), 1), (72, .ireturn, 1)]
theorem kdX12_alike_51 : dkO cX12_alike 51 ldX12_alike_51 = true := by decide +kernel
theorem dX12_alike_51 : decode cX12_alike 51 = .ok (.invokevirtual 449, 3) := dk_i kdX12_alike_51 0 rfl
theorem dX12_alike_54 : decode cX12_alike 54 = .ok (.if_icmp .ne 5, 3) := dk_i kdX12_alike_51 1 rfl
theorem dX12_alike_57 : decode cX12_alike 57 = .ok (.iload_n 3, 1) := dk_i kdX12_alike_51 2 rfl
theorem dX12_alike_58 : decode cX12_alike 58 = .ok (.ireturn, 1) := dk_i kdX12_alike_51 3 rfl
theorem dX12_alike_59 : decode cX12_alike 59 = .ok (.aload_n 0, 1) := dk_i kdX12_alike_51 4 rfl
theorem dX12_alike_60 : decode cX12_alike 60 = .ok (.iconst 1, 1) := dk_i kdX12_alike_51 5 rfl
theorem dX12_alike_61 : decode cX12_alike 61 = .ok (.invokevirtual 481, 3) := dk_i kdX12_alike_51 6 rfl
theorem dX12_alike_64 : decode cX12_alike 64 = .ok (.pop, 1) := dk_i kdX12_alike_51 7 rfl
theorem dX12_alike_65 : decode cX12_alike 65 = .ok (.iinc 3 1, 3) := dk_i kdX12_alike_51 8 rfl
theorem dX12_alike_68 : decode cX12_alike 68 = .ok (.goto (-37), 3) := dk_i kdX12_alike_51 9 rfl
theorem dX12_alike_71 : decode cX12_alike 71 = .ok (.iconst (-1), 1) := dk_i kdX12_alike_51 10 rfl
theorem dX12_alike_72 : decode cX12_alike 72 = .ok (.ireturn, 1) := dk_i kdX12_alike_51 11 rfl
def ldX12_isDoneBy_0 : List (Nat × ClassFile.Instr × Nat) := [(0, .aload_n 0, 1), (1, .iconst 1, 1), (2, .iconst 0, 1), (3, .invokevirtual 418, 3), (6, .iconst 0, 1), (7, .istore_n 3, 1), (8, .iload_n 3, 1), (9, .aload_n 0, 1), (10, .getfield 63, 3), (13, .aload_n 0, 1), (14, .getfield 51, 3), (17, .iaload, 1), (18, .if_icmp .ge 31, 3), (21, .aload_n 0, 1), (22, .getfield 189, 3), (25, .iload_n 3, 1)]
theorem kdX12_isDoneBy_0 : dkO cX12_isDoneBy 0 ldX12_isDoneBy_0 = true := by decide +kernel
theorem dX12_isDoneBy_0 : decode cX12_isDoneBy 0 = .ok (.aload_n 0, 1) := dk_i kdX12_isDoneBy_0 0 rfl
theorem dX12_isDoneBy_1 : decode cX12_isDoneBy 1 = .ok (.iconst 1, 1) := dk_i kdX12_isDoneBy_0 1 rfl
theorem dX12_isDoneBy_2 : decode cX12_isDoneBy 2 = .ok (.iconst 0, 1) := dk_i kdX12_isDoneBy_0 2 rfl
theorem dX12_isDoneBy_3 : decode cX12_isDoneBy 3 = .ok (.invokevirtual 418, 3) := dk_i kdX12_isDoneBy_0 3 rfl
theorem dX12_isDoneBy_6 : decode cX12_isDoneBy 6 = .ok (.iconst 0, 1) := dk_i kdX12_isDoneBy_0 4 rfl
theorem dX12_isDoneBy_7 : decode cX12_isDoneBy 7 = .ok (.istore_n 3, 1) := dk_i kdX12_isDoneBy_0 5 rfl
theorem dX12_isDoneBy_8 : decode cX12_isDoneBy 8 = .ok (.iload_n 3, 1) := dk_i kdX12_isDoneBy_0 6 rfl
theorem dX12_isDoneBy_9 : decode cX12_isDoneBy 9 = .ok (.aload_n 0, 1) := dk_i kdX12_isDoneBy_0 7 rfl
theorem dX12_isDoneBy_10 : decode cX12_isDoneBy 10 = .ok (.getfield 63, 3) := dk_i kdX12_isDoneBy_0 8 rfl
theorem dX12_isDoneBy_13 : decode cX12_isDoneBy 13 = .ok (.aload_n 0, 1) := dk_i kdX12_isDoneBy_0 9 rfl
theorem dX12_isDoneBy_14 : decode cX12_isDoneBy 14 = .ok (.getfield 51, 3) := dk_i kdX12_isDoneBy_0 10 rfl
theorem dX12_isDoneBy_17 : decode cX12_isDoneBy 17 = .ok (.iaload, 1) := dk_i kdX12_isDoneBy_0 11 rfl
theorem dX12_isDoneBy_18 : decode cX12_isDoneBy 18 = .ok (.if_icmp .ge 31, 3) := dk_i kdX12_isDoneBy_0 12 rfl
theorem dX12_isDoneBy_21 : decode cX12_isDoneBy 21 = .ok (.aload_n 0, 1) := dk_i kdX12_isDoneBy_0 13 rfl
theorem dX12_isDoneBy_22 : decode cX12_isDoneBy 22 = .ok (.getfield 189, 3) := dk_i kdX12_isDoneBy_0 14 rfl
theorem dX12_isDoneBy_25 : decode cX12_isDoneBy 25 = .ok (.iload_n 3, 1) := dk_i kdX12_isDoneBy_0 15 rfl
def ldX12_isDoneBy_26 : List (Nat × ClassFile.Instr × Nat) := [(26, .iaload, 1), (27, .iconst (-1), 1), (28, .if_icmp .eq 15, 3), (31, .aload_n 0, 1), (32, .iconst 1, 1), (33, .iload_n 3, 1), (34, .aload_n 0, 1), (35, .getfield 189, 3), (38, .iload_n 3, 1), (39, .iaload, 1), (40, .invokevirtual 457, 3), (43, .iinc 3 1, 3), (46, .goto (-38), 3), (49, .aload_n 0, 1), (50, .iconst 1, 1), (51, .invokevirtual 412, 3)]
theorem kdX12_isDoneBy_26 : dkO cX12_isDoneBy 26 ldX12_isDoneBy_26 = true := by decide +kernel
theorem dX12_isDoneBy_26 : decode cX12_isDoneBy 26 = .ok (.iaload, 1) := dk_i kdX12_isDoneBy_26 0 rfl
theorem dX12_isDoneBy_27 : decode cX12_isDoneBy 27 = .ok (.iconst (-1), 1) := dk_i kdX12_isDoneBy_26 1 rfl
theorem dX12_isDoneBy_28 : decode cX12_isDoneBy 28 = .ok (.if_icmp .eq 15, 3) := dk_i kdX12_isDoneBy_26 2 rfl
theorem dX12_isDoneBy_31 : decode cX12_isDoneBy 31 = .ok (.aload_n 0, 1) := dk_i kdX12_isDoneBy_26 3 rfl
theorem dX12_isDoneBy_32 : decode cX12_isDoneBy 32 = .ok (.iconst 1, 1) := dk_i kdX12_isDoneBy_26 4 rfl
theorem dX12_isDoneBy_33 : decode cX12_isDoneBy 33 = .ok (.iload_n 3, 1) := dk_i kdX12_isDoneBy_26 5 rfl
theorem dX12_isDoneBy_34 : decode cX12_isDoneBy 34 = .ok (.aload_n 0, 1) := dk_i kdX12_isDoneBy_26 6 rfl
theorem dX12_isDoneBy_35 : decode cX12_isDoneBy 35 = .ok (.getfield 189, 3) := dk_i kdX12_isDoneBy_26 7 rfl
theorem dX12_isDoneBy_38 : decode cX12_isDoneBy 38 = .ok (.iload_n 3, 1) := dk_i kdX12_isDoneBy_26 8 rfl
theorem dX12_isDoneBy_39 : decode cX12_isDoneBy 39 = .ok (.iaload, 1) := dk_i kdX12_isDoneBy_26 9 rfl
theorem dX12_isDoneBy_40 : decode cX12_isDoneBy 40 = .ok (.invokevirtual 457, 3) := dk_i kdX12_isDoneBy_26 10 rfl
theorem dX12_isDoneBy_43 : decode cX12_isDoneBy 43 = .ok (.iinc 3 1, 3) := dk_i kdX12_isDoneBy_26 11 rfl
theorem dX12_isDoneBy_46 : decode cX12_isDoneBy 46 = .ok (.goto (-38), 3) := dk_i kdX12_isDoneBy_26 12 rfl
theorem dX12_isDoneBy_49 : decode cX12_isDoneBy 49 = .ok (.aload_n 0, 1) := dk_i kdX12_isDoneBy_26 13 rfl
theorem dX12_isDoneBy_50 : decode cX12_isDoneBy 50 = .ok (.iconst 1, 1) := dk_i kdX12_isDoneBy_26 14 rfl
theorem dX12_isDoneBy_51 : decode cX12_isDoneBy 51 = .ok (.invokevirtual 412, 3) := dk_i kdX12_isDoneBy_26 15 rfl
def ldX12_isDoneBy_54 : List (Nat × ClassFile.Instr × Nat) := [(54, .pop, 1), (55, .iconst 0, 1), (56, .istore_n 3, 1), (57, .iload_n 3, 1), (58, .iload_n 2, 1), (59, .if_icmp .ge 15, 3), (62, .aload_n 0, 1), (63, .iconst 1, 1), (64, .invokevirtual 481, 3), (67, .pop, 1), (68, .iinc 3 1, 3), (71, .goto (-14), 3), (74, .iload_n 1, 1), (75, .aload_n 0, 1), (76, .getfield 165, 3), (79, .iconst 1, 1)]
theorem kdX12_isDoneBy_54 : dkO cX12_isDoneBy 54 ldX12_isDoneBy_54 = true := by decide +kernel
theorem dX12_isDoneBy_54 : decode cX12_isDoneBy 54 = .ok (.pop, 1) := dk_i kdX12_isDoneBy_54 0 rfl
theorem dX12_isDoneBy_55 : decode cX12_isDoneBy 55 = .ok (.iconst 0, 1) := dk_i kdX12_isDoneBy_54 1 rfl
theorem dX12_isDoneBy_56 : decode cX12_isDoneBy 56 = .ok (.istore_n 3, 1) := dk_i kdX12_isDoneBy_54 2 rfl
theorem dX12_isDoneBy_57 : decode cX12_isDoneBy 57 = .ok (.iload_n 3, 1) := dk_i kdX12_isDoneBy_54 3 rfl
theorem dX12_isDoneBy_58 : decode cX12_isDoneBy 58 = .ok (.iload_n 2, 1) := dk_i kdX12_isDoneBy_54 4 rfl
theorem dX12_isDoneBy_59 : decode cX12_isDoneBy 59 = .ok (.if_icmp .ge 15, 3) := dk_i kdX12_isDoneBy_54 5 rfl
theorem dX12_isDoneBy_62 : decode cX12_isDoneBy 62 = .ok (.aload_n 0, 1) := dk_i kdX12_isDoneBy_54 6 rfl
theorem dX12_isDoneBy_63 : decode cX12_isDoneBy 63 = .ok (.iconst 1, 1) := dk_i kdX12_isDoneBy_54 7 rfl
theorem dX12_isDoneBy_64 : decode cX12_isDoneBy 64 = .ok (.invokevirtual 481, 3) := dk_i kdX12_isDoneBy_54 8 rfl
theorem dX12_isDoneBy_67 : decode cX12_isDoneBy 67 = .ok (.pop, 1) := dk_i kdX12_isDoneBy_54 9 rfl
theorem dX12_isDoneBy_68 : decode cX12_isDoneBy 68 = .ok (.iinc 3 1, 3) := dk_i kdX12_isDoneBy_54 10 rfl
theorem dX12_isDoneBy_71 : decode cX12_isDoneBy 71 = .ok (.goto (-14), 3) := dk_i kdX12_isDoneBy_54 11 rfl
theorem dX12_isDoneBy_74 : decode cX12_isDoneBy 74 = .ok (.iload_n 1, 1) := dk_i kdX12_isDoneBy_54 12 rfl
theorem dX12_isDoneBy_75 : decode cX12_isDoneBy 75 = .ok (.aload_n 0, 1) := dk_i kdX12_isDoneBy_54 13 rfl
theorem dX12_isDoneBy_76 : decode cX12_isDoneBy 76 = .ok (.getfield 165, 3) := dk_i kdX12_isDoneBy_54 14 rfl
theorem dX12_isDoneBy_79 : decode cX12_isDoneBy 79 = .ok (.iconst 1, 1) := dk_i kdX12_isDoneBy_54 15 rfl
def ldX12_isDoneBy_80 : List (Nat × ClassFile.Instr × Nat) := [(80, .iaload, 1), (81, .iconst (-1), 1), (82, .ixor, 1), (83, .iand, 1), (84, .ifCond .ne 7, 3), (87, .iconst 1, 1), (88, .goto 4, 3), (91, .iconst 0, 1), (92, .ireturn, 1)]
theorem kdX12_isDoneBy_80 : dkO cX12_isDoneBy 80 ldX12_isDoneBy_80 = true := by decide +kernel
theorem dX12_isDoneBy_80 : decode cX12_isDoneBy 80 = .ok (.iaload, 1) := dk_i kdX12_isDoneBy_80 0 rfl
theorem dX12_isDoneBy_81 : decode cX12_isDoneBy 81 = .ok (.iconst (-1), 1) := dk_i kdX12_isDoneBy_80 1 rfl
theorem dX12_isDoneBy_82 : decode cX12_isDoneBy 82 = .ok (.ixor, 1) := dk_i kdX12_isDoneBy_80 2 rfl
theorem dX12_isDoneBy_83 : decode cX12_isDoneBy 83 = .ok (.iand, 1) := dk_i kdX12_isDoneBy_80 3 rfl
theorem dX12_isDoneBy_84 : decode cX12_isDoneBy 84 = .ok (.ifCond .ne 7, 3) := dk_i kdX12_isDoneBy_80 4 rfl
theorem dX12_isDoneBy_87 : decode cX12_isDoneBy 87 = .ok (.iconst 1, 1) := dk_i kdX12_isDoneBy_80 5 rfl
theorem dX12_isDoneBy_88 : decode cX12_isDoneBy 88 = .ok (.goto 4, 3) := dk_i kdX12_isDoneBy_80 6 rfl
theorem dX12_isDoneBy_91 : decode cX12_isDoneBy 91 = .ok (.iconst 0, 1) := dk_i kdX12_isDoneBy_80 7 rfl
theorem dX12_isDoneBy_92 : decode cX12_isDoneBy 92 = .ok (.ireturn, 1) := dk_i kdX12_isDoneBy_80 8 rfl
def ldX12_plan_0 : List (Nat × ClassFile.Instr × Nat) := [(0, .iload_n 1, 1), (1, .iconst 0, 1), (2, .iconst 1, 1), (3, .aload_n 0, 1), (4, .getfield 78, 3), (7, .aload_n 0, 1), (8, .getfield 51, 3), (11, .iaload, 1), (12, .ishl, 1), (13, .iconst 1, 1), (14, .isub, 1), (15, .invokestatic 305, 3), (18, .ifCond .eq 27, 3), (21, .aload_n 0, 1), (22, .iload_n 2, 1), (23, .iconst 0, 1)]
theorem kdX12_plan_0 : dkO cX12_plan 0 ldX12_plan_0 = true := by decide +kernel
theorem dX12_plan_0 : decode cX12_plan 0 = .ok (.iload_n 1, 1) := dk_i kdX12_plan_0 0 rfl
theorem dX12_plan_1 : decode cX12_plan 1 = .ok (.iconst 0, 1) := dk_i kdX12_plan_0 1 rfl
theorem dX12_plan_2 : decode cX12_plan 2 = .ok (.iconst 1, 1) := dk_i kdX12_plan_0 2 rfl
theorem dX12_plan_3 : decode cX12_plan 3 = .ok (.aload_n 0, 1) := dk_i kdX12_plan_0 3 rfl
theorem dX12_plan_4 : decode cX12_plan 4 = .ok (.getfield 78, 3) := dk_i kdX12_plan_0 4 rfl
theorem dX12_plan_7 : decode cX12_plan 7 = .ok (.aload_n 0, 1) := dk_i kdX12_plan_0 5 rfl
theorem dX12_plan_8 : decode cX12_plan 8 = .ok (.getfield 51, 3) := dk_i kdX12_plan_0 6 rfl
theorem dX12_plan_11 : decode cX12_plan 11 = .ok (.iaload, 1) := dk_i kdX12_plan_0 7 rfl
theorem dX12_plan_12 : decode cX12_plan 12 = .ok (.ishl, 1) := dk_i kdX12_plan_0 8 rfl
theorem dX12_plan_13 : decode cX12_plan 13 = .ok (.iconst 1, 1) := dk_i kdX12_plan_0 9 rfl
theorem dX12_plan_14 : decode cX12_plan 14 = .ok (.isub, 1) := dk_i kdX12_plan_0 10 rfl
theorem dX12_plan_15 : decode cX12_plan 15 = .ok (.invokestatic 305, 3) := dk_i kdX12_plan_0 11 rfl
theorem dX12_plan_18 : decode cX12_plan 18 = .ok (.ifCond .eq 27, 3) := dk_i kdX12_plan_0 12 rfl
theorem dX12_plan_21 : decode cX12_plan 21 = .ok (.aload_n 0, 1) := dk_i kdX12_plan_0 13 rfl
theorem dX12_plan_22 : decode cX12_plan 22 = .ok (.iload_n 2, 1) := dk_i kdX12_plan_0 14 rfl
theorem dX12_plan_23 : decode cX12_plan 23 = .ok (.iconst 0, 1) := dk_i kdX12_plan_0 15 rfl
def ldX12_plan_24 : List (Nat × ClassFile.Instr × Nat) := [(24, .bipush 20, 2), (26, .invokevirtual 478, 3), (29, .ifCond .eq 16, 3), (32, .iload_n 3, 1), (33, .iconst (-1), 1), (34, .if_icmp .eq 13, 3), (37, .aload_n 0, 1), (38, .iload_n 3, 1), (39, .invokevirtual 472, 3), (42, .ifCond .ne 5, 3), (45, .iconst (-1), 1), (46, .ireturn, 1), (47, .iconst 1, 1), (48, .istore 4, 2), (50, .iconst 0, 1), (51, .istore 5, 2)]
theorem kdX12_plan_24 : dkO cX12_plan 24 ldX12_plan_24 = true := by decide +kernel
theorem dX12_plan_24 : decode cX12_plan 24 = .ok (.bipush 20, 2) := dk_i kdX12_plan_24 0 rfl
theorem dX12_plan_26 : decode cX12_plan 26 = .ok (.invokevirtual 478, 3) := dk_i kdX12_plan_24 1 rfl
theorem dX12_plan_29 : decode cX12_plan 29 = .ok (.ifCond .eq 16, 3) := dk_i kdX12_plan_24 2 rfl
theorem dX12_plan_32 : decode cX12_plan 32 = .ok (.iload_n 3, 1) := dk_i kdX12_plan_24 3 rfl
theorem dX12_plan_33 : decode cX12_plan 33 = .ok (.iconst (-1), 1) := dk_i kdX12_plan_24 4 rfl
theorem dX12_plan_34 : decode cX12_plan 34 = .ok (.if_icmp .eq 13, 3) := dk_i kdX12_plan_24 5 rfl
theorem dX12_plan_37 : decode cX12_plan 37 = .ok (.aload_n 0, 1) := dk_i kdX12_plan_24 6 rfl
theorem dX12_plan_38 : decode cX12_plan 38 = .ok (.iload_n 3, 1) := dk_i kdX12_plan_24 7 rfl
theorem dX12_plan_39 : decode cX12_plan 39 = .ok (.invokevirtual 472, 3) := dk_i kdX12_plan_24 8 rfl
theorem dX12_plan_42 : decode cX12_plan 42 = .ok (.ifCond .ne 5, 3) := dk_i kdX12_plan_24 9 rfl
theorem dX12_plan_45 : decode cX12_plan 45 = .ok (.iconst (-1), 1) := dk_i kdX12_plan_24 10 rfl
theorem dX12_plan_46 : decode cX12_plan 46 = .ok (.ireturn, 1) := dk_i kdX12_plan_24 11 rfl
theorem dX12_plan_47 : decode cX12_plan 47 = .ok (.iconst 1, 1) := dk_i kdX12_plan_24 12 rfl
theorem dX12_plan_48 : decode cX12_plan 48 = .ok (.istore 4, 2) := dk_i kdX12_plan_24 13 rfl
theorem dX12_plan_50 : decode cX12_plan 50 = .ok (.iconst 0, 1) := dk_i kdX12_plan_24 14 rfl
theorem dX12_plan_51 : decode cX12_plan 51 = .ok (.istore 5, 2) := dk_i kdX12_plan_24 15 rfl
def ldX12_plan_53 : List (Nat × ClassFile.Instr × Nat) := [(53, .iload 5, 2), (55, .aload_n 0, 1), (56, .getfield 63, 3), (59, .aload_n 0, 1), (60, .getfield 51, 3), (63, .iaload, 1), (64, .if_icmp .ge 25, 3), (67, .iload 4, 2), (69, .aload_n 0, 1), (70, .getfield 54, 3), (73, .aload_n 0, 1), (74, .getfield 51, 3), (77, .iaload, 1), (78, .iconst 1, 1), (79, .iadd, 1), (80, .imul, 1)]
theorem kdX12_plan_53 : dkO cX12_plan 53 ldX12_plan_53 = true := by decide +kernel
theorem dX12_plan_53 : decode cX12_plan 53 = .ok (.iload 5, 2) := dk_i kdX12_plan_53 0 rfl
theorem dX12_plan_55 : decode cX12_plan 55 = .ok (.aload_n 0, 1) := dk_i kdX12_plan_53 1 rfl
theorem dX12_plan_56 : decode cX12_plan 56 = .ok (.getfield 63, 3) := dk_i kdX12_plan_53 2 rfl
theorem dX12_plan_59 : decode cX12_plan 59 = .ok (.aload_n 0, 1) := dk_i kdX12_plan_53 3 rfl
theorem dX12_plan_60 : decode cX12_plan 60 = .ok (.getfield 51, 3) := dk_i kdX12_plan_53 4 rfl
theorem dX12_plan_63 : decode cX12_plan 63 = .ok (.iaload, 1) := dk_i kdX12_plan_53 5 rfl
theorem dX12_plan_64 : decode cX12_plan 64 = .ok (.if_icmp .ge 25, 3) := dk_i kdX12_plan_53 6 rfl
theorem dX12_plan_67 : decode cX12_plan 67 = .ok (.iload 4, 2) := dk_i kdX12_plan_53 7 rfl
theorem dX12_plan_69 : decode cX12_plan 69 = .ok (.aload_n 0, 1) := dk_i kdX12_plan_53 8 rfl
theorem dX12_plan_70 : decode cX12_plan 70 = .ok (.getfield 54, 3) := dk_i kdX12_plan_53 9 rfl
theorem dX12_plan_73 : decode cX12_plan 73 = .ok (.aload_n 0, 1) := dk_i kdX12_plan_53 10 rfl
theorem dX12_plan_74 : decode cX12_plan 74 = .ok (.getfield 51, 3) := dk_i kdX12_plan_53 11 rfl
theorem dX12_plan_77 : decode cX12_plan 77 = .ok (.iaload, 1) := dk_i kdX12_plan_53 12 rfl
theorem dX12_plan_78 : decode cX12_plan 78 = .ok (.iconst 1, 1) := dk_i kdX12_plan_53 13 rfl
theorem dX12_plan_79 : decode cX12_plan 79 = .ok (.iadd, 1) := dk_i kdX12_plan_53 14 rfl
theorem dX12_plan_80 : decode cX12_plan 80 = .ok (.imul, 1) := dk_i kdX12_plan_53 15 rfl
def ldX12_plan_81 : List (Nat × ClassFile.Instr × Nat) := [(81, .istore 4, 2), (83, .iinc 5 1, 3), (86, .goto (-33), 3), (89, .iconst (-1), 1), (90, .istore 5, 2), (92, .iconst 0, 1), (93, .istore 6, 2), (95, .iload 6, 2), (97, .iload 4, 2), (99, .if_icmp .ge 166, 3), (102, .iload 6, 2), (104, .istore 7, 2), (106, .iconst 0, 1), (107, .istore 8, 2), (109, .aload_n 0, 1), (110, .getfield 63, 3)]
theorem kdX12_plan_81 : dkO cX12_plan 81 ldX12_plan_81 = true := by decide +kernel
theorem dX12_plan_81 : decode cX12_plan 81 = .ok (.istore 4, 2) := dk_i kdX12_plan_81 0 rfl
theorem dX12_plan_83 : decode cX12_plan 83 = .ok (.iinc 5 1, 3) := dk_i kdX12_plan_81 1 rfl
theorem dX12_plan_86 : decode cX12_plan 86 = .ok (.goto (-33), 3) := dk_i kdX12_plan_81 2 rfl
theorem dX12_plan_89 : decode cX12_plan 89 = .ok (.iconst (-1), 1) := dk_i kdX12_plan_81 3 rfl
theorem dX12_plan_90 : decode cX12_plan 90 = .ok (.istore 5, 2) := dk_i kdX12_plan_81 4 rfl
theorem dX12_plan_92 : decode cX12_plan 92 = .ok (.iconst 0, 1) := dk_i kdX12_plan_81 5 rfl
theorem dX12_plan_93 : decode cX12_plan 93 = .ok (.istore 6, 2) := dk_i kdX12_plan_81 6 rfl
theorem dX12_plan_95 : decode cX12_plan 95 = .ok (.iload 6, 2) := dk_i kdX12_plan_81 7 rfl
theorem dX12_plan_97 : decode cX12_plan 97 = .ok (.iload 4, 2) := dk_i kdX12_plan_81 8 rfl
theorem dX12_plan_99 : decode cX12_plan 99 = .ok (.if_icmp .ge 166, 3) := dk_i kdX12_plan_81 9 rfl
theorem dX12_plan_102 : decode cX12_plan 102 = .ok (.iload 6, 2) := dk_i kdX12_plan_81 10 rfl
theorem dX12_plan_104 : decode cX12_plan 104 = .ok (.istore 7, 2) := dk_i kdX12_plan_81 11 rfl
theorem dX12_plan_106 : decode cX12_plan 106 = .ok (.iconst 0, 1) := dk_i kdX12_plan_81 12 rfl
theorem dX12_plan_107 : decode cX12_plan 107 = .ok (.istore 8, 2) := dk_i kdX12_plan_81 13 rfl
theorem dX12_plan_109 : decode cX12_plan 109 = .ok (.aload_n 0, 1) := dk_i kdX12_plan_81 14 rfl
theorem dX12_plan_110 : decode cX12_plan 110 = .ok (.getfield 63, 3) := dk_i kdX12_plan_81 15 rfl
def ldX12_plan_113 : List (Nat × ClassFile.Instr × Nat) := [(113, .aload_n 0, 1), (114, .getfield 51, 3), (117, .iaload, 1), (118, .iconst 1, 1), (119, .isub, 1), (120, .istore 9, 2), (122, .iload 9, 2), (124, .ifCond .lt 69, 3), (127, .aload_n 0, 1), (128, .getfield 189, 3), (131, .iload 9, 2), (133, .iload 7, 2), (135, .aload_n 0, 1), (136, .getfield 54, 3), (139, .aload_n 0, 1), (140, .getfield 51, 3)]
theorem kdX12_plan_113 : dkO cX12_plan 113 ldX12_plan_113 = true := by decide +kernel
theorem dX12_plan_113 : decode cX12_plan 113 = .ok (.aload_n 0, 1) := dk_i kdX12_plan_113 0 rfl
theorem dX12_plan_114 : decode cX12_plan 114 = .ok (.getfield 51, 3) := dk_i kdX12_plan_113 1 rfl
theorem dX12_plan_117 : decode cX12_plan 117 = .ok (.iaload, 1) := dk_i kdX12_plan_113 2 rfl
theorem dX12_plan_118 : decode cX12_plan 118 = .ok (.iconst 1, 1) := dk_i kdX12_plan_113 3 rfl
theorem dX12_plan_119 : decode cX12_plan 119 = .ok (.isub, 1) := dk_i kdX12_plan_113 4 rfl
theorem dX12_plan_120 : decode cX12_plan 120 = .ok (.istore 9, 2) := dk_i kdX12_plan_113 5 rfl
theorem dX12_plan_122 : decode cX12_plan 122 = .ok (.iload 9, 2) := dk_i kdX12_plan_113 6 rfl
theorem dX12_plan_124 : decode cX12_plan 124 = .ok (.ifCond .lt 69, 3) := dk_i kdX12_plan_113 7 rfl
theorem dX12_plan_127 : decode cX12_plan 127 = .ok (.aload_n 0, 1) := dk_i kdX12_plan_113 8 rfl
theorem dX12_plan_128 : decode cX12_plan 128 = .ok (.getfield 189, 3) := dk_i kdX12_plan_113 9 rfl
theorem dX12_plan_131 : decode cX12_plan 131 = .ok (.iload 9, 2) := dk_i kdX12_plan_113 10 rfl
theorem dX12_plan_133 : decode cX12_plan 133 = .ok (.iload 7, 2) := dk_i kdX12_plan_113 11 rfl
theorem dX12_plan_135 : decode cX12_plan 135 = .ok (.aload_n 0, 1) := dk_i kdX12_plan_113 12 rfl
theorem dX12_plan_136 : decode cX12_plan 136 = .ok (.getfield 54, 3) := dk_i kdX12_plan_113 13 rfl
theorem dX12_plan_139 : decode cX12_plan 139 = .ok (.aload_n 0, 1) := dk_i kdX12_plan_113 14 rfl
theorem dX12_plan_140 : decode cX12_plan 140 = .ok (.getfield 51, 3) := dk_i kdX12_plan_113 15 rfl
def ldX12_plan_143 : List (Nat × ClassFile.Instr × Nat) := [(143, .iaload, 1), (144, .iconst 1, 1), (145, .iadd, 1), (146, .irem, 1), (147, .iconst 1, 1), (148, .isub, 1), (149, .iastore, 1), (150, .iload 7, 2), (152, .aload_n 0, 1), (153, .getfield 54, 3), (156, .aload_n 0, 1), (157, .getfield 51, 3), (160, .iaload, 1), (161, .iconst 1, 1), (162, .iadd, 1), (163, .idiv, 1)]
theorem kdX12_plan_143 : dkO cX12_plan 143 ldX12_plan_143 = true := by decide +kernel
theorem dX12_plan_143 : decode cX12_plan 143 = .ok (.iaload, 1) := dk_i kdX12_plan_143 0 rfl
theorem dX12_plan_144 : decode cX12_plan 144 = .ok (.iconst 1, 1) := dk_i kdX12_plan_143 1 rfl
theorem dX12_plan_145 : decode cX12_plan 145 = .ok (.iadd, 1) := dk_i kdX12_plan_143 2 rfl
theorem dX12_plan_146 : decode cX12_plan 146 = .ok (.irem, 1) := dk_i kdX12_plan_143 3 rfl
theorem dX12_plan_147 : decode cX12_plan 147 = .ok (.iconst 1, 1) := dk_i kdX12_plan_143 4 rfl
theorem dX12_plan_148 : decode cX12_plan 148 = .ok (.isub, 1) := dk_i kdX12_plan_143 5 rfl
theorem dX12_plan_149 : decode cX12_plan 149 = .ok (.iastore, 1) := dk_i kdX12_plan_143 6 rfl
theorem dX12_plan_150 : decode cX12_plan 150 = .ok (.iload 7, 2) := dk_i kdX12_plan_143 7 rfl
theorem dX12_plan_152 : decode cX12_plan 152 = .ok (.aload_n 0, 1) := dk_i kdX12_plan_143 8 rfl
theorem dX12_plan_153 : decode cX12_plan 153 = .ok (.getfield 54, 3) := dk_i kdX12_plan_143 9 rfl
theorem dX12_plan_156 : decode cX12_plan 156 = .ok (.aload_n 0, 1) := dk_i kdX12_plan_143 10 rfl
theorem dX12_plan_157 : decode cX12_plan 157 = .ok (.getfield 51, 3) := dk_i kdX12_plan_143 11 rfl
theorem dX12_plan_160 : decode cX12_plan 160 = .ok (.iaload, 1) := dk_i kdX12_plan_143 12 rfl
theorem dX12_plan_161 : decode cX12_plan 161 = .ok (.iconst 1, 1) := dk_i kdX12_plan_143 13 rfl
theorem dX12_plan_162 : decode cX12_plan 162 = .ok (.iadd, 1) := dk_i kdX12_plan_143 14 rfl
theorem dX12_plan_163 : decode cX12_plan 163 = .ok (.idiv, 1) := dk_i kdX12_plan_143 15 rfl
def ldX12_plan_164 : List (Nat × ClassFile.Instr × Nat) := [(164, .istore 7, 2), (166, .iload 8, 2), (168, .aload_n 0, 1), (169, .getfield 189, 3), (172, .iload 9, 2), (174, .iaload, 1), (175, .iconst (-1), 1), (176, .if_icmp .eq 7, 3), (179, .iconst 1, 1), (180, .goto 4, 3), (183, .iconst 0, 1), (184, .iadd, 1), (185, .istore 8, 2), (187, .iinc 9 (-1), 3), (190, .goto (-68), 3), (193, .iload 5, 2)]
theorem kdX12_plan_164 : dkO cX12_plan 164 ldX12_plan_164 = true := by decide +kernel
theorem dX12_plan_164 : decode cX12_plan 164 = .ok (.istore 7, 2) := dk_i kdX12_plan_164 0 rfl
theorem dX12_plan_166 : decode cX12_plan 166 = .ok (.iload 8, 2) := dk_i kdX12_plan_164 1 rfl
theorem dX12_plan_168 : decode cX12_plan 168 = .ok (.aload_n 0, 1) := dk_i kdX12_plan_164 2 rfl
theorem dX12_plan_169 : decode cX12_plan 169 = .ok (.getfield 189, 3) := dk_i kdX12_plan_164 3 rfl
theorem dX12_plan_172 : decode cX12_plan 172 = .ok (.iload 9, 2) := dk_i kdX12_plan_164 4 rfl
theorem dX12_plan_174 : decode cX12_plan 174 = .ok (.iaload, 1) := dk_i kdX12_plan_164 5 rfl
theorem dX12_plan_175 : decode cX12_plan 175 = .ok (.iconst (-1), 1) := dk_i kdX12_plan_164 6 rfl
theorem dX12_plan_176 : decode cX12_plan 176 = .ok (.if_icmp .eq 7, 3) := dk_i kdX12_plan_164 7 rfl
theorem dX12_plan_179 : decode cX12_plan 179 = .ok (.iconst 1, 1) := dk_i kdX12_plan_164 8 rfl
theorem dX12_plan_180 : decode cX12_plan 180 = .ok (.goto 4, 3) := dk_i kdX12_plan_164 9 rfl
theorem dX12_plan_183 : decode cX12_plan 183 = .ok (.iconst 0, 1) := dk_i kdX12_plan_164 10 rfl
theorem dX12_plan_184 : decode cX12_plan 184 = .ok (.iadd, 1) := dk_i kdX12_plan_164 11 rfl
theorem dX12_plan_185 : decode cX12_plan 185 = .ok (.istore 8, 2) := dk_i kdX12_plan_164 12 rfl
theorem dX12_plan_187 : decode cX12_plan 187 = .ok (.iinc 9 (-1), 3) := dk_i kdX12_plan_164 13 rfl
theorem dX12_plan_190 : decode cX12_plan 190 = .ok (.goto (-68), 3) := dk_i kdX12_plan_164 14 rfl
theorem dX12_plan_193 : decode cX12_plan 193 = .ok (.iload 5, 2) := dk_i kdX12_plan_164 15 rfl
def ldX12_plan_195 : List (Nat × ClassFile.Instr × Nat) := [(195, .iconst (-1), 1), (196, .if_icmp .eq 10, 3), (199, .iload 8, 2), (201, .iload 5, 2), (203, .if_icmp .ge 56, 3), (206, .aload_n 0, 1), (207, .iload_n 1, 1), (208, .iload_n 2, 1), (209, .invokevirtual 484, 3), (212, .ifCond .ne 6, 3), (215, .goto 44, 3), (218, .iload 8, 2), (220, .istore 5, 2), (222, .iconst 0, 1), (223, .istore 9, 2), (225, .iload 9, 2)]
theorem kdX12_plan_195 : dkO cX12_plan 195 ldX12_plan_195 = true := by decide +kernel
theorem dX12_plan_195 : decode cX12_plan 195 = .ok (.iconst (-1), 1) := dk_i kdX12_plan_195 0 rfl
theorem dX12_plan_196 : decode cX12_plan 196 = .ok (.if_icmp .eq 10, 3) := dk_i kdX12_plan_195 1 rfl
theorem dX12_plan_199 : decode cX12_plan 199 = .ok (.iload 8, 2) := dk_i kdX12_plan_195 2 rfl
theorem dX12_plan_201 : decode cX12_plan 201 = .ok (.iload 5, 2) := dk_i kdX12_plan_195 3 rfl
theorem dX12_plan_203 : decode cX12_plan 203 = .ok (.if_icmp .ge 56, 3) := dk_i kdX12_plan_195 4 rfl
theorem dX12_plan_206 : decode cX12_plan 206 = .ok (.aload_n 0, 1) := dk_i kdX12_plan_195 5 rfl
theorem dX12_plan_207 : decode cX12_plan 207 = .ok (.iload_n 1, 1) := dk_i kdX12_plan_195 6 rfl
theorem dX12_plan_208 : decode cX12_plan 208 = .ok (.iload_n 2, 1) := dk_i kdX12_plan_195 7 rfl
theorem dX12_plan_209 : decode cX12_plan 209 = .ok (.invokevirtual 484, 3) := dk_i kdX12_plan_195 8 rfl
theorem dX12_plan_212 : decode cX12_plan 212 = .ok (.ifCond .ne 6, 3) := dk_i kdX12_plan_195 9 rfl
theorem dX12_plan_215 : decode cX12_plan 215 = .ok (.goto 44, 3) := dk_i kdX12_plan_195 10 rfl
theorem dX12_plan_218 : decode cX12_plan 218 = .ok (.iload 8, 2) := dk_i kdX12_plan_195 11 rfl
theorem dX12_plan_220 : decode cX12_plan 220 = .ok (.istore 5, 2) := dk_i kdX12_plan_195 12 rfl
theorem dX12_plan_222 : decode cX12_plan 222 = .ok (.iconst 0, 1) := dk_i kdX12_plan_195 13 rfl
theorem dX12_plan_223 : decode cX12_plan 223 = .ok (.istore 9, 2) := dk_i kdX12_plan_195 14 rfl
theorem dX12_plan_225 : decode cX12_plan 225 = .ok (.iload 9, 2) := dk_i kdX12_plan_195 15 rfl
def ldX12_plan_227 : List (Nat × ClassFile.Instr × Nat) := [(227, .aload_n 0, 1), (228, .getfield 63, 3), (231, .aload_n 0, 1), (232, .getfield 51, 3), (235, .iaload, 1), (236, .if_icmp .ge 23, 3), (239, .aload_n 0, 1), (240, .getfield 192, 3), (243, .iload 9, 2), (245, .aload_n 0, 1), (246, .getfield 189, 3), (249, .iload 9, 2), (251, .iaload, 1), (252, .iastore, 1), (253, .iinc 9 1, 3), (256, .goto (-31), 3)]
theorem kdX12_plan_227 : dkO cX12_plan 227 ldX12_plan_227 = true := by decide +kernel
theorem dX12_plan_227 : decode cX12_plan 227 = .ok (.aload_n 0, 1) := dk_i kdX12_plan_227 0 rfl
theorem dX12_plan_228 : decode cX12_plan 228 = .ok (.getfield 63, 3) := dk_i kdX12_plan_227 1 rfl
theorem dX12_plan_231 : decode cX12_plan 231 = .ok (.aload_n 0, 1) := dk_i kdX12_plan_227 2 rfl
theorem dX12_plan_232 : decode cX12_plan 232 = .ok (.getfield 51, 3) := dk_i kdX12_plan_227 3 rfl
theorem dX12_plan_235 : decode cX12_plan 235 = .ok (.iaload, 1) := dk_i kdX12_plan_227 4 rfl
theorem dX12_plan_236 : decode cX12_plan 236 = .ok (.if_icmp .ge 23, 3) := dk_i kdX12_plan_227 5 rfl
theorem dX12_plan_239 : decode cX12_plan 239 = .ok (.aload_n 0, 1) := dk_i kdX12_plan_227 6 rfl
theorem dX12_plan_240 : decode cX12_plan 240 = .ok (.getfield 192, 3) := dk_i kdX12_plan_227 7 rfl
theorem dX12_plan_243 : decode cX12_plan 243 = .ok (.iload 9, 2) := dk_i kdX12_plan_227 8 rfl
theorem dX12_plan_245 : decode cX12_plan 245 = .ok (.aload_n 0, 1) := dk_i kdX12_plan_227 9 rfl
theorem dX12_plan_246 : decode cX12_plan 246 = .ok (.getfield 189, 3) := dk_i kdX12_plan_227 10 rfl
theorem dX12_plan_249 : decode cX12_plan 249 = .ok (.iload 9, 2) := dk_i kdX12_plan_227 11 rfl
theorem dX12_plan_251 : decode cX12_plan 251 = .ok (.iaload, 1) := dk_i kdX12_plan_227 12 rfl
theorem dX12_plan_252 : decode cX12_plan 252 = .ok (.iastore, 1) := dk_i kdX12_plan_227 13 rfl
theorem dX12_plan_253 : decode cX12_plan 253 = .ok (.iinc 9 1, 3) := dk_i kdX12_plan_227 14 rfl
theorem dX12_plan_256 : decode cX12_plan 256 = .ok (.goto (-31), 3) := dk_i kdX12_plan_227 15 rfl
def ldX12_plan_259 : List (Nat × ClassFile.Instr × Nat) := [(259, .iinc 6 1, 3), (262, .goto (-167), 3), (265, .iload 5, 2), (267, .iconst (-1), 1), (268, .if_icmp .eq 8, 3), (271, .iload_n 3, 1), (272, .iconst (-1), 1), (273, .if_icmp .ne 8, 3), (276, .iload 5, 2), (278, .goto 9, 3), (281, .aload_n 0, 1), (282, .getfield 192, 3), (285, .iload_n 3, 1), (286, .iaload, 1), (287, .ireturn, 1)]
theorem kdX12_plan_259 : dkO cX12_plan 259 ldX12_plan_259 = true := by decide +kernel
theorem dX12_plan_259 : decode cX12_plan 259 = .ok (.iinc 6 1, 3) := dk_i kdX12_plan_259 0 rfl
theorem dX12_plan_262 : decode cX12_plan 262 = .ok (.goto (-167), 3) := dk_i kdX12_plan_259 1 rfl
theorem dX12_plan_265 : decode cX12_plan 265 = .ok (.iload 5, 2) := dk_i kdX12_plan_259 2 rfl
theorem dX12_plan_267 : decode cX12_plan 267 = .ok (.iconst (-1), 1) := dk_i kdX12_plan_259 3 rfl
theorem dX12_plan_268 : decode cX12_plan 268 = .ok (.if_icmp .eq 8, 3) := dk_i kdX12_plan_259 4 rfl
theorem dX12_plan_271 : decode cX12_plan 271 = .ok (.iload_n 3, 1) := dk_i kdX12_plan_259 5 rfl
theorem dX12_plan_272 : decode cX12_plan 272 = .ok (.iconst (-1), 1) := dk_i kdX12_plan_259 6 rfl
theorem dX12_plan_273 : decode cX12_plan 273 = .ok (.if_icmp .ne 8, 3) := dk_i kdX12_plan_259 7 rfl
theorem dX12_plan_276 : decode cX12_plan 276 = .ok (.iload 5, 2) := dk_i kdX12_plan_259 8 rfl
theorem dX12_plan_278 : decode cX12_plan 278 = .ok (.goto 9, 3) := dk_i kdX12_plan_259 9 rfl
theorem dX12_plan_281 : decode cX12_plan 281 = .ok (.aload_n 0, 1) := dk_i kdX12_plan_259 10 rfl
theorem dX12_plan_282 : decode cX12_plan 282 = .ok (.getfield 192, 3) := dk_i kdX12_plan_259 11 rfl
theorem dX12_plan_285 : decode cX12_plan 285 = .ok (.iload_n 3, 1) := dk_i kdX12_plan_259 12 rfl
theorem dX12_plan_286 : decode cX12_plan 286 = .ok (.iaload, 1) := dk_i kdX12_plan_259 13 rfl
theorem dX12_plan_287 : decode cX12_plan 287 = .ok (.ireturn, 1) := dk_i kdX12_plan_259 14 rfl
def ldX12_evening_0 : List (Nat × ClassFile.Instr × Nat) := [(0, .aload_n 0, 1), (1, .iload_n 1, 1), (2, .invokevirtual 472, 3), (5, .ifCond .eq 12, 3), (8, .iload_n 2, 1), (9, .iconst 0, 1), (10, .iconst 1, 1), (11, .invokestatic 305, 3), (14, .ifCond .ne 5, 3), (17, .iconst (-1), 1), (18, .ireturn, 1), (19, .iconst (-1), 1), (20, .istore_n 3, 1), (21, .iconst (-1), 1), (22, .istore 4, 2), (24, .iconst 0, 1)]
theorem kdX12_evening_0 : dkO cX12_evening 0 ldX12_evening_0 = true := by decide +kernel
theorem dX12_evening_0 : decode cX12_evening 0 = .ok (.aload_n 0, 1) := dk_i kdX12_evening_0 0 rfl
theorem dX12_evening_1 : decode cX12_evening 1 = .ok (.iload_n 1, 1) := dk_i kdX12_evening_0 1 rfl
theorem dX12_evening_2 : decode cX12_evening 2 = .ok (.invokevirtual 472, 3) := dk_i kdX12_evening_0 2 rfl
theorem dX12_evening_5 : decode cX12_evening 5 = .ok (.ifCond .eq 12, 3) := dk_i kdX12_evening_0 3 rfl
theorem dX12_evening_8 : decode cX12_evening 8 = .ok (.iload_n 2, 1) := dk_i kdX12_evening_0 4 rfl
theorem dX12_evening_9 : decode cX12_evening 9 = .ok (.iconst 0, 1) := dk_i kdX12_evening_0 5 rfl
theorem dX12_evening_10 : decode cX12_evening 10 = .ok (.iconst 1, 1) := dk_i kdX12_evening_0 6 rfl
theorem dX12_evening_11 : decode cX12_evening 11 = .ok (.invokestatic 305, 3) := dk_i kdX12_evening_0 7 rfl
theorem dX12_evening_14 : decode cX12_evening 14 = .ok (.ifCond .ne 5, 3) := dk_i kdX12_evening_0 8 rfl
theorem dX12_evening_17 : decode cX12_evening 17 = .ok (.iconst (-1), 1) := dk_i kdX12_evening_0 9 rfl
theorem dX12_evening_18 : decode cX12_evening 18 = .ok (.ireturn, 1) := dk_i kdX12_evening_0 10 rfl
theorem dX12_evening_19 : decode cX12_evening 19 = .ok (.iconst (-1), 1) := dk_i kdX12_evening_0 11 rfl
theorem dX12_evening_20 : decode cX12_evening 20 = .ok (.istore_n 3, 1) := dk_i kdX12_evening_0 12 rfl
theorem dX12_evening_21 : decode cX12_evening 21 = .ok (.iconst (-1), 1) := dk_i kdX12_evening_0 13 rfl
theorem dX12_evening_22 : decode cX12_evening 22 = .ok (.istore 4, 2) := dk_i kdX12_evening_0 14 rfl
theorem dX12_evening_24 : decode cX12_evening 24 = .ok (.iconst 0, 1) := dk_i kdX12_evening_0 15 rfl
def ldX12_evening_25 : List (Nat × ClassFile.Instr × Nat) := [(25, .istore 5, 2), (27, .iload 5, 2), (29, .aload_n 0, 1)]
theorem kdX12_evening_25 : dkO cX12_evening 25 ldX12_evening_25 = true := by decide +kernel
theorem dX12_evening_25 : decode cX12_evening 25 = .ok (.istore 5, 2) := dk_i kdX12_evening_25 0 rfl
theorem dX12_evening_27 : decode cX12_evening 27 = .ok (.iload 5, 2) := dk_i kdX12_evening_25 1 rfl
theorem dX12_evening_29 : decode cX12_evening 29 = .ok (.aload_n 0, 1) := dk_i kdX12_evening_25 2 rfl
