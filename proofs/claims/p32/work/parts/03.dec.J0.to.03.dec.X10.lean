section
def ldJ0_length_8abf5_0 : List (Nat × ClassFile.Instr × Nat) := [(0, .aload_n 0, 1), (1, .getfield 9, 3), (4, .arraylength, 1), (5, .aload_n 0, 1), (6, .invokevirtual 335, 3), (9, .ishr, 1), (10, .ireturn, 1)]
theorem kdJ0_length_8abf5_0 : dkO cJ0_length_8abf5 0 ldJ0_length_8abf5_0 = true := by decide +kernel
theorem dJ0_length_8abf5_0 : decode cJ0_length_8abf5 0 = .ok (.aload_n 0, 1) := dk_i kdJ0_length_8abf5_0 0 rfl
theorem dJ0_length_8abf5_1 : decode cJ0_length_8abf5 1 = .ok (.getfield 9, 3) := dk_i kdJ0_length_8abf5_0 1 rfl
theorem dJ0_length_8abf5_4 : decode cJ0_length_8abf5 4 = .ok (.arraylength, 1) := dk_i kdJ0_length_8abf5_0 2 rfl
theorem dJ0_length_8abf5_5 : decode cJ0_length_8abf5 5 = .ok (.aload_n 0, 1) := dk_i kdJ0_length_8abf5_0 3 rfl
theorem dJ0_length_8abf5_6 : decode cJ0_length_8abf5 6 = .ok (.invokevirtual 335, 3) := dk_i kdJ0_length_8abf5_0 4 rfl
theorem dJ0_length_8abf5_9 : decode cJ0_length_8abf5 9 = .ok (.ishr, 1) := dk_i kdJ0_length_8abf5_0 5 rfl
theorem dJ0_length_8abf5_10 : decode cJ0_length_8abf5 10 = .ok (.ireturn, 1) := dk_i kdJ0_length_8abf5_0 6 rfl
def ldJ0_charAt_5068e_0 : List (Nat × ClassFile.Instr × Nat) := [(0, .aload_n 0, 1), (1, .invokevirtual 492, 3), (4, .ifCond .eq 12, 3), (7, .aload_n 0, 1), (8, .getfield 9, 3), (11, .iload_n 1, 1), (12, .invokestatic 495, 3), (15, .ireturn, 1), (16, .aload_n 0, 1), (17, .getfield 9, 3), (20, .iload_n 1, 1), (21, .invokestatic 498, 3), (24, .ireturn, 1)]
theorem kdJ0_charAt_5068e_0 : dkO cJ0_charAt_5068e 0 ldJ0_charAt_5068e_0 = true := by decide +kernel
theorem dJ0_charAt_5068e_0 : decode cJ0_charAt_5068e 0 = .ok (.aload_n 0, 1) := dk_i kdJ0_charAt_5068e_0 0 rfl
theorem dJ0_charAt_5068e_1 : decode cJ0_charAt_5068e 1 = .ok (.invokevirtual 492, 3) := dk_i kdJ0_charAt_5068e_0 1 rfl
theorem dJ0_charAt_5068e_4 : decode cJ0_charAt_5068e 4 = .ok (.ifCond .eq 12, 3) := dk_i kdJ0_charAt_5068e_0 2 rfl
theorem dJ0_charAt_5068e_7 : decode cJ0_charAt_5068e 7 = .ok (.aload_n 0, 1) := dk_i kdJ0_charAt_5068e_0 3 rfl
theorem dJ0_charAt_5068e_8 : decode cJ0_charAt_5068e 8 = .ok (.getfield 9, 3) := dk_i kdJ0_charAt_5068e_0 4 rfl
theorem dJ0_charAt_5068e_11 : decode cJ0_charAt_5068e 11 = .ok (.iload_n 1, 1) := dk_i kdJ0_charAt_5068e_0 5 rfl
theorem dJ0_charAt_5068e_12 : decode cJ0_charAt_5068e 12 = .ok (.invokestatic 495, 3) := dk_i kdJ0_charAt_5068e_0 6 rfl
theorem dJ0_charAt_5068e_15 : decode cJ0_charAt_5068e 15 = .ok (.ireturn, 1) := dk_i kdJ0_charAt_5068e_0 7 rfl
theorem dJ0_charAt_5068e_16 : decode cJ0_charAt_5068e 16 = .ok (.aload_n 0, 1) := dk_i kdJ0_charAt_5068e_0 8 rfl
theorem dJ0_charAt_5068e_17 : decode cJ0_charAt_5068e 17 = .ok (.getfield 9, 3) := dk_i kdJ0_charAt_5068e_0 9 rfl
theorem dJ0_charAt_5068e_20 : decode cJ0_charAt_5068e 20 = .ok (.iload_n 1, 1) := dk_i kdJ0_charAt_5068e_0 10 rfl
theorem dJ0_charAt_5068e_21 : decode cJ0_charAt_5068e 21 = .ok (.invokestatic 498, 3) := dk_i kdJ0_charAt_5068e_0 11 rfl
theorem dJ0_charAt_5068e_24 : decode cJ0_charAt_5068e 24 = .ok (.ireturn, 1) := dk_i kdJ0_charAt_5068e_0 12 rfl
def ldJ0_coder_7d493_0 : List (Nat × ClassFile.Instr × Nat) := [(0, .getstatic 38, 3), (3, .ifCond .eq 10, 3), (6, .aload_n 0, 1), (7, .getfield 15, 3), (10, .goto 4, 3), (13, .iconst 1, 1), (14, .ireturn, 1)]
theorem kdJ0_coder_7d493_0 : dkO cJ0_coder_7d493 0 ldJ0_coder_7d493_0 = true := by decide +kernel
theorem dJ0_coder_7d493_0 : decode cJ0_coder_7d493 0 = .ok (.getstatic 38, 3) := dk_i kdJ0_coder_7d493_0 0 rfl
theorem dJ0_coder_7d493_3 : decode cJ0_coder_7d493 3 = .ok (.ifCond .eq 10, 3) := dk_i kdJ0_coder_7d493_0 1 rfl
theorem dJ0_coder_7d493_6 : decode cJ0_coder_7d493 6 = .ok (.aload_n 0, 1) := dk_i kdJ0_coder_7d493_0 2 rfl
theorem dJ0_coder_7d493_7 : decode cJ0_coder_7d493 7 = .ok (.getfield 15, 3) := dk_i kdJ0_coder_7d493_0 3 rfl
theorem dJ0_coder_7d493_10 : decode cJ0_coder_7d493 10 = .ok (.goto 4, 3) := dk_i kdJ0_coder_7d493_0 4 rfl
theorem dJ0_coder_7d493_13 : decode cJ0_coder_7d493 13 = .ok (.iconst 1, 1) := dk_i kdJ0_coder_7d493_0 5 rfl
theorem dJ0_coder_7d493_14 : decode cJ0_coder_7d493 14 = .ok (.ireturn, 1) := dk_i kdJ0_coder_7d493_0 6 rfl
def ldJ0_isLatin1_aae02_0 : List (Nat × ClassFile.Instr × Nat) := [(0, .getstatic 38, 3), (3, .ifCond .eq 14, 3), (6, .aload_n 0, 1), (7, .getfield 15, 3), (10, .ifCond .ne 7, 3), (13, .iconst 1, 1), (14, .goto 4, 3), (17, .iconst 0, 1), (18, .ireturn, 1)]
theorem kdJ0_isLatin1_aae02_0 : dkO cJ0_isLatin1_aae02 0 ldJ0_isLatin1_aae02_0 = true := by decide +kernel
theorem dJ0_isLatin1_aae02_0 : decode cJ0_isLatin1_aae02 0 = .ok (.getstatic 38, 3) := dk_i kdJ0_isLatin1_aae02_0 0 rfl
theorem dJ0_isLatin1_aae02_3 : decode cJ0_isLatin1_aae02 3 = .ok (.ifCond .eq 14, 3) := dk_i kdJ0_isLatin1_aae02_0 1 rfl
theorem dJ0_isLatin1_aae02_6 : decode cJ0_isLatin1_aae02 6 = .ok (.aload_n 0, 1) := dk_i kdJ0_isLatin1_aae02_0 2 rfl
theorem dJ0_isLatin1_aae02_7 : decode cJ0_isLatin1_aae02 7 = .ok (.getfield 15, 3) := dk_i kdJ0_isLatin1_aae02_0 3 rfl
theorem dJ0_isLatin1_aae02_10 : decode cJ0_isLatin1_aae02 10 = .ok (.ifCond .ne 7, 3) := dk_i kdJ0_isLatin1_aae02_0 4 rfl
theorem dJ0_isLatin1_aae02_13 : decode cJ0_isLatin1_aae02 13 = .ok (.iconst 1, 1) := dk_i kdJ0_isLatin1_aae02_0 5 rfl
theorem dJ0_isLatin1_aae02_14 : decode cJ0_isLatin1_aae02 14 = .ok (.goto 4, 3) := dk_i kdJ0_isLatin1_aae02_0 6 rfl
theorem dJ0_isLatin1_aae02_17 : decode cJ0_isLatin1_aae02 17 = .ok (.iconst 0, 1) := dk_i kdJ0_isLatin1_aae02_0 7 rfl
theorem dJ0_isLatin1_aae02_18 : decode cJ0_isLatin1_aae02 18 = .ok (.ireturn, 1) := dk_i kdJ0_isLatin1_aae02_0 8 rfl
def ldJ0_checkIndex_df160_0 : List (Nat × ClassFile.Instr × Nat) := [(0, .iload_n 0, 1), (1, .iload_n 1, 1), (2, .getstatic 1053, 3), (5, .invokestatic 1059, 3), (8, .pop, 1), (9, .return_, 1)]
theorem kdJ0_checkIndex_df160_0 : dkO cJ0_checkIndex_df160 0 ldJ0_checkIndex_df160_0 = true := by decide +kernel
theorem dJ0_checkIndex_df160_0 : decode cJ0_checkIndex_df160 0 = .ok (.iload_n 0, 1) := dk_i kdJ0_checkIndex_df160_0 0 rfl
theorem dJ0_checkIndex_df160_1 : decode cJ0_checkIndex_df160 1 = .ok (.iload_n 1, 1) := dk_i kdJ0_checkIndex_df160_0 1 rfl
theorem dJ0_checkIndex_df160_2 : decode cJ0_checkIndex_df160 2 = .ok (.getstatic 1053, 3) := dk_i kdJ0_checkIndex_df160_0 2 rfl
theorem dJ0_checkIndex_df160_5 : decode cJ0_checkIndex_df160 5 = .ok (.invokestatic 1059, 3) := dk_i kdJ0_checkIndex_df160_0 3 rfl
theorem dJ0_checkIndex_df160_8 : decode cJ0_checkIndex_df160 8 = .ok (.pop, 1) := dk_i kdJ0_checkIndex_df160_0 4 rfl
theorem dJ0_checkIndex_df160_9 : decode cJ0_checkIndex_df160 9 = .ok (.return_, 1) := dk_i kdJ0_checkIndex_df160_0 5 rfl
end
section
def ldJ1_charAt_3b067_0 : List (Nat × ClassFile.Instr × Nat) := [(0, .iload_n 1, 1), (1, .aload_n 0, 1), (2, .arraylength, 1), (3, .invokestatic 9, 3), (6, .aload_n 0, 1), (7, .iload_n 1, 1), (8, .baload, 1), (9, .sipush 255, 3), (12, .iand, 1), (13, .i2c, 1), (14, .ireturn, 1)]
theorem kdJ1_charAt_3b067_0 : dkO cJ1_charAt_3b067 0 ldJ1_charAt_3b067_0 = true := by decide +kernel
theorem dJ1_charAt_3b067_0 : decode cJ1_charAt_3b067 0 = .ok (.iload_n 1, 1) := dk_i kdJ1_charAt_3b067_0 0 rfl
theorem dJ1_charAt_3b067_1 : decode cJ1_charAt_3b067 1 = .ok (.aload_n 0, 1) := dk_i kdJ1_charAt_3b067_0 1 rfl
theorem dJ1_charAt_3b067_2 : decode cJ1_charAt_3b067 2 = .ok (.arraylength, 1) := dk_i kdJ1_charAt_3b067_0 2 rfl
theorem dJ1_charAt_3b067_3 : decode cJ1_charAt_3b067 3 = .ok (.invokestatic 9, 3) := dk_i kdJ1_charAt_3b067_0 3 rfl
theorem dJ1_charAt_3b067_6 : decode cJ1_charAt_3b067 6 = .ok (.aload_n 0, 1) := dk_i kdJ1_charAt_3b067_0 4 rfl
theorem dJ1_charAt_3b067_7 : decode cJ1_charAt_3b067 7 = .ok (.iload_n 1, 1) := dk_i kdJ1_charAt_3b067_0 5 rfl
theorem dJ1_charAt_3b067_8 : decode cJ1_charAt_3b067 8 = .ok (.baload, 1) := dk_i kdJ1_charAt_3b067_0 6 rfl
theorem dJ1_charAt_3b067_9 : decode cJ1_charAt_3b067 9 = .ok (.sipush 255, 3) := dk_i kdJ1_charAt_3b067_0 7 rfl
theorem dJ1_charAt_3b067_12 : decode cJ1_charAt_3b067 12 = .ok (.iand, 1) := dk_i kdJ1_charAt_3b067_0 8 rfl
theorem dJ1_charAt_3b067_13 : decode cJ1_charAt_3b067 13 = .ok (.i2c, 1) := dk_i kdJ1_charAt_3b067_0 9 rfl
theorem dJ1_charAt_3b067_14 : decode cJ1_charAt_3b067 14 = .ok (.ireturn, 1) := dk_i kdJ1_charAt_3b067_0 10 rfl
end
section
def ldJ2_getChar_3b067_0 : List (Nat × ClassFile.Instr × Nat) := [(0, .getstatic 44, 3), (3, .ifCond .ne 25, 3), (6, .iload_n 1, 1), (7, .ifCond .lt 11, 3), (10, .iload_n 1, 1), (11, .aload_n 0, 1), (12, .invokestatic 48, 3), (15, .if_icmp .lt 13, 3), (18, .new 52, 3), (21, .dup, 1), (22, .ldc 54, 2), (24, .invokespecial 56, 3), (27, .athrow, 1), (28, .iload_n 1, 1), (29, .iconst 1, 1), (30, .ishl, 1)]
theorem kdJ2_getChar_3b067_0 : dkO cJ2_getChar_3b067 0 ldJ2_getChar_3b067_0 = true := by decide +kernel
theorem dJ2_getChar_3b067_0 : decode cJ2_getChar_3b067 0 = .ok (.getstatic 44, 3) := dk_i kdJ2_getChar_3b067_0 0 rfl
theorem dJ2_getChar_3b067_3 : decode cJ2_getChar_3b067 3 = .ok (.ifCond .ne 25, 3) := dk_i kdJ2_getChar_3b067_0 1 rfl
theorem dJ2_getChar_3b067_6 : decode cJ2_getChar_3b067 6 = .ok (.iload_n 1, 1) := dk_i kdJ2_getChar_3b067_0 2 rfl
theorem dJ2_getChar_3b067_7 : decode cJ2_getChar_3b067 7 = .ok (.ifCond .lt 11, 3) := dk_i kdJ2_getChar_3b067_0 3 rfl
theorem dJ2_getChar_3b067_10 : decode cJ2_getChar_3b067 10 = .ok (.iload_n 1, 1) := dk_i kdJ2_getChar_3b067_0 4 rfl
theorem dJ2_getChar_3b067_11 : decode cJ2_getChar_3b067 11 = .ok (.aload_n 0, 1) := dk_i kdJ2_getChar_3b067_0 5 rfl
theorem dJ2_getChar_3b067_12 : decode cJ2_getChar_3b067 12 = .ok (.invokestatic 48, 3) := dk_i kdJ2_getChar_3b067_0 6 rfl
theorem dJ2_getChar_3b067_15 : decode cJ2_getChar_3b067 15 = .ok (.if_icmp .lt 13, 3) := dk_i kdJ2_getChar_3b067_0 7 rfl
theorem dJ2_getChar_3b067_18 : decode cJ2_getChar_3b067 18 = .ok (.new 52, 3) := dk_i kdJ2_getChar_3b067_0 8 rfl
theorem dJ2_getChar_3b067_21 : decode cJ2_getChar_3b067 21 = .ok (.dup, 1) := dk_i kdJ2_getChar_3b067_0 9 rfl
theorem dJ2_getChar_3b067_22 : decode cJ2_getChar_3b067 22 = .ok (.ldc 54, 2) := dk_i kdJ2_getChar_3b067_0 10 rfl
theorem dJ2_getChar_3b067_24 : decode cJ2_getChar_3b067 24 = .ok (.invokespecial 56, 3) := dk_i kdJ2_getChar_3b067_0 11 rfl
theorem dJ2_getChar_3b067_27 : decode cJ2_getChar_3b067 27 = .ok (.athrow, 1) := dk_i kdJ2_getChar_3b067_0 12 rfl
theorem dJ2_getChar_3b067_28 : decode cJ2_getChar_3b067 28 = .ok (.iload_n 1, 1) := dk_i kdJ2_getChar_3b067_0 13 rfl
theorem dJ2_getChar_3b067_29 : decode cJ2_getChar_3b067 29 = .ok (.iconst 1, 1) := dk_i kdJ2_getChar_3b067_0 14 rfl
theorem dJ2_getChar_3b067_30 : decode cJ2_getChar_3b067 30 = .ok (.ishl, 1) := dk_i kdJ2_getChar_3b067_0 15 rfl
def ldJ2_getChar_3b067_31 : List (Nat × ClassFile.Instr × Nat) := [(31, .istore_n 1, 1), (32, .aload_n 0, 1), (33, .iload_n 1, 1), (34, .iinc 1 1, 3), (37, .baload, 1), (38, .sipush 255, 3), (41, .iand, 1), (42, .getstatic 59, 3), (45, .ishl, 1), (46, .aload_n 0, 1), (47, .iload_n 1, 1), (48, .baload, 1), (49, .sipush 255, 3), (52, .iand, 1), (53, .getstatic 63, 3), (56, .ishl, 1)]
theorem kdJ2_getChar_3b067_31 : dkO cJ2_getChar_3b067 31 ldJ2_getChar_3b067_31 = true := by decide +kernel
theorem dJ2_getChar_3b067_31 : decode cJ2_getChar_3b067 31 = .ok (.istore_n 1, 1) := dk_i kdJ2_getChar_3b067_31 0 rfl
theorem dJ2_getChar_3b067_32 : decode cJ2_getChar_3b067 32 = .ok (.aload_n 0, 1) := dk_i kdJ2_getChar_3b067_31 1 rfl
theorem dJ2_getChar_3b067_33 : decode cJ2_getChar_3b067 33 = .ok (.iload_n 1, 1) := dk_i kdJ2_getChar_3b067_31 2 rfl
theorem dJ2_getChar_3b067_34 : decode cJ2_getChar_3b067 34 = .ok (.iinc 1 1, 3) := dk_i kdJ2_getChar_3b067_31 3 rfl
theorem dJ2_getChar_3b067_37 : decode cJ2_getChar_3b067 37 = .ok (.baload, 1) := dk_i kdJ2_getChar_3b067_31 4 rfl
theorem dJ2_getChar_3b067_38 : decode cJ2_getChar_3b067 38 = .ok (.sipush 255, 3) := dk_i kdJ2_getChar_3b067_31 5 rfl
theorem dJ2_getChar_3b067_41 : decode cJ2_getChar_3b067 41 = .ok (.iand, 1) := dk_i kdJ2_getChar_3b067_31 6 rfl
theorem dJ2_getChar_3b067_42 : decode cJ2_getChar_3b067 42 = .ok (.getstatic 59, 3) := dk_i kdJ2_getChar_3b067_31 7 rfl
theorem dJ2_getChar_3b067_45 : decode cJ2_getChar_3b067 45 = .ok (.ishl, 1) := dk_i kdJ2_getChar_3b067_31 8 rfl
theorem dJ2_getChar_3b067_46 : decode cJ2_getChar_3b067 46 = .ok (.aload_n 0, 1) := dk_i kdJ2_getChar_3b067_31 9 rfl
theorem dJ2_getChar_3b067_47 : decode cJ2_getChar_3b067 47 = .ok (.iload_n 1, 1) := dk_i kdJ2_getChar_3b067_31 10 rfl
theorem dJ2_getChar_3b067_48 : decode cJ2_getChar_3b067 48 = .ok (.baload, 1) := dk_i kdJ2_getChar_3b067_31 11 rfl
theorem dJ2_getChar_3b067_49 : decode cJ2_getChar_3b067 49 = .ok (.sipush 255, 3) := dk_i kdJ2_getChar_3b067_31 12 rfl
theorem dJ2_getChar_3b067_52 : decode cJ2_getChar_3b067 52 = .ok (.iand, 1) := dk_i kdJ2_getChar_3b067_31 13 rfl
theorem dJ2_getChar_3b067_53 : decode cJ2_getChar_3b067 53 = .ok (.getstatic 63, 3) := dk_i kdJ2_getChar_3b067_31 14 rfl
theorem dJ2_getChar_3b067_56 : decode cJ2_getChar_3b067 56 = .ok (.ishl, 1) := dk_i kdJ2_getChar_3b067_31 15 rfl
def ldJ2_getChar_3b067_57 : List (Nat × ClassFile.Instr × Nat) := [(57, .ior, 1), (58, .i2c, 1), (59, .ireturn, 1)]
theorem kdJ2_getChar_3b067_57 : dkO cJ2_getChar_3b067 57 ldJ2_getChar_3b067_57 = true := by decide +kernel
theorem dJ2_getChar_3b067_57 : decode cJ2_getChar_3b067 57 = .ok (.ior, 1) := dk_i kdJ2_getChar_3b067_57 0 rfl
theorem dJ2_getChar_3b067_58 : decode cJ2_getChar_3b067 58 = .ok (.i2c, 1) := dk_i kdJ2_getChar_3b067_57 1 rfl
theorem dJ2_getChar_3b067_59 : decode cJ2_getChar_3b067 59 = .ok (.ireturn, 1) := dk_i kdJ2_getChar_3b067_57 2 rfl
def ldJ2_length_9d52b_0 : List (Nat × ClassFile.Instr × Nat) := [(0, .aload_n 0, 1), (1, .arraylength, 1), (2, .iconst 1, 1), (3, .ishr, 1), (4, .ireturn, 1)]
theorem kdJ2_length_9d52b_0 : dkO cJ2_length_9d52b 0 ldJ2_length_9d52b_0 = true := by decide +kernel
theorem dJ2_length_9d52b_0 : decode cJ2_length_9d52b 0 = .ok (.aload_n 0, 1) := dk_i kdJ2_length_9d52b_0 0 rfl
theorem dJ2_length_9d52b_1 : decode cJ2_length_9d52b 1 = .ok (.arraylength, 1) := dk_i kdJ2_length_9d52b_0 1 rfl
theorem dJ2_length_9d52b_2 : decode cJ2_length_9d52b 2 = .ok (.iconst 1, 1) := dk_i kdJ2_length_9d52b_0 2 rfl
theorem dJ2_length_9d52b_3 : decode cJ2_length_9d52b 3 = .ok (.ishr, 1) := dk_i kdJ2_length_9d52b_0 3 rfl
theorem dJ2_length_9d52b_4 : decode cJ2_length_9d52b 4 = .ok (.ireturn, 1) := dk_i kdJ2_length_9d52b_0 4 rfl
def ldJ2_charAt_3b067_0 : List (Nat × ClassFile.Instr × Nat) := [(0, .iload_n 1, 1), (1, .aload_n 0, 1), (2, .invokestatic 67, 3), (5, .aload_n 0, 1), (6, .iload_n 1, 1), (7, .invokestatic 71, 3), (10, .ireturn, 1)]
theorem kdJ2_charAt_3b067_0 : dkO cJ2_charAt_3b067 0 ldJ2_charAt_3b067_0 = true := by decide +kernel
theorem dJ2_charAt_3b067_0 : decode cJ2_charAt_3b067 0 = .ok (.iload_n 1, 1) := dk_i kdJ2_charAt_3b067_0 0 rfl
theorem dJ2_charAt_3b067_1 : decode cJ2_charAt_3b067 1 = .ok (.aload_n 0, 1) := dk_i kdJ2_charAt_3b067_0 1 rfl
theorem dJ2_charAt_3b067_2 : decode cJ2_charAt_3b067 2 = .ok (.invokestatic 67, 3) := dk_i kdJ2_charAt_3b067_0 2 rfl
theorem dJ2_charAt_3b067_5 : decode cJ2_charAt_3b067 5 = .ok (.aload_n 0, 1) := dk_i kdJ2_charAt_3b067_0 3 rfl
theorem dJ2_charAt_3b067_6 : decode cJ2_charAt_3b067 6 = .ok (.iload_n 1, 1) := dk_i kdJ2_charAt_3b067_0 4 rfl
theorem dJ2_charAt_3b067_7 : decode cJ2_charAt_3b067 7 = .ok (.invokestatic 71, 3) := dk_i kdJ2_charAt_3b067_0 5 rfl
theorem dJ2_charAt_3b067_10 : decode cJ2_charAt_3b067 10 = .ok (.ireturn, 1) := dk_i kdJ2_charAt_3b067_0 6 rfl
def ldJ2_checkIndex_2214a_0 : List (Nat × ClassFile.Instr × Nat) := [(0, .iload_n 0, 1), (1, .aload_n 1, 1), (2, .invokestatic 48, 3), (5, .invokestatic 414, 3), (8, .return_, 1)]
theorem kdJ2_checkIndex_2214a_0 : dkO cJ2_checkIndex_2214a 0 ldJ2_checkIndex_2214a_0 = true := by decide +kernel
theorem dJ2_checkIndex_2214a_0 : decode cJ2_checkIndex_2214a 0 = .ok (.iload_n 0, 1) := dk_i kdJ2_checkIndex_2214a_0 0 rfl
theorem dJ2_checkIndex_2214a_1 : decode cJ2_checkIndex_2214a 1 = .ok (.aload_n 1, 1) := dk_i kdJ2_checkIndex_2214a_0 1 rfl
theorem dJ2_checkIndex_2214a_2 : decode cJ2_checkIndex_2214a 2 = .ok (.invokestatic 48, 3) := dk_i kdJ2_checkIndex_2214a_0 2 rfl
theorem dJ2_checkIndex_2214a_5 : decode cJ2_checkIndex_2214a 5 = .ok (.invokestatic 414, 3) := dk_i kdJ2_checkIndex_2214a_0 3 rfl
theorem dJ2_checkIndex_2214a_8 : decode cJ2_checkIndex_2214a 8 = .ok (.return_, 1) := dk_i kdJ2_checkIndex_2214a_0 4 rfl
end
section
def ldJ3_checkIndex_8e157_0 : List (Nat × ClassFile.Instr × Nat) := [(0, .iload_n 0, 1), (1, .ifCond .lt 8, 3), (4, .iload_n 0, 1), (5, .iload_n 1, 1), (6, .if_icmp .lt 10, 3), (9, .aload_n 2, 1), (10, .iload_n 0, 1), (11, .iload_n 1, 1), (12, .invokestatic 95, 3), (15, .athrow, 1), (16, .iload_n 0, 1), (17, .ireturn, 1)]
theorem kdJ3_checkIndex_8e157_0 : dkO cJ3_checkIndex_8e157 0 ldJ3_checkIndex_8e157_0 = true := by decide +kernel
theorem dJ3_checkIndex_8e157_0 : decode cJ3_checkIndex_8e157 0 = .ok (.iload_n 0, 1) := dk_i kdJ3_checkIndex_8e157_0 0 rfl
theorem dJ3_checkIndex_8e157_1 : decode cJ3_checkIndex_8e157 1 = .ok (.ifCond .lt 8, 3) := dk_i kdJ3_checkIndex_8e157_0 1 rfl
theorem dJ3_checkIndex_8e157_4 : decode cJ3_checkIndex_8e157 4 = .ok (.iload_n 0, 1) := dk_i kdJ3_checkIndex_8e157_0 2 rfl
theorem dJ3_checkIndex_8e157_5 : decode cJ3_checkIndex_8e157 5 = .ok (.iload_n 1, 1) := dk_i kdJ3_checkIndex_8e157_0 3 rfl
theorem dJ3_checkIndex_8e157_6 : decode cJ3_checkIndex_8e157 6 = .ok (.if_icmp .lt 10, 3) := dk_i kdJ3_checkIndex_8e157_0 4 rfl
theorem dJ3_checkIndex_8e157_9 : decode cJ3_checkIndex_8e157 9 = .ok (.aload_n 2, 1) := dk_i kdJ3_checkIndex_8e157_0 5 rfl
theorem dJ3_checkIndex_8e157_10 : decode cJ3_checkIndex_8e157 10 = .ok (.iload_n 0, 1) := dk_i kdJ3_checkIndex_8e157_0 6 rfl
theorem dJ3_checkIndex_8e157_11 : decode cJ3_checkIndex_8e157 11 = .ok (.iload_n 1, 1) := dk_i kdJ3_checkIndex_8e157_0 7 rfl
theorem dJ3_checkIndex_8e157_12 : decode cJ3_checkIndex_8e157 12 = .ok (.invokestatic 95, 3) := dk_i kdJ3_checkIndex_8e157_0 8 rfl
theorem dJ3_checkIndex_8e157_15 : decode cJ3_checkIndex_8e157 15 = .ok (.athrow, 1) := dk_i kdJ3_checkIndex_8e157_0 9 rfl
theorem dJ3_checkIndex_8e157_16 : decode cJ3_checkIndex_8e157 16 = .ok (.iload_n 0, 1) := dk_i kdJ3_checkIndex_8e157_0 10 rfl
theorem dJ3_checkIndex_8e157_17 : decode cJ3_checkIndex_8e157 17 = .ok (.ireturn, 1) := dk_i kdJ3_checkIndex_8e157_0 11 rfl
end
section
def ldJ9_floorDiv_7cf53_0 : List (Nat × ClassFile.Instr × Nat) := [(0, .iload_n 0, 1), (1, .iload_n 1, 1), (2, .idiv, 1), (3, .istore_n 2, 1), (4, .iload_n 0, 1), (5, .iload_n 1, 1), (6, .ixor, 1), (7, .ifCond .ge 14, 3), (10, .iload_n 2, 1), (11, .iload_n 1, 1), (12, .imul, 1), (13, .iload_n 0, 1), (14, .if_icmp .eq 7, 3), (17, .iload_n 2, 1), (18, .iconst 1, 1), (19, .isub, 1)]
theorem kdJ9_floorDiv_7cf53_0 : dkO cJ9_floorDiv_7cf53 0 ldJ9_floorDiv_7cf53_0 = true := by decide +kernel
theorem dJ9_floorDiv_7cf53_0 : decode cJ9_floorDiv_7cf53 0 = .ok (.iload_n 0, 1) := dk_i kdJ9_floorDiv_7cf53_0 0 rfl
theorem dJ9_floorDiv_7cf53_1 : decode cJ9_floorDiv_7cf53 1 = .ok (.iload_n 1, 1) := dk_i kdJ9_floorDiv_7cf53_0 1 rfl
theorem dJ9_floorDiv_7cf53_2 : decode cJ9_floorDiv_7cf53 2 = .ok (.idiv, 1) := dk_i kdJ9_floorDiv_7cf53_0 2 rfl
theorem dJ9_floorDiv_7cf53_3 : decode cJ9_floorDiv_7cf53 3 = .ok (.istore_n 2, 1) := dk_i kdJ9_floorDiv_7cf53_0 3 rfl
theorem dJ9_floorDiv_7cf53_4 : decode cJ9_floorDiv_7cf53 4 = .ok (.iload_n 0, 1) := dk_i kdJ9_floorDiv_7cf53_0 4 rfl
theorem dJ9_floorDiv_7cf53_5 : decode cJ9_floorDiv_7cf53 5 = .ok (.iload_n 1, 1) := dk_i kdJ9_floorDiv_7cf53_0 5 rfl
theorem dJ9_floorDiv_7cf53_6 : decode cJ9_floorDiv_7cf53 6 = .ok (.ixor, 1) := dk_i kdJ9_floorDiv_7cf53_0 6 rfl
theorem dJ9_floorDiv_7cf53_7 : decode cJ9_floorDiv_7cf53 7 = .ok (.ifCond .ge 14, 3) := dk_i kdJ9_floorDiv_7cf53_0 7 rfl
theorem dJ9_floorDiv_7cf53_10 : decode cJ9_floorDiv_7cf53 10 = .ok (.iload_n 2, 1) := dk_i kdJ9_floorDiv_7cf53_0 8 rfl
theorem dJ9_floorDiv_7cf53_11 : decode cJ9_floorDiv_7cf53 11 = .ok (.iload_n 1, 1) := dk_i kdJ9_floorDiv_7cf53_0 9 rfl
theorem dJ9_floorDiv_7cf53_12 : decode cJ9_floorDiv_7cf53 12 = .ok (.imul, 1) := dk_i kdJ9_floorDiv_7cf53_0 10 rfl
theorem dJ9_floorDiv_7cf53_13 : decode cJ9_floorDiv_7cf53 13 = .ok (.iload_n 0, 1) := dk_i kdJ9_floorDiv_7cf53_0 11 rfl
theorem dJ9_floorDiv_7cf53_14 : decode cJ9_floorDiv_7cf53 14 = .ok (.if_icmp .eq 7, 3) := dk_i kdJ9_floorDiv_7cf53_0 12 rfl
theorem dJ9_floorDiv_7cf53_17 : decode cJ9_floorDiv_7cf53 17 = .ok (.iload_n 2, 1) := dk_i kdJ9_floorDiv_7cf53_0 13 rfl
theorem dJ9_floorDiv_7cf53_18 : decode cJ9_floorDiv_7cf53 18 = .ok (.iconst 1, 1) := dk_i kdJ9_floorDiv_7cf53_0 14 rfl
theorem dJ9_floorDiv_7cf53_19 : decode cJ9_floorDiv_7cf53 19 = .ok (.isub, 1) := dk_i kdJ9_floorDiv_7cf53_0 15 rfl
def ldJ9_floorDiv_7cf53_20 : List (Nat × ClassFile.Instr × Nat) := [(20, .ireturn, 1), (21, .iload_n 2, 1), (22, .ireturn, 1)]
theorem kdJ9_floorDiv_7cf53_20 : dkO cJ9_floorDiv_7cf53 20 ldJ9_floorDiv_7cf53_20 = true := by decide +kernel
theorem dJ9_floorDiv_7cf53_20 : decode cJ9_floorDiv_7cf53 20 = .ok (.ireturn, 1) := dk_i kdJ9_floorDiv_7cf53_20 0 rfl
theorem dJ9_floorDiv_7cf53_21 : decode cJ9_floorDiv_7cf53 21 = .ok (.iload_n 2, 1) := dk_i kdJ9_floorDiv_7cf53_20 1 rfl
theorem dJ9_floorDiv_7cf53_22 : decode cJ9_floorDiv_7cf53 22 = .ok (.ireturn, 1) := dk_i kdJ9_floorDiv_7cf53_20 2 rfl
def ldJ9_floorMod_7cf53_0 : List (Nat × ClassFile.Instr × Nat) := [(0, .iload_n 0, 1), (1, .iload_n 1, 1), (2, .irem, 1), (3, .istore_n 2, 1), (4, .iload_n 0, 1), (5, .iload_n 1, 1), (6, .ixor, 1), (7, .ifCond .ge 11, 3), (10, .iload_n 2, 1), (11, .ifCond .eq 7, 3), (14, .iload_n 2, 1), (15, .iload_n 1, 1), (16, .iadd, 1), (17, .ireturn, 1), (18, .iload_n 2, 1), (19, .ireturn, 1)]
theorem kdJ9_floorMod_7cf53_0 : dkO cJ9_floorMod_7cf53 0 ldJ9_floorMod_7cf53_0 = true := by decide +kernel
theorem dJ9_floorMod_7cf53_0 : decode cJ9_floorMod_7cf53 0 = .ok (.iload_n 0, 1) := dk_i kdJ9_floorMod_7cf53_0 0 rfl
theorem dJ9_floorMod_7cf53_1 : decode cJ9_floorMod_7cf53 1 = .ok (.iload_n 1, 1) := dk_i kdJ9_floorMod_7cf53_0 1 rfl
theorem dJ9_floorMod_7cf53_2 : decode cJ9_floorMod_7cf53 2 = .ok (.irem, 1) := dk_i kdJ9_floorMod_7cf53_0 2 rfl
theorem dJ9_floorMod_7cf53_3 : decode cJ9_floorMod_7cf53 3 = .ok (.istore_n 2, 1) := dk_i kdJ9_floorMod_7cf53_0 3 rfl
theorem dJ9_floorMod_7cf53_4 : decode cJ9_floorMod_7cf53 4 = .ok (.iload_n 0, 1) := dk_i kdJ9_floorMod_7cf53_0 4 rfl
theorem dJ9_floorMod_7cf53_5 : decode cJ9_floorMod_7cf53 5 = .ok (.iload_n 1, 1) := dk_i kdJ9_floorMod_7cf53_0 5 rfl
theorem dJ9_floorMod_7cf53_6 : decode cJ9_floorMod_7cf53 6 = .ok (.ixor, 1) := dk_i kdJ9_floorMod_7cf53_0 6 rfl
theorem dJ9_floorMod_7cf53_7 : decode cJ9_floorMod_7cf53 7 = .ok (.ifCond .ge 11, 3) := dk_i kdJ9_floorMod_7cf53_0 7 rfl
theorem dJ9_floorMod_7cf53_10 : decode cJ9_floorMod_7cf53 10 = .ok (.iload_n 2, 1) := dk_i kdJ9_floorMod_7cf53_0 8 rfl
theorem dJ9_floorMod_7cf53_11 : decode cJ9_floorMod_7cf53 11 = .ok (.ifCond .eq 7, 3) := dk_i kdJ9_floorMod_7cf53_0 9 rfl
theorem dJ9_floorMod_7cf53_14 : decode cJ9_floorMod_7cf53 14 = .ok (.iload_n 2, 1) := dk_i kdJ9_floorMod_7cf53_0 10 rfl
theorem dJ9_floorMod_7cf53_15 : decode cJ9_floorMod_7cf53 15 = .ok (.iload_n 1, 1) := dk_i kdJ9_floorMod_7cf53_0 11 rfl
theorem dJ9_floorMod_7cf53_16 : decode cJ9_floorMod_7cf53 16 = .ok (.iadd, 1) := dk_i kdJ9_floorMod_7cf53_0 12 rfl
theorem dJ9_floorMod_7cf53_17 : decode cJ9_floorMod_7cf53 17 = .ok (.ireturn, 1) := dk_i kdJ9_floorMod_7cf53_0 13 rfl
theorem dJ9_floorMod_7cf53_18 : decode cJ9_floorMod_7cf53 18 = .ok (.iload_n 2, 1) := dk_i kdJ9_floorMod_7cf53_0 14 rfl
theorem dJ9_floorMod_7cf53_19 : decode cJ9_floorMod_7cf53 19 = .ok (.ireturn, 1) := dk_i kdJ9_floorMod_7cf53_0 15 rfl
def ldJ9_max_7cf53_0 : List (Nat × ClassFile.Instr × Nat) := [(0, .iload_n 0, 1), (1, .iload_n 1, 1), (2, .if_icmp .lt 7, 3), (5, .iload_n 0, 1), (6, .goto 4, 3), (9, .iload_n 1, 1), (10, .ireturn, 1)]
theorem kdJ9_max_7cf53_0 : dkO cJ9_max_7cf53 0 ldJ9_max_7cf53_0 = true := by decide +kernel
theorem dJ9_max_7cf53_0 : decode cJ9_max_7cf53 0 = .ok (.iload_n 0, 1) := dk_i kdJ9_max_7cf53_0 0 rfl
theorem dJ9_max_7cf53_1 : decode cJ9_max_7cf53 1 = .ok (.iload_n 1, 1) := dk_i kdJ9_max_7cf53_0 1 rfl
theorem dJ9_max_7cf53_2 : decode cJ9_max_7cf53 2 = .ok (.if_icmp .lt 7, 3) := dk_i kdJ9_max_7cf53_0 2 rfl
theorem dJ9_max_7cf53_5 : decode cJ9_max_7cf53 5 = .ok (.iload_n 0, 1) := dk_i kdJ9_max_7cf53_0 3 rfl
theorem dJ9_max_7cf53_6 : decode cJ9_max_7cf53 6 = .ok (.goto 4, 3) := dk_i kdJ9_max_7cf53_0 4 rfl
theorem dJ9_max_7cf53_9 : decode cJ9_max_7cf53 9 = .ok (.iload_n 1, 1) := dk_i kdJ9_max_7cf53_0 5 rfl
theorem dJ9_max_7cf53_10 : decode cJ9_max_7cf53 10 = .ok (.ireturn, 1) := dk_i kdJ9_max_7cf53_0 6 rfl
def ldJ9_max_f86c9_0 : List (Nat × ClassFile.Instr × Nat) := [(0, .lload_n 0, 1), (1, .lload_n 2, 1), (2, .lcmp, 1), (3, .ifCond .lt 7, 3), (6, .lload_n 0, 1), (7, .goto 4, 3), (10, .lload_n 2, 1), (11, .lreturn, 1)]
theorem kdJ9_max_f86c9_0 : dkO cJ9_max_f86c9 0 ldJ9_max_f86c9_0 = true := by decide +kernel
theorem dJ9_max_f86c9_0 : decode cJ9_max_f86c9 0 = .ok (.lload_n 0, 1) := dk_i kdJ9_max_f86c9_0 0 rfl
theorem dJ9_max_f86c9_1 : decode cJ9_max_f86c9 1 = .ok (.lload_n 2, 1) := dk_i kdJ9_max_f86c9_0 1 rfl
theorem dJ9_max_f86c9_2 : decode cJ9_max_f86c9 2 = .ok (.lcmp, 1) := dk_i kdJ9_max_f86c9_0 2 rfl
theorem dJ9_max_f86c9_3 : decode cJ9_max_f86c9 3 = .ok (.ifCond .lt 7, 3) := dk_i kdJ9_max_f86c9_0 3 rfl
theorem dJ9_max_f86c9_6 : decode cJ9_max_f86c9 6 = .ok (.lload_n 0, 1) := dk_i kdJ9_max_f86c9_0 4 rfl
theorem dJ9_max_f86c9_7 : decode cJ9_max_f86c9 7 = .ok (.goto 4, 3) := dk_i kdJ9_max_f86c9_0 5 rfl
theorem dJ9_max_f86c9_10 : decode cJ9_max_f86c9 10 = .ok (.lload_n 2, 1) := dk_i kdJ9_max_f86c9_0 6 rfl
theorem dJ9_max_f86c9_11 : decode cJ9_max_f86c9 11 = .ok (.lreturn, 1) := dk_i kdJ9_max_f86c9_0 7 rfl
def ldJ9_min_7cf53_0 : List (Nat × ClassFile.Instr × Nat) := [(0, .iload_n 0, 1), (1, .iload_n 1, 1), (2, .if_icmp .gt 7, 3), (5, .iload_n 0, 1), (6, .goto 4, 3), (9, .iload_n 1, 1), (10, .ireturn, 1)]
theorem kdJ9_min_7cf53_0 : dkO cJ9_min_7cf53 0 ldJ9_min_7cf53_0 = true := by decide +kernel
theorem dJ9_min_7cf53_0 : decode cJ9_min_7cf53 0 = .ok (.iload_n 0, 1) := dk_i kdJ9_min_7cf53_0 0 rfl
theorem dJ9_min_7cf53_1 : decode cJ9_min_7cf53 1 = .ok (.iload_n 1, 1) := dk_i kdJ9_min_7cf53_0 1 rfl
theorem dJ9_min_7cf53_2 : decode cJ9_min_7cf53 2 = .ok (.if_icmp .gt 7, 3) := dk_i kdJ9_min_7cf53_0 2 rfl
theorem dJ9_min_7cf53_5 : decode cJ9_min_7cf53 5 = .ok (.iload_n 0, 1) := dk_i kdJ9_min_7cf53_0 3 rfl
theorem dJ9_min_7cf53_6 : decode cJ9_min_7cf53 6 = .ok (.goto 4, 3) := dk_i kdJ9_min_7cf53_0 4 rfl
theorem dJ9_min_7cf53_9 : decode cJ9_min_7cf53 9 = .ok (.iload_n 1, 1) := dk_i kdJ9_min_7cf53_0 5 rfl
theorem dJ9_min_7cf53_10 : decode cJ9_min_7cf53 10 = .ok (.ireturn, 1) := dk_i kdJ9_min_7cf53_0 6 rfl
def ldJ9_min_f86c9_0 : List (Nat × ClassFile.Instr × Nat) := [(0, .lload_n 0, 1), (1, .lload_n 2, 1), (2, .lcmp, 1), (3, .ifCond .gt 7, 3), (6, .lload_n 0, 1), (7, .goto 4, 3), (10, .lload_n 2, 1), (11, .lreturn, 1)]
theorem kdJ9_min_f86c9_0 : dkO cJ9_min_f86c9 0 ldJ9_min_f86c9_0 = true := by decide +kernel
theorem dJ9_min_f86c9_0 : decode cJ9_min_f86c9 0 = .ok (.lload_n 0, 1) := dk_i kdJ9_min_f86c9_0 0 rfl
theorem dJ9_min_f86c9_1 : decode cJ9_min_f86c9 1 = .ok (.lload_n 2, 1) := dk_i kdJ9_min_f86c9_0 1 rfl
theorem dJ9_min_f86c9_2 : decode cJ9_min_f86c9 2 = .ok (.lcmp, 1) := dk_i kdJ9_min_f86c9_0 2 rfl
theorem dJ9_min_f86c9_3 : decode cJ9_min_f86c9 3 = .ok (.ifCond .gt 7, 3) := dk_i kdJ9_min_f86c9_0 3 rfl
theorem dJ9_min_f86c9_6 : decode cJ9_min_f86c9 6 = .ok (.lload_n 0, 1) := dk_i kdJ9_min_f86c9_0 4 rfl
theorem dJ9_min_f86c9_7 : decode cJ9_min_f86c9 7 = .ok (.goto 4, 3) := dk_i kdJ9_min_f86c9_0 5 rfl
theorem dJ9_min_f86c9_10 : decode cJ9_min_f86c9 10 = .ok (.lload_n 2, 1) := dk_i kdJ9_min_f86c9_0 6 rfl
theorem dJ9_min_f86c9_11 : decode cJ9_min_f86c9 11 = .ok (.lreturn, 1) := dk_i kdJ9_min_f86c9_0 7 rfl
end
section
def ldL_law_0 : List (Nat × ClassFile.Instr × Nat) := [(0, .new 7, 3), (3, .dup, 1), (4, .invokespecial 9, 3), (7, .astore_n 1, 1), (8, .new 10, 3), (11, .dup, 1), (12, .invokespecial 12, 3), (15, .astore_n 2, 1), (16, .iconst 0, 1), (17, .istore_n 3, 1), (18, .iload_n 3, 1), (19, .aload_n 0, 1), (20, .arraylength, 1), (21, .bipush 6, 2), (23, .isub, 1), (24, .if_icmp .gt 1054, 3)]
theorem kdL_law_0 : dkO cL_law 0 ldL_law_0 = true := by decide +kernel
theorem dL_law_0 : decode cL_law 0 = .ok (.new 7, 3) := dk_i kdL_law_0 0 rfl
theorem dL_law_3 : decode cL_law 3 = .ok (.dup, 1) := dk_i kdL_law_0 1 rfl
theorem dL_law_4 : decode cL_law 4 = .ok (.invokespecial 9, 3) := dk_i kdL_law_0 2 rfl
theorem dL_law_7 : decode cL_law 7 = .ok (.astore_n 1, 1) := dk_i kdL_law_0 3 rfl
theorem dL_law_8 : decode cL_law 8 = .ok (.new 10, 3) := dk_i kdL_law_0 4 rfl
theorem dL_law_11 : decode cL_law 11 = .ok (.dup, 1) := dk_i kdL_law_0 5 rfl
theorem dL_law_12 : decode cL_law 12 = .ok (.invokespecial 12, 3) := dk_i kdL_law_0 6 rfl
theorem dL_law_15 : decode cL_law 15 = .ok (.astore_n 2, 1) := dk_i kdL_law_0 7 rfl
theorem dL_law_16 : decode cL_law 16 = .ok (.iconst 0, 1) := dk_i kdL_law_0 8 rfl
theorem dL_law_17 : decode cL_law 17 = .ok (.istore_n 3, 1) := dk_i kdL_law_0 9 rfl
theorem dL_law_18 : decode cL_law 18 = .ok (.iload_n 3, 1) := dk_i kdL_law_0 10 rfl
theorem dL_law_19 : decode cL_law 19 = .ok (.aload_n 0, 1) := dk_i kdL_law_0 11 rfl
theorem dL_law_20 : decode cL_law 20 = .ok (.arraylength, 1) := dk_i kdL_law_0 12 rfl
theorem dL_law_21 : decode cL_law 21 = .ok (.bipush 6, 2) := dk_i kdL_law_0 13 rfl
theorem dL_law_23 : decode cL_law 23 = .ok (.isub, 1) := dk_i kdL_law_0 14 rfl
theorem dL_law_24 : decode cL_law 24 = .ok (.if_icmp .gt 1054, 3) := dk_i kdL_law_0 15 rfl
def ldL_law_27 : List (Nat × ClassFile.Instr × Nat) := [(27, .aload_n 0, 1), (28, .iload_n 3, 1), (29, .iaload, 1), (30, .bipush 31, 2), (32, .iand, 1), (33, .tableswitch 1039 0 31 #[143, 206, 229, 242, 265, 288, 331, 364, 397, 430, 463, 486, 519, 562, 595, 638, 671, 704, 727, 740, 763, 796, 819, 842, 875, 898, 911, 934, 967, 980, 1003, 1016], 143), (176, .aload_n 1, 1), (177, .aload_n 0, 1), (178, .iload_n 3, 1), (179, .iconst 1, 1), (180, .iadd, 1), (181, .iaload, 1), (182, .aload_n 0, 1), (183, .iload_n 3, 1), (184, .iconst 2, 1), (185, .iadd, 1)]
theorem kdL_law_27 : dkO cL_law 27 ldL_law_27 = true := by decide +kernel
theorem dL_law_27 : decode cL_law 27 = .ok (.aload_n 0, 1) := dk_i kdL_law_27 0 rfl
theorem dL_law_28 : decode cL_law 28 = .ok (.iload_n 3, 1) := dk_i kdL_law_27 1 rfl
theorem dL_law_29 : decode cL_law 29 = .ok (.iaload, 1) := dk_i kdL_law_27 2 rfl
theorem dL_law_30 : decode cL_law 30 = .ok (.bipush 31, 2) := dk_i kdL_law_27 3 rfl
theorem dL_law_32 : decode cL_law 32 = .ok (.iand, 1) := dk_i kdL_law_27 4 rfl
theorem dL_law_33 : decode cL_law 33 = .ok (.tableswitch 1039 0 31 #[143, 206, 229, 242, 265, 288, 331, 364, 397, 430, 463, 486, 519, 562, 595, 638, 671, 704, 727, 740, 763, 796, 819, 842, 875, 898, 911, 934, 967, 980, 1003, 1016], 143) := dk_i kdL_law_27 5 rfl
theorem dL_law_176 : decode cL_law 176 = .ok (.aload_n 1, 1) := dk_i kdL_law_27 6 rfl
theorem dL_law_177 : decode cL_law 177 = .ok (.aload_n 0, 1) := dk_i kdL_law_27 7 rfl
theorem dL_law_178 : decode cL_law 178 = .ok (.iload_n 3, 1) := dk_i kdL_law_27 8 rfl
theorem dL_law_179 : decode cL_law 179 = .ok (.iconst 1, 1) := dk_i kdL_law_27 9 rfl
theorem dL_law_180 : decode cL_law 180 = .ok (.iadd, 1) := dk_i kdL_law_27 10 rfl
theorem dL_law_181 : decode cL_law 181 = .ok (.iaload, 1) := dk_i kdL_law_27 11 rfl
theorem dL_law_182 : decode cL_law 182 = .ok (.aload_n 0, 1) := dk_i kdL_law_27 12 rfl
theorem dL_law_183 : decode cL_law 183 = .ok (.iload_n 3, 1) := dk_i kdL_law_27 13 rfl
theorem dL_law_184 : decode cL_law 184 = .ok (.iconst 2, 1) := dk_i kdL_law_27 14 rfl
theorem dL_law_185 : decode cL_law 185 = .ok (.iadd, 1) := dk_i kdL_law_27 15 rfl
def ldL_law_186 : List (Nat × ClassFile.Instr × Nat) := [(186, .iaload, 1), (187, .aload_n 0, 1), (188, .iload_n 3, 1), (189, .iconst 3, 1), (190, .iadd, 1), (191, .iaload, 1), (192, .aload_n 0, 1), (193, .iload_n 3, 1), (194, .iconst 4, 1), (195, .iadd, 1), (196, .iaload, 1), (197, .aload_n 0, 1), (198, .iload_n 3, 1), (199, .iconst 5, 1), (200, .iadd, 1), (201, .iaload, 1)]
theorem kdL_law_186 : dkO cL_law 186 ldL_law_186 = true := by decide +kernel
theorem dL_law_186 : decode cL_law 186 = .ok (.iaload, 1) := dk_i kdL_law_186 0 rfl
theorem dL_law_187 : decode cL_law 187 = .ok (.aload_n 0, 1) := dk_i kdL_law_186 1 rfl
theorem dL_law_188 : decode cL_law 188 = .ok (.iload_n 3, 1) := dk_i kdL_law_186 2 rfl
theorem dL_law_189 : decode cL_law 189 = .ok (.iconst 3, 1) := dk_i kdL_law_186 3 rfl
theorem dL_law_190 : decode cL_law 190 = .ok (.iadd, 1) := dk_i kdL_law_186 4 rfl
theorem dL_law_191 : decode cL_law 191 = .ok (.iaload, 1) := dk_i kdL_law_186 5 rfl
theorem dL_law_192 : decode cL_law 192 = .ok (.aload_n 0, 1) := dk_i kdL_law_186 6 rfl
theorem dL_law_193 : decode cL_law 193 = .ok (.iload_n 3, 1) := dk_i kdL_law_186 7 rfl
theorem dL_law_194 : decode cL_law 194 = .ok (.iconst 4, 1) := dk_i kdL_law_186 8 rfl
theorem dL_law_195 : decode cL_law 195 = .ok (.iadd, 1) := dk_i kdL_law_186 9 rfl
theorem dL_law_196 : decode cL_law 196 = .ok (.iaload, 1) := dk_i kdL_law_186 10 rfl
theorem dL_law_197 : decode cL_law 197 = .ok (.aload_n 0, 1) := dk_i kdL_law_186 11 rfl
theorem dL_law_198 : decode cL_law 198 = .ok (.iload_n 3, 1) := dk_i kdL_law_186 12 rfl
theorem dL_law_199 : decode cL_law 199 = .ok (.iconst 5, 1) := dk_i kdL_law_186 13 rfl
theorem dL_law_200 : decode cL_law 200 = .ok (.iadd, 1) := dk_i kdL_law_186 14 rfl
theorem dL_law_201 : decode cL_law 201 = .ok (.iaload, 1) := dk_i kdL_law_186 15 rfl
def ldL_law_202 : List (Nat × ClassFile.Instr × Nat) := [(202, .invokevirtual 13, 3), (205, .pop, 1), (206, .aload_n 2, 1), (207, .aload_n 0, 1), (208, .iload_n 3, 1), (209, .iconst 1, 1), (210, .iadd, 1), (211, .iaload, 1), (212, .aload_n 0, 1), (213, .iload_n 3, 1), (214, .iconst 2, 1), (215, .iadd, 1), (216, .iaload, 1), (217, .aload_n 0, 1), (218, .iload_n 3, 1), (219, .iconst 3, 1)]
theorem kdL_law_202 : dkO cL_law 202 ldL_law_202 = true := by decide +kernel
theorem dL_law_202 : decode cL_law 202 = .ok (.invokevirtual 13, 3) := dk_i kdL_law_202 0 rfl
theorem dL_law_205 : decode cL_law 205 = .ok (.pop, 1) := dk_i kdL_law_202 1 rfl
theorem dL_law_206 : decode cL_law 206 = .ok (.aload_n 2, 1) := dk_i kdL_law_202 2 rfl
theorem dL_law_207 : decode cL_law 207 = .ok (.aload_n 0, 1) := dk_i kdL_law_202 3 rfl
theorem dL_law_208 : decode cL_law 208 = .ok (.iload_n 3, 1) := dk_i kdL_law_202 4 rfl
theorem dL_law_209 : decode cL_law 209 = .ok (.iconst 1, 1) := dk_i kdL_law_202 5 rfl
theorem dL_law_210 : decode cL_law 210 = .ok (.iadd, 1) := dk_i kdL_law_202 6 rfl
theorem dL_law_211 : decode cL_law 211 = .ok (.iaload, 1) := dk_i kdL_law_202 7 rfl
theorem dL_law_212 : decode cL_law 212 = .ok (.aload_n 0, 1) := dk_i kdL_law_202 8 rfl
theorem dL_law_213 : decode cL_law 213 = .ok (.iload_n 3, 1) := dk_i kdL_law_202 9 rfl
theorem dL_law_214 : decode cL_law 214 = .ok (.iconst 2, 1) := dk_i kdL_law_202 10 rfl
theorem dL_law_215 : decode cL_law 215 = .ok (.iadd, 1) := dk_i kdL_law_202 11 rfl
theorem dL_law_216 : decode cL_law 216 = .ok (.iaload, 1) := dk_i kdL_law_202 12 rfl
theorem dL_law_217 : decode cL_law 217 = .ok (.aload_n 0, 1) := dk_i kdL_law_202 13 rfl
theorem dL_law_218 : decode cL_law 218 = .ok (.iload_n 3, 1) := dk_i kdL_law_202 14 rfl
theorem dL_law_219 : decode cL_law 219 = .ok (.iconst 3, 1) := dk_i kdL_law_202 15 rfl
def ldL_law_220 : List (Nat × ClassFile.Instr × Nat) := [(220, .iadd, 1), (221, .iaload, 1), (222, .aload_n 0, 1), (223, .iload_n 3, 1), (224, .iconst 4, 1), (225, .iadd, 1), (226, .iaload, 1), (227, .aload_n 0, 1), (228, .iload_n 3, 1), (229, .iconst 5, 1), (230, .iadd, 1), (231, .iaload, 1), (232, .invokevirtual 17, 3), (235, .pop, 1), (236, .goto 836, 3), (239, .aload_n 1, 1)]
theorem kdL_law_220 : dkO cL_law 220 ldL_law_220 = true := by decide +kernel
theorem dL_law_220 : decode cL_law 220 = .ok (.iadd, 1) := dk_i kdL_law_220 0 rfl
theorem dL_law_221 : decode cL_law 221 = .ok (.iaload, 1) := dk_i kdL_law_220 1 rfl
theorem dL_law_222 : decode cL_law 222 = .ok (.aload_n 0, 1) := dk_i kdL_law_220 2 rfl
theorem dL_law_223 : decode cL_law 223 = .ok (.iload_n 3, 1) := dk_i kdL_law_220 3 rfl
theorem dL_law_224 : decode cL_law 224 = .ok (.iconst 4, 1) := dk_i kdL_law_220 4 rfl
theorem dL_law_225 : decode cL_law 225 = .ok (.iadd, 1) := dk_i kdL_law_220 5 rfl
theorem dL_law_226 : decode cL_law 226 = .ok (.iaload, 1) := dk_i kdL_law_220 6 rfl
theorem dL_law_227 : decode cL_law 227 = .ok (.aload_n 0, 1) := dk_i kdL_law_220 7 rfl
theorem dL_law_228 : decode cL_law 228 = .ok (.iload_n 3, 1) := dk_i kdL_law_220 8 rfl
theorem dL_law_229 : decode cL_law 229 = .ok (.iconst 5, 1) := dk_i kdL_law_220 9 rfl
theorem dL_law_230 : decode cL_law 230 = .ok (.iadd, 1) := dk_i kdL_law_220 10 rfl
theorem dL_law_231 : decode cL_law 231 = .ok (.iaload, 1) := dk_i kdL_law_220 11 rfl
theorem dL_law_232 : decode cL_law 232 = .ok (.invokevirtual 17, 3) := dk_i kdL_law_220 12 rfl
theorem dL_law_235 : decode cL_law 235 = .ok (.pop, 1) := dk_i kdL_law_220 13 rfl
theorem dL_law_236 : decode cL_law 236 = .ok (.goto 836, 3) := dk_i kdL_law_220 14 rfl
theorem dL_law_239 : decode cL_law 239 = .ok (.aload_n 1, 1) := dk_i kdL_law_220 15 rfl
def ldL_law_240 : List (Nat × ClassFile.Instr × Nat) := [(240, .aload_n 0, 1), (241, .iload_n 3, 1), (242, .iconst 1, 1), (243, .iadd, 1), (244, .iaload, 1), (245, .invokevirtual 18, 3), (248, .pop, 1), (249, .aload_n 2, 1), (250, .aload_n 0, 1), (251, .iload_n 3, 1), (252, .iconst 1, 1), (253, .iadd, 1), (254, .iaload, 1), (255, .invokevirtual 22, 3), (258, .pop, 1), (259, .goto 813, 3)]
theorem kdL_law_240 : dkO cL_law 240 ldL_law_240 = true := by decide +kernel
theorem dL_law_240 : decode cL_law 240 = .ok (.aload_n 0, 1) := dk_i kdL_law_240 0 rfl
theorem dL_law_241 : decode cL_law 241 = .ok (.iload_n 3, 1) := dk_i kdL_law_240 1 rfl
theorem dL_law_242 : decode cL_law 242 = .ok (.iconst 1, 1) := dk_i kdL_law_240 2 rfl
theorem dL_law_243 : decode cL_law 243 = .ok (.iadd, 1) := dk_i kdL_law_240 3 rfl
theorem dL_law_244 : decode cL_law 244 = .ok (.iaload, 1) := dk_i kdL_law_240 4 rfl
theorem dL_law_245 : decode cL_law 245 = .ok (.invokevirtual 18, 3) := dk_i kdL_law_240 5 rfl
theorem dL_law_248 : decode cL_law 248 = .ok (.pop, 1) := dk_i kdL_law_240 6 rfl
theorem dL_law_249 : decode cL_law 249 = .ok (.aload_n 2, 1) := dk_i kdL_law_240 7 rfl
theorem dL_law_250 : decode cL_law 250 = .ok (.aload_n 0, 1) := dk_i kdL_law_240 8 rfl
theorem dL_law_251 : decode cL_law 251 = .ok (.iload_n 3, 1) := dk_i kdL_law_240 9 rfl
theorem dL_law_252 : decode cL_law 252 = .ok (.iconst 1, 1) := dk_i kdL_law_240 10 rfl
theorem dL_law_253 : decode cL_law 253 = .ok (.iadd, 1) := dk_i kdL_law_240 11 rfl
theorem dL_law_254 : decode cL_law 254 = .ok (.iaload, 1) := dk_i kdL_law_240 12 rfl
theorem dL_law_255 : decode cL_law 255 = .ok (.invokevirtual 22, 3) := dk_i kdL_law_240 13 rfl
theorem dL_law_258 : decode cL_law 258 = .ok (.pop, 1) := dk_i kdL_law_240 14 rfl
theorem dL_law_259 : decode cL_law 259 = .ok (.goto 813, 3) := dk_i kdL_law_240 15 rfl
def ldL_law_262 : List (Nat × ClassFile.Instr × Nat) := [(262, .aload_n 1, 1), (263, .invokevirtual 23, 3), (266, .pop, 1), (267, .aload_n 2, 1), (268, .invokevirtual 27, 3), (271, .pop, 1), (272, .goto 800, 3), (275, .aload_n 1, 1), (276, .aload_n 0, 1), (277, .iload_n 3, 1), (278, .iconst 1, 1), (279, .iadd, 1), (280, .iaload, 1), (281, .invokevirtual 28, 3), (284, .pop, 1), (285, .aload_n 2, 1)]
theorem kdL_law_262 : dkO cL_law 262 ldL_law_262 = true := by decide +kernel
theorem dL_law_262 : decode cL_law 262 = .ok (.aload_n 1, 1) := dk_i kdL_law_262 0 rfl
theorem dL_law_263 : decode cL_law 263 = .ok (.invokevirtual 23, 3) := dk_i kdL_law_262 1 rfl
theorem dL_law_266 : decode cL_law 266 = .ok (.pop, 1) := dk_i kdL_law_262 2 rfl
theorem dL_law_267 : decode cL_law 267 = .ok (.aload_n 2, 1) := dk_i kdL_law_262 3 rfl
theorem dL_law_268 : decode cL_law 268 = .ok (.invokevirtual 27, 3) := dk_i kdL_law_262 4 rfl
theorem dL_law_271 : decode cL_law 271 = .ok (.pop, 1) := dk_i kdL_law_262 5 rfl
theorem dL_law_272 : decode cL_law 272 = .ok (.goto 800, 3) := dk_i kdL_law_262 6 rfl
theorem dL_law_275 : decode cL_law 275 = .ok (.aload_n 1, 1) := dk_i kdL_law_262 7 rfl
theorem dL_law_276 : decode cL_law 276 = .ok (.aload_n 0, 1) := dk_i kdL_law_262 8 rfl
theorem dL_law_277 : decode cL_law 277 = .ok (.iload_n 3, 1) := dk_i kdL_law_262 9 rfl
theorem dL_law_278 : decode cL_law 278 = .ok (.iconst 1, 1) := dk_i kdL_law_262 10 rfl
theorem dL_law_279 : decode cL_law 279 = .ok (.iadd, 1) := dk_i kdL_law_262 11 rfl
theorem dL_law_280 : decode cL_law 280 = .ok (.iaload, 1) := dk_i kdL_law_262 12 rfl
theorem dL_law_281 : decode cL_law 281 = .ok (.invokevirtual 28, 3) := dk_i kdL_law_262 13 rfl
theorem dL_law_284 : decode cL_law 284 = .ok (.pop, 1) := dk_i kdL_law_262 14 rfl
theorem dL_law_285 : decode cL_law 285 = .ok (.aload_n 2, 1) := dk_i kdL_law_262 15 rfl
def ldL_law_286 : List (Nat × ClassFile.Instr × Nat) := [(286, .aload_n 0, 1), (287, .iload_n 3, 1), (288, .iconst 1, 1), (289, .iadd, 1), (290, .iaload, 1), (291, .invokevirtual 32, 3), (294, .pop, 1), (295, .goto 777, 3), (298, .aload_n 1, 1), (299, .aload_n 0, 1), (300, .iload_n 3, 1), (301, .iconst 1, 1), (302, .iadd, 1), (303, .iaload, 1), (304, .invokevirtual 33, 3), (307, .pop, 1)]
theorem kdL_law_286 : dkO cL_law 286 ldL_law_286 = true := by decide +kernel
theorem dL_law_286 : decode cL_law 286 = .ok (.aload_n 0, 1) := dk_i kdL_law_286 0 rfl
theorem dL_law_287 : decode cL_law 287 = .ok (.iload_n 3, 1) := dk_i kdL_law_286 1 rfl
theorem dL_law_288 : decode cL_law 288 = .ok (.iconst 1, 1) := dk_i kdL_law_286 2 rfl
theorem dL_law_289 : decode cL_law 289 = .ok (.iadd, 1) := dk_i kdL_law_286 3 rfl
theorem dL_law_290 : decode cL_law 290 = .ok (.iaload, 1) := dk_i kdL_law_286 4 rfl
theorem dL_law_291 : decode cL_law 291 = .ok (.invokevirtual 32, 3) := dk_i kdL_law_286 5 rfl
theorem dL_law_294 : decode cL_law 294 = .ok (.pop, 1) := dk_i kdL_law_286 6 rfl
theorem dL_law_295 : decode cL_law 295 = .ok (.goto 777, 3) := dk_i kdL_law_286 7 rfl
theorem dL_law_298 : decode cL_law 298 = .ok (.aload_n 1, 1) := dk_i kdL_law_286 8 rfl
theorem dL_law_299 : decode cL_law 299 = .ok (.aload_n 0, 1) := dk_i kdL_law_286 9 rfl
theorem dL_law_300 : decode cL_law 300 = .ok (.iload_n 3, 1) := dk_i kdL_law_286 10 rfl
theorem dL_law_301 : decode cL_law 301 = .ok (.iconst 1, 1) := dk_i kdL_law_286 11 rfl
theorem dL_law_302 : decode cL_law 302 = .ok (.iadd, 1) := dk_i kdL_law_286 12 rfl
theorem dL_law_303 : decode cL_law 303 = .ok (.iaload, 1) := dk_i kdL_law_286 13 rfl
theorem dL_law_304 : decode cL_law 304 = .ok (.invokevirtual 33, 3) := dk_i kdL_law_286 14 rfl
theorem dL_law_307 : decode cL_law 307 = .ok (.pop, 1) := dk_i kdL_law_286 15 rfl
def ldL_law_308 : List (Nat × ClassFile.Instr × Nat) := [(308, .aload_n 2, 1), (309, .aload_n 0, 1), (310, .iload_n 3, 1), (311, .iconst 1, 1), (312, .iadd, 1), (313, .iaload, 1), (314, .invokevirtual 36, 3), (317, .pop, 1), (318, .goto 754, 3), (321, .aload_n 1, 1), (322, .aload_n 0, 1), (323, .iload_n 3, 1), (324, .iconst 1, 1), (325, .iadd, 1), (326, .iaload, 1), (327, .aload_n 0, 1)]
theorem kdL_law_308 : dkO cL_law 308 ldL_law_308 = true := by decide +kernel
theorem dL_law_308 : decode cL_law 308 = .ok (.aload_n 2, 1) := dk_i kdL_law_308 0 rfl
theorem dL_law_309 : decode cL_law 309 = .ok (.aload_n 0, 1) := dk_i kdL_law_308 1 rfl
theorem dL_law_310 : decode cL_law 310 = .ok (.iload_n 3, 1) := dk_i kdL_law_308 2 rfl
theorem dL_law_311 : decode cL_law 311 = .ok (.iconst 1, 1) := dk_i kdL_law_308 3 rfl
theorem dL_law_312 : decode cL_law 312 = .ok (.iadd, 1) := dk_i kdL_law_308 4 rfl
theorem dL_law_313 : decode cL_law 313 = .ok (.iaload, 1) := dk_i kdL_law_308 5 rfl
theorem dL_law_314 : decode cL_law 314 = .ok (.invokevirtual 36, 3) := dk_i kdL_law_308 6 rfl
theorem dL_law_317 : decode cL_law 317 = .ok (.pop, 1) := dk_i kdL_law_308 7 rfl
theorem dL_law_318 : decode cL_law 318 = .ok (.goto 754, 3) := dk_i kdL_law_308 8 rfl
theorem dL_law_321 : decode cL_law 321 = .ok (.aload_n 1, 1) := dk_i kdL_law_308 9 rfl
theorem dL_law_322 : decode cL_law 322 = .ok (.aload_n 0, 1) := dk_i kdL_law_308 10 rfl
theorem dL_law_323 : decode cL_law 323 = .ok (.iload_n 3, 1) := dk_i kdL_law_308 11 rfl
theorem dL_law_324 : decode cL_law 324 = .ok (.iconst 1, 1) := dk_i kdL_law_308 12 rfl
theorem dL_law_325 : decode cL_law 325 = .ok (.iadd, 1) := dk_i kdL_law_308 13 rfl
theorem dL_law_326 : decode cL_law 326 = .ok (.iaload, 1) := dk_i kdL_law_308 14 rfl
theorem dL_law_327 : decode cL_law 327 = .ok (.aload_n 0, 1) := dk_i kdL_law_308 15 rfl
def ldL_law_328 : List (Nat × ClassFile.Instr × Nat) := [(328, .iload_n 3, 1), (329, .iconst 2, 1), (330, .iadd, 1), (331, .iaload, 1), (332, .aload_n 0, 1), (333, .iload_n 3, 1), (334, .iconst 3, 1), (335, .iadd, 1), (336, .iaload, 1), (337, .invokevirtual 37, 3), (340, .pop, 1), (341, .aload_n 2, 1), (342, .aload_n 0, 1), (343, .iload_n 3, 1), (344, .iconst 1, 1), (345, .iadd, 1)]
theorem kdL_law_328 : dkO cL_law 328 ldL_law_328 = true := by decide +kernel
theorem dL_law_328 : decode cL_law 328 = .ok (.iload_n 3, 1) := dk_i kdL_law_328 0 rfl
theorem dL_law_329 : decode cL_law 329 = .ok (.iconst 2, 1) := dk_i kdL_law_328 1 rfl
theorem dL_law_330 : decode cL_law 330 = .ok (.iadd, 1) := dk_i kdL_law_328 2 rfl
theorem dL_law_331 : decode cL_law 331 = .ok (.iaload, 1) := dk_i kdL_law_328 3 rfl
theorem dL_law_332 : decode cL_law 332 = .ok (.aload_n 0, 1) := dk_i kdL_law_328 4 rfl
theorem dL_law_333 : decode cL_law 333 = .ok (.iload_n 3, 1) := dk_i kdL_law_328 5 rfl
theorem dL_law_334 : decode cL_law 334 = .ok (.iconst 3, 1) := dk_i kdL_law_328 6 rfl
theorem dL_law_335 : decode cL_law 335 = .ok (.iadd, 1) := dk_i kdL_law_328 7 rfl
theorem dL_law_336 : decode cL_law 336 = .ok (.iaload, 1) := dk_i kdL_law_328 8 rfl
theorem dL_law_337 : decode cL_law 337 = .ok (.invokevirtual 37, 3) := dk_i kdL_law_328 9 rfl
theorem dL_law_340 : decode cL_law 340 = .ok (.pop, 1) := dk_i kdL_law_328 10 rfl
theorem dL_law_341 : decode cL_law 341 = .ok (.aload_n 2, 1) := dk_i kdL_law_328 11 rfl
theorem dL_law_342 : decode cL_law 342 = .ok (.aload_n 0, 1) := dk_i kdL_law_328 12 rfl
theorem dL_law_343 : decode cL_law 343 = .ok (.iload_n 3, 1) := dk_i kdL_law_328 13 rfl
theorem dL_law_344 : decode cL_law 344 = .ok (.iconst 1, 1) := dk_i kdL_law_328 14 rfl
theorem dL_law_345 : decode cL_law 345 = .ok (.iadd, 1) := dk_i kdL_law_328 15 rfl
def ldL_law_346 : List (Nat × ClassFile.Instr × Nat) := [(346, .iaload, 1), (347, .aload_n 0, 1), (348, .iload_n 3, 1), (349, .iconst 2, 1), (350, .iadd, 1), (351, .iaload, 1), (352, .aload_n 0, 1), (353, .iload_n 3, 1), (354, .iconst 3, 1), (355, .iadd, 1), (356, .iaload, 1), (357, .invokevirtual 41, 3), (360, .pop, 1), (361, .goto 711, 3), (364, .aload_n 1, 1), (365, .aload_n 0, 1)]
theorem kdL_law_346 : dkO cL_law 346 ldL_law_346 = true := by decide +kernel
theorem dL_law_346 : decode cL_law 346 = .ok (.iaload, 1) := dk_i kdL_law_346 0 rfl
theorem dL_law_347 : decode cL_law 347 = .ok (.aload_n 0, 1) := dk_i kdL_law_346 1 rfl
theorem dL_law_348 : decode cL_law 348 = .ok (.iload_n 3, 1) := dk_i kdL_law_346 2 rfl
theorem dL_law_349 : decode cL_law 349 = .ok (.iconst 2, 1) := dk_i kdL_law_346 3 rfl
theorem dL_law_350 : decode cL_law 350 = .ok (.iadd, 1) := dk_i kdL_law_346 4 rfl
theorem dL_law_351 : decode cL_law 351 = .ok (.iaload, 1) := dk_i kdL_law_346 5 rfl
theorem dL_law_352 : decode cL_law 352 = .ok (.aload_n 0, 1) := dk_i kdL_law_346 6 rfl
theorem dL_law_353 : decode cL_law 353 = .ok (.iload_n 3, 1) := dk_i kdL_law_346 7 rfl
theorem dL_law_354 : decode cL_law 354 = .ok (.iconst 3, 1) := dk_i kdL_law_346 8 rfl
theorem dL_law_355 : decode cL_law 355 = .ok (.iadd, 1) := dk_i kdL_law_346 9 rfl
theorem dL_law_356 : decode cL_law 356 = .ok (.iaload, 1) := dk_i kdL_law_346 10 rfl
theorem dL_law_357 : decode cL_law 357 = .ok (.invokevirtual 41, 3) := dk_i kdL_law_346 11 rfl
theorem dL_law_360 : decode cL_law 360 = .ok (.pop, 1) := dk_i kdL_law_346 12 rfl
theorem dL_law_361 : decode cL_law 361 = .ok (.goto 711, 3) := dk_i kdL_law_346 13 rfl
theorem dL_law_364 : decode cL_law 364 = .ok (.aload_n 1, 1) := dk_i kdL_law_346 14 rfl
theorem dL_law_365 : decode cL_law 365 = .ok (.aload_n 0, 1) := dk_i kdL_law_346 15 rfl
def ldL_law_366 : List (Nat × ClassFile.Instr × Nat) := [(366, .iload_n 3, 1), (367, .iconst 1, 1), (368, .iadd, 1), (369, .iaload, 1), (370, .aload_n 0, 1), (371, .iload_n 3, 1), (372, .iconst 2, 1), (373, .iadd, 1), (374, .iaload, 1), (375, .invokevirtual 42, 3), (378, .pop, 1), (379, .aload_n 2, 1), (380, .aload_n 0, 1), (381, .iload_n 3, 1), (382, .iconst 1, 1), (383, .iadd, 1)]
theorem kdL_law_366 : dkO cL_law 366 ldL_law_366 = true := by decide +kernel
theorem dL_law_366 : decode cL_law 366 = .ok (.iload_n 3, 1) := dk_i kdL_law_366 0 rfl
theorem dL_law_367 : decode cL_law 367 = .ok (.iconst 1, 1) := dk_i kdL_law_366 1 rfl
theorem dL_law_368 : decode cL_law 368 = .ok (.iadd, 1) := dk_i kdL_law_366 2 rfl
theorem dL_law_369 : decode cL_law 369 = .ok (.iaload, 1) := dk_i kdL_law_366 3 rfl
theorem dL_law_370 : decode cL_law 370 = .ok (.aload_n 0, 1) := dk_i kdL_law_366 4 rfl
theorem dL_law_371 : decode cL_law 371 = .ok (.iload_n 3, 1) := dk_i kdL_law_366 5 rfl
theorem dL_law_372 : decode cL_law 372 = .ok (.iconst 2, 1) := dk_i kdL_law_366 6 rfl
theorem dL_law_373 : decode cL_law 373 = .ok (.iadd, 1) := dk_i kdL_law_366 7 rfl
theorem dL_law_374 : decode cL_law 374 = .ok (.iaload, 1) := dk_i kdL_law_366 8 rfl
theorem dL_law_375 : decode cL_law 375 = .ok (.invokevirtual 42, 3) := dk_i kdL_law_366 9 rfl
theorem dL_law_378 : decode cL_law 378 = .ok (.pop, 1) := dk_i kdL_law_366 10 rfl
theorem dL_law_379 : decode cL_law 379 = .ok (.aload_n 2, 1) := dk_i kdL_law_366 11 rfl
theorem dL_law_380 : decode cL_law 380 = .ok (.aload_n 0, 1) := dk_i kdL_law_366 12 rfl
theorem dL_law_381 : decode cL_law 381 = .ok (.iload_n 3, 1) := dk_i kdL_law_366 13 rfl
theorem dL_law_382 : decode cL_law 382 = .ok (.iconst 1, 1) := dk_i kdL_law_366 14 rfl
theorem dL_law_383 : decode cL_law 383 = .ok (.iadd, 1) := dk_i kdL_law_366 15 rfl
def ldL_law_384 : List (Nat × ClassFile.Instr × Nat) := [(384, .iaload, 1), (385, .aload_n 0, 1), (386, .iload_n 3, 1), (387, .iconst 2, 1), (388, .iadd, 1), (389, .iaload, 1), (390, .invokevirtual 46, 3), (393, .pop, 1), (394, .goto 678, 3), (397, .aload_n 1, 1), (398, .aload_n 0, 1), (399, .iload_n 3, 1), (400, .iconst 1, 1), (401, .iadd, 1), (402, .iaload, 1), (403, .aload_n 0, 1)]
theorem kdL_law_384 : dkO cL_law 384 ldL_law_384 = true := by decide +kernel
theorem dL_law_384 : decode cL_law 384 = .ok (.iaload, 1) := dk_i kdL_law_384 0 rfl
theorem dL_law_385 : decode cL_law 385 = .ok (.aload_n 0, 1) := dk_i kdL_law_384 1 rfl
theorem dL_law_386 : decode cL_law 386 = .ok (.iload_n 3, 1) := dk_i kdL_law_384 2 rfl
theorem dL_law_387 : decode cL_law 387 = .ok (.iconst 2, 1) := dk_i kdL_law_384 3 rfl
theorem dL_law_388 : decode cL_law 388 = .ok (.iadd, 1) := dk_i kdL_law_384 4 rfl
theorem dL_law_389 : decode cL_law 389 = .ok (.iaload, 1) := dk_i kdL_law_384 5 rfl
theorem dL_law_390 : decode cL_law 390 = .ok (.invokevirtual 46, 3) := dk_i kdL_law_384 6 rfl
theorem dL_law_393 : decode cL_law 393 = .ok (.pop, 1) := dk_i kdL_law_384 7 rfl
theorem dL_law_394 : decode cL_law 394 = .ok (.goto 678, 3) := dk_i kdL_law_384 8 rfl
theorem dL_law_397 : decode cL_law 397 = .ok (.aload_n 1, 1) := dk_i kdL_law_384 9 rfl
theorem dL_law_398 : decode cL_law 398 = .ok (.aload_n 0, 1) := dk_i kdL_law_384 10 rfl
theorem dL_law_399 : decode cL_law 399 = .ok (.iload_n 3, 1) := dk_i kdL_law_384 11 rfl
theorem dL_law_400 : decode cL_law 400 = .ok (.iconst 1, 1) := dk_i kdL_law_384 12 rfl
theorem dL_law_401 : decode cL_law 401 = .ok (.iadd, 1) := dk_i kdL_law_384 13 rfl
theorem dL_law_402 : decode cL_law 402 = .ok (.iaload, 1) := dk_i kdL_law_384 14 rfl
theorem dL_law_403 : decode cL_law 403 = .ok (.aload_n 0, 1) := dk_i kdL_law_384 15 rfl
def ldL_law_404 : List (Nat × ClassFile.Instr × Nat) := [(404, .iload_n 3, 1), (405, .iconst 2, 1), (406, .iadd, 1), (407, .iaload, 1), (408, .invokevirtual 47, 3), (411, .pop, 1), (412, .aload_n 2, 1), (413, .aload_n 0, 1), (414, .iload_n 3, 1), (415, .iconst 1, 1), (416, .iadd, 1), (417, .iaload, 1), (418, .aload_n 0, 1), (419, .iload_n 3, 1), (420, .iconst 2, 1), (421, .iadd, 1)]
theorem kdL_law_404 : dkO cL_law 404 ldL_law_404 = true := by decide +kernel
theorem dL_law_404 : decode cL_law 404 = .ok (.iload_n 3, 1) := dk_i kdL_law_404 0 rfl
theorem dL_law_405 : decode cL_law 405 = .ok (.iconst 2, 1) := dk_i kdL_law_404 1 rfl
theorem dL_law_406 : decode cL_law 406 = .ok (.iadd, 1) := dk_i kdL_law_404 2 rfl
theorem dL_law_407 : decode cL_law 407 = .ok (.iaload, 1) := dk_i kdL_law_404 3 rfl
theorem dL_law_408 : decode cL_law 408 = .ok (.invokevirtual 47, 3) := dk_i kdL_law_404 4 rfl
theorem dL_law_411 : decode cL_law 411 = .ok (.pop, 1) := dk_i kdL_law_404 5 rfl
theorem dL_law_412 : decode cL_law 412 = .ok (.aload_n 2, 1) := dk_i kdL_law_404 6 rfl
theorem dL_law_413 : decode cL_law 413 = .ok (.aload_n 0, 1) := dk_i kdL_law_404 7 rfl
theorem dL_law_414 : decode cL_law 414 = .ok (.iload_n 3, 1) := dk_i kdL_law_404 8 rfl
theorem dL_law_415 : decode cL_law 415 = .ok (.iconst 1, 1) := dk_i kdL_law_404 9 rfl
theorem dL_law_416 : decode cL_law 416 = .ok (.iadd, 1) := dk_i kdL_law_404 10 rfl
theorem dL_law_417 : decode cL_law 417 = .ok (.iaload, 1) := dk_i kdL_law_404 11 rfl
theorem dL_law_418 : decode cL_law 418 = .ok (.aload_n 0, 1) := dk_i kdL_law_404 12 rfl
theorem dL_law_419 : decode cL_law 419 = .ok (.iload_n 3, 1) := dk_i kdL_law_404 13 rfl
theorem dL_law_420 : decode cL_law 420 = .ok (.iconst 2, 1) := dk_i kdL_law_404 14 rfl
theorem dL_law_421 : decode cL_law 421 = .ok (.iadd, 1) := dk_i kdL_law_404 15 rfl
def ldL_law_422 : List (Nat × ClassFile.Instr × Nat) := [(422, .iaload, 1), (423, .invokevirtual 50, 3), (426, .pop, 1), (427, .goto 645, 3), (430, .aload_n 1, 1), (431, .aload_n 0, 1), (432, .iload_n 3, 1), (433, .iconst 1, 1), (434, .iadd, 1), (435, .iaload, 1), (436, .aload_n 0, 1), (437, .iload_n 3, 1), (438, .iconst 2, 1), (439, .iadd, 1), (440, .iaload, 1), (441, .invokevirtual 51, 3)]
theorem kdL_law_422 : dkO cL_law 422 ldL_law_422 = true := by decide +kernel
theorem dL_law_422 : decode cL_law 422 = .ok (.iaload, 1) := dk_i kdL_law_422 0 rfl
theorem dL_law_423 : decode cL_law 423 = .ok (.invokevirtual 50, 3) := dk_i kdL_law_422 1 rfl
theorem dL_law_426 : decode cL_law 426 = .ok (.pop, 1) := dk_i kdL_law_422 2 rfl
theorem dL_law_427 : decode cL_law 427 = .ok (.goto 645, 3) := dk_i kdL_law_422 3 rfl
theorem dL_law_430 : decode cL_law 430 = .ok (.aload_n 1, 1) := dk_i kdL_law_422 4 rfl
theorem dL_law_431 : decode cL_law 431 = .ok (.aload_n 0, 1) := dk_i kdL_law_422 5 rfl
theorem dL_law_432 : decode cL_law 432 = .ok (.iload_n 3, 1) := dk_i kdL_law_422 6 rfl
theorem dL_law_433 : decode cL_law 433 = .ok (.iconst 1, 1) := dk_i kdL_law_422 7 rfl
theorem dL_law_434 : decode cL_law 434 = .ok (.iadd, 1) := dk_i kdL_law_422 8 rfl
theorem dL_law_435 : decode cL_law 435 = .ok (.iaload, 1) := dk_i kdL_law_422 9 rfl
theorem dL_law_436 : decode cL_law 436 = .ok (.aload_n 0, 1) := dk_i kdL_law_422 10 rfl
theorem dL_law_437 : decode cL_law 437 = .ok (.iload_n 3, 1) := dk_i kdL_law_422 11 rfl
theorem dL_law_438 : decode cL_law 438 = .ok (.iconst 2, 1) := dk_i kdL_law_422 12 rfl
theorem dL_law_439 : decode cL_law 439 = .ok (.iadd, 1) := dk_i kdL_law_422 13 rfl
theorem dL_law_440 : decode cL_law 440 = .ok (.iaload, 1) := dk_i kdL_law_422 14 rfl
theorem dL_law_441 : decode cL_law 441 = .ok (.invokevirtual 51, 3) := dk_i kdL_law_422 15 rfl
def ldL_law_444 : List (Nat × ClassFile.Instr × Nat) := [(444, .pop, 1), (445, .aload_n 2, 1), (446, .aload_n 0, 1), (447, .iload_n 3, 1), (448, .iconst 1, 1), (449, .iadd, 1), (450, .iaload, 1), (451, .aload_n 0, 1), (452, .iload_n 3, 1), (453, .iconst 2, 1), (454, .iadd, 1), (455, .iaload, 1), (456, .invokevirtual 54, 3), (459, .pop, 1), (460, .goto 612, 3), (463, .aload_n 1, 1)]
theorem kdL_law_444 : dkO cL_law 444 ldL_law_444 = true := by decide +kernel
theorem dL_law_444 : decode cL_law 444 = .ok (.pop, 1) := dk_i kdL_law_444 0 rfl
theorem dL_law_445 : decode cL_law 445 = .ok (.aload_n 2, 1) := dk_i kdL_law_444 1 rfl
theorem dL_law_446 : decode cL_law 446 = .ok (.aload_n 0, 1) := dk_i kdL_law_444 2 rfl
theorem dL_law_447 : decode cL_law 447 = .ok (.iload_n 3, 1) := dk_i kdL_law_444 3 rfl
theorem dL_law_448 : decode cL_law 448 = .ok (.iconst 1, 1) := dk_i kdL_law_444 4 rfl
theorem dL_law_449 : decode cL_law 449 = .ok (.iadd, 1) := dk_i kdL_law_444 5 rfl
theorem dL_law_450 : decode cL_law 450 = .ok (.iaload, 1) := dk_i kdL_law_444 6 rfl
theorem dL_law_451 : decode cL_law 451 = .ok (.aload_n 0, 1) := dk_i kdL_law_444 7 rfl
theorem dL_law_452 : decode cL_law 452 = .ok (.iload_n 3, 1) := dk_i kdL_law_444 8 rfl
theorem dL_law_453 : decode cL_law 453 = .ok (.iconst 2, 1) := dk_i kdL_law_444 9 rfl
theorem dL_law_454 : decode cL_law 454 = .ok (.iadd, 1) := dk_i kdL_law_444 10 rfl
theorem dL_law_455 : decode cL_law 455 = .ok (.iaload, 1) := dk_i kdL_law_444 11 rfl
theorem dL_law_456 : decode cL_law 456 = .ok (.invokevirtual 54, 3) := dk_i kdL_law_444 12 rfl
theorem dL_law_459 : decode cL_law 459 = .ok (.pop, 1) := dk_i kdL_law_444 13 rfl
theorem dL_law_460 : decode cL_law 460 = .ok (.goto 612, 3) := dk_i kdL_law_444 14 rfl
theorem dL_law_463 : decode cL_law 463 = .ok (.aload_n 1, 1) := dk_i kdL_law_444 15 rfl
def ldL_law_464 : List (Nat × ClassFile.Instr × Nat) := [(464, .aload_n 0, 1), (465, .iload_n 3, 1), (466, .iconst 1, 1), (467, .iadd, 1), (468, .iaload, 1), (469, .aload_n 0, 1), (470, .iload_n 3, 1), (471, .iconst 2, 1), (472, .iadd, 1), (473, .iaload, 1), (474, .invokevirtual 55, 3), (477, .pop, 1), (478, .aload_n 2, 1), (479, .aload_n 0, 1), (480, .iload_n 3, 1), (481, .iconst 1, 1)]
theorem kdL_law_464 : dkO cL_law 464 ldL_law_464 = true := by decide +kernel
theorem dL_law_464 : decode cL_law 464 = .ok (.aload_n 0, 1) := dk_i kdL_law_464 0 rfl
theorem dL_law_465 : decode cL_law 465 = .ok (.iload_n 3, 1) := dk_i kdL_law_464 1 rfl
theorem dL_law_466 : decode cL_law 466 = .ok (.iconst 1, 1) := dk_i kdL_law_464 2 rfl
theorem dL_law_467 : decode cL_law 467 = .ok (.iadd, 1) := dk_i kdL_law_464 3 rfl
theorem dL_law_468 : decode cL_law 468 = .ok (.iaload, 1) := dk_i kdL_law_464 4 rfl
theorem dL_law_469 : decode cL_law 469 = .ok (.aload_n 0, 1) := dk_i kdL_law_464 5 rfl
theorem dL_law_470 : decode cL_law 470 = .ok (.iload_n 3, 1) := dk_i kdL_law_464 6 rfl
theorem dL_law_471 : decode cL_law 471 = .ok (.iconst 2, 1) := dk_i kdL_law_464 7 rfl
theorem dL_law_472 : decode cL_law 472 = .ok (.iadd, 1) := dk_i kdL_law_464 8 rfl
theorem dL_law_473 : decode cL_law 473 = .ok (.iaload, 1) := dk_i kdL_law_464 9 rfl
theorem dL_law_474 : decode cL_law 474 = .ok (.invokevirtual 55, 3) := dk_i kdL_law_464 10 rfl
theorem dL_law_477 : decode cL_law 477 = .ok (.pop, 1) := dk_i kdL_law_464 11 rfl
theorem dL_law_478 : decode cL_law 478 = .ok (.aload_n 2, 1) := dk_i kdL_law_464 12 rfl
theorem dL_law_479 : decode cL_law 479 = .ok (.aload_n 0, 1) := dk_i kdL_law_464 13 rfl
theorem dL_law_480 : decode cL_law 480 = .ok (.iload_n 3, 1) := dk_i kdL_law_464 14 rfl
theorem dL_law_481 : decode cL_law 481 = .ok (.iconst 1, 1) := dk_i kdL_law_464 15 rfl
def ldL_law_482 : List (Nat × ClassFile.Instr × Nat) := [(482, .iadd, 1), (483, .iaload, 1), (484, .aload_n 0, 1), (485, .iload_n 3, 1), (486, .iconst 2, 1), (487, .iadd, 1), (488, .iaload, 1), (489, .invokevirtual 58, 3), (492, .pop, 1), (493, .goto 579, 3), (496, .aload_n 1, 1), (497, .aload_n 0, 1), (498, .iload_n 3, 1), (499, .iconst 1, 1), (500, .iadd, 1), (501, .iaload, 1)]
theorem kdL_law_482 : dkO cL_law 482 ldL_law_482 = true := by decide +kernel
theorem dL_law_482 : decode cL_law 482 = .ok (.iadd, 1) := dk_i kdL_law_482 0 rfl
theorem dL_law_483 : decode cL_law 483 = .ok (.iaload, 1) := dk_i kdL_law_482 1 rfl
theorem dL_law_484 : decode cL_law 484 = .ok (.aload_n 0, 1) := dk_i kdL_law_482 2 rfl
theorem dL_law_485 : decode cL_law 485 = .ok (.iload_n 3, 1) := dk_i kdL_law_482 3 rfl
theorem dL_law_486 : decode cL_law 486 = .ok (.iconst 2, 1) := dk_i kdL_law_482 4 rfl
theorem dL_law_487 : decode cL_law 487 = .ok (.iadd, 1) := dk_i kdL_law_482 5 rfl
theorem dL_law_488 : decode cL_law 488 = .ok (.iaload, 1) := dk_i kdL_law_482 6 rfl
theorem dL_law_489 : decode cL_law 489 = .ok (.invokevirtual 58, 3) := dk_i kdL_law_482 7 rfl
theorem dL_law_492 : decode cL_law 492 = .ok (.pop, 1) := dk_i kdL_law_482 8 rfl
theorem dL_law_493 : decode cL_law 493 = .ok (.goto 579, 3) := dk_i kdL_law_482 9 rfl
theorem dL_law_496 : decode cL_law 496 = .ok (.aload_n 1, 1) := dk_i kdL_law_482 10 rfl
theorem dL_law_497 : decode cL_law 497 = .ok (.aload_n 0, 1) := dk_i kdL_law_482 11 rfl
theorem dL_law_498 : decode cL_law 498 = .ok (.iload_n 3, 1) := dk_i kdL_law_482 12 rfl
theorem dL_law_499 : decode cL_law 499 = .ok (.iconst 1, 1) := dk_i kdL_law_482 13 rfl
theorem dL_law_500 : decode cL_law 500 = .ok (.iadd, 1) := dk_i kdL_law_482 14 rfl
theorem dL_law_501 : decode cL_law 501 = .ok (.iaload, 1) := dk_i kdL_law_482 15 rfl
def ldL_law_502 : List (Nat × ClassFile.Instr × Nat) := [(502, .invokevirtual 59, 3), (505, .pop, 1), (506, .aload_n 2, 1), (507, .aload_n 0, 1), (508, .iload_n 3, 1), (509, .iconst 1, 1), (510, .iadd, 1), (511, .iaload, 1), (512, .invokevirtual 62, 3), (515, .pop, 1), (516, .goto 556, 3), (519, .aload_n 1, 1), (520, .aload_n 0, 1), (521, .iload_n 3, 1), (522, .iconst 1, 1), (523, .iadd, 1)]
theorem kdL_law_502 : dkO cL_law 502 ldL_law_502 = true := by decide +kernel
theorem dL_law_502 : decode cL_law 502 = .ok (.invokevirtual 59, 3) := dk_i kdL_law_502 0 rfl
theorem dL_law_505 : decode cL_law 505 = .ok (.pop, 1) := dk_i kdL_law_502 1 rfl
theorem dL_law_506 : decode cL_law 506 = .ok (.aload_n 2, 1) := dk_i kdL_law_502 2 rfl
theorem dL_law_507 : decode cL_law 507 = .ok (.aload_n 0, 1) := dk_i kdL_law_502 3 rfl
theorem dL_law_508 : decode cL_law 508 = .ok (.iload_n 3, 1) := dk_i kdL_law_502 4 rfl
theorem dL_law_509 : decode cL_law 509 = .ok (.iconst 1, 1) := dk_i kdL_law_502 5 rfl
theorem dL_law_510 : decode cL_law 510 = .ok (.iadd, 1) := dk_i kdL_law_502 6 rfl
theorem dL_law_511 : decode cL_law 511 = .ok (.iaload, 1) := dk_i kdL_law_502 7 rfl
theorem dL_law_512 : decode cL_law 512 = .ok (.invokevirtual 62, 3) := dk_i kdL_law_502 8 rfl
theorem dL_law_515 : decode cL_law 515 = .ok (.pop, 1) := dk_i kdL_law_502 9 rfl
theorem dL_law_516 : decode cL_law 516 = .ok (.goto 556, 3) := dk_i kdL_law_502 10 rfl
theorem dL_law_519 : decode cL_law 519 = .ok (.aload_n 1, 1) := dk_i kdL_law_502 11 rfl
theorem dL_law_520 : decode cL_law 520 = .ok (.aload_n 0, 1) := dk_i kdL_law_502 12 rfl
theorem dL_law_521 : decode cL_law 521 = .ok (.iload_n 3, 1) := dk_i kdL_law_502 13 rfl
theorem dL_law_522 : decode cL_law 522 = .ok (.iconst 1, 1) := dk_i kdL_law_502 14 rfl
theorem dL_law_523 : decode cL_law 523 = .ok (.iadd, 1) := dk_i kdL_law_502 15 rfl
def ldL_law_524 : List (Nat × ClassFile.Instr × Nat) := [(524, .iaload, 1), (525, .aload_n 0, 1), (526, .iload_n 3, 1), (527, .iconst 2, 1), (528, .iadd, 1), (529, .iaload, 1), (530, .invokevirtual 63, 3), (533, .pop, 1), (534, .aload_n 2, 1), (535, .aload_n 0, 1), (536, .iload_n 3, 1), (537, .iconst 1, 1), (538, .iadd, 1), (539, .iaload, 1), (540, .aload_n 0, 1), (541, .iload_n 3, 1)]
theorem kdL_law_524 : dkO cL_law 524 ldL_law_524 = true := by decide +kernel
theorem dL_law_524 : decode cL_law 524 = .ok (.iaload, 1) := dk_i kdL_law_524 0 rfl
theorem dL_law_525 : decode cL_law 525 = .ok (.aload_n 0, 1) := dk_i kdL_law_524 1 rfl
theorem dL_law_526 : decode cL_law 526 = .ok (.iload_n 3, 1) := dk_i kdL_law_524 2 rfl
theorem dL_law_527 : decode cL_law 527 = .ok (.iconst 2, 1) := dk_i kdL_law_524 3 rfl
theorem dL_law_528 : decode cL_law 528 = .ok (.iadd, 1) := dk_i kdL_law_524 4 rfl
theorem dL_law_529 : decode cL_law 529 = .ok (.iaload, 1) := dk_i kdL_law_524 5 rfl
theorem dL_law_530 : decode cL_law 530 = .ok (.invokevirtual 63, 3) := dk_i kdL_law_524 6 rfl
theorem dL_law_533 : decode cL_law 533 = .ok (.pop, 1) := dk_i kdL_law_524 7 rfl
theorem dL_law_534 : decode cL_law 534 = .ok (.aload_n 2, 1) := dk_i kdL_law_524 8 rfl
theorem dL_law_535 : decode cL_law 535 = .ok (.aload_n 0, 1) := dk_i kdL_law_524 9 rfl
theorem dL_law_536 : decode cL_law 536 = .ok (.iload_n 3, 1) := dk_i kdL_law_524 10 rfl
theorem dL_law_537 : decode cL_law 537 = .ok (.iconst 1, 1) := dk_i kdL_law_524 11 rfl
theorem dL_law_538 : decode cL_law 538 = .ok (.iadd, 1) := dk_i kdL_law_524 12 rfl
theorem dL_law_539 : decode cL_law 539 = .ok (.iaload, 1) := dk_i kdL_law_524 13 rfl
theorem dL_law_540 : decode cL_law 540 = .ok (.aload_n 0, 1) := dk_i kdL_law_524 14 rfl
theorem dL_law_541 : decode cL_law 541 = .ok (.iload_n 3, 1) := dk_i kdL_law_524 15 rfl
def ldL_law_542 : List (Nat × ClassFile.Instr × Nat) := [(542, .iconst 2, 1), (543, .iadd, 1), (544, .iaload, 1), (545, .invokevirtual 66, 3), (548, .pop, 1), (549, .goto 523, 3), (552, .aload_n 1, 1), (553, .aload_n 0, 1), (554, .iload_n 3, 1), (555, .iconst 1, 1), (556, .iadd, 1), (557, .iaload, 1), (558, .aload_n 0, 1), (559, .iload_n 3, 1), (560, .iconst 2, 1), (561, .iadd, 1)]
theorem kdL_law_542 : dkO cL_law 542 ldL_law_542 = true := by decide +kernel
theorem dL_law_542 : decode cL_law 542 = .ok (.iconst 2, 1) := dk_i kdL_law_542 0 rfl
theorem dL_law_543 : decode cL_law 543 = .ok (.iadd, 1) := dk_i kdL_law_542 1 rfl
theorem dL_law_544 : decode cL_law 544 = .ok (.iaload, 1) := dk_i kdL_law_542 2 rfl
theorem dL_law_545 : decode cL_law 545 = .ok (.invokevirtual 66, 3) := dk_i kdL_law_542 3 rfl
theorem dL_law_548 : decode cL_law 548 = .ok (.pop, 1) := dk_i kdL_law_542 4 rfl
theorem dL_law_549 : decode cL_law 549 = .ok (.goto 523, 3) := dk_i kdL_law_542 5 rfl
theorem dL_law_552 : decode cL_law 552 = .ok (.aload_n 1, 1) := dk_i kdL_law_542 6 rfl
theorem dL_law_553 : decode cL_law 553 = .ok (.aload_n 0, 1) := dk_i kdL_law_542 7 rfl
theorem dL_law_554 : decode cL_law 554 = .ok (.iload_n 3, 1) := dk_i kdL_law_542 8 rfl
theorem dL_law_555 : decode cL_law 555 = .ok (.iconst 1, 1) := dk_i kdL_law_542 9 rfl
theorem dL_law_556 : decode cL_law 556 = .ok (.iadd, 1) := dk_i kdL_law_542 10 rfl
theorem dL_law_557 : decode cL_law 557 = .ok (.iaload, 1) := dk_i kdL_law_542 11 rfl
theorem dL_law_558 : decode cL_law 558 = .ok (.aload_n 0, 1) := dk_i kdL_law_542 12 rfl
theorem dL_law_559 : decode cL_law 559 = .ok (.iload_n 3, 1) := dk_i kdL_law_542 13 rfl
theorem dL_law_560 : decode cL_law 560 = .ok (.iconst 2, 1) := dk_i kdL_law_542 14 rfl
theorem dL_law_561 : decode cL_law 561 = .ok (.iadd, 1) := dk_i kdL_law_542 15 rfl
def ldL_law_562 : List (Nat × ClassFile.Instr × Nat) := [(562, .iaload, 1), (563, .aload_n 0, 1), (564, .iload_n 3, 1), (565, .iconst 3, 1), (566, .iadd, 1), (567, .iaload, 1), (568, .invokevirtual 67, 3), (571, .pop, 1), (572, .aload_n 2, 1), (573, .aload_n 0, 1), (574, .iload_n 3, 1), (575, .iconst 1, 1), (576, .iadd, 1), (577, .iaload, 1), (578, .aload_n 0, 1), (579, .iload_n 3, 1)]
theorem kdL_law_562 : dkO cL_law 562 ldL_law_562 = true := by decide +kernel
theorem dL_law_562 : decode cL_law 562 = .ok (.iaload, 1) := dk_i kdL_law_562 0 rfl
theorem dL_law_563 : decode cL_law 563 = .ok (.aload_n 0, 1) := dk_i kdL_law_562 1 rfl
theorem dL_law_564 : decode cL_law 564 = .ok (.iload_n 3, 1) := dk_i kdL_law_562 2 rfl
theorem dL_law_565 : decode cL_law 565 = .ok (.iconst 3, 1) := dk_i kdL_law_562 3 rfl
theorem dL_law_566 : decode cL_law 566 = .ok (.iadd, 1) := dk_i kdL_law_562 4 rfl
theorem dL_law_567 : decode cL_law 567 = .ok (.iaload, 1) := dk_i kdL_law_562 5 rfl
theorem dL_law_568 : decode cL_law 568 = .ok (.invokevirtual 67, 3) := dk_i kdL_law_562 6 rfl
theorem dL_law_571 : decode cL_law 571 = .ok (.pop, 1) := dk_i kdL_law_562 7 rfl
theorem dL_law_572 : decode cL_law 572 = .ok (.aload_n 2, 1) := dk_i kdL_law_562 8 rfl
theorem dL_law_573 : decode cL_law 573 = .ok (.aload_n 0, 1) := dk_i kdL_law_562 9 rfl
theorem dL_law_574 : decode cL_law 574 = .ok (.iload_n 3, 1) := dk_i kdL_law_562 10 rfl
theorem dL_law_575 : decode cL_law 575 = .ok (.iconst 1, 1) := dk_i kdL_law_562 11 rfl
theorem dL_law_576 : decode cL_law 576 = .ok (.iadd, 1) := dk_i kdL_law_562 12 rfl
theorem dL_law_577 : decode cL_law 577 = .ok (.iaload, 1) := dk_i kdL_law_562 13 rfl
theorem dL_law_578 : decode cL_law 578 = .ok (.aload_n 0, 1) := dk_i kdL_law_562 14 rfl
theorem dL_law_579 : decode cL_law 579 = .ok (.iload_n 3, 1) := dk_i kdL_law_562 15 rfl
def ldL_law_580 : List (Nat × ClassFile.Instr × Nat) := [(580, .iconst 2, 1), (581, .iadd, 1), (582, .iaload, 1), (583, .aload_n 0, 1), (584, .iload_n 3, 1), (585, .iconst 3, 1), (586, .iadd, 1), (587, .iaload, 1), (588, .invokevirtual 70, 3), (591, .pop, 1), (592, .goto 480, 3), (595, .aload_n 1, 1), (596, .aload_n 0, 1), (597, .iload_n 3, 1), (598, .iconst 1, 1), (599, .iadd, 1)]
theorem kdL_law_580 : dkO cL_law 580 ldL_law_580 = true := by decide +kernel
theorem dL_law_580 : decode cL_law 580 = .ok (.iconst 2, 1) := dk_i kdL_law_580 0 rfl
theorem dL_law_581 : decode cL_law 581 = .ok (.iadd, 1) := dk_i kdL_law_580 1 rfl
theorem dL_law_582 : decode cL_law 582 = .ok (.iaload, 1) := dk_i kdL_law_580 2 rfl
theorem dL_law_583 : decode cL_law 583 = .ok (.aload_n 0, 1) := dk_i kdL_law_580 3 rfl
theorem dL_law_584 : decode cL_law 584 = .ok (.iload_n 3, 1) := dk_i kdL_law_580 4 rfl
theorem dL_law_585 : decode cL_law 585 = .ok (.iconst 3, 1) := dk_i kdL_law_580 5 rfl
theorem dL_law_586 : decode cL_law 586 = .ok (.iadd, 1) := dk_i kdL_law_580 6 rfl
theorem dL_law_587 : decode cL_law 587 = .ok (.iaload, 1) := dk_i kdL_law_580 7 rfl
theorem dL_law_588 : decode cL_law 588 = .ok (.invokevirtual 70, 3) := dk_i kdL_law_580 8 rfl
theorem dL_law_591 : decode cL_law 591 = .ok (.pop, 1) := dk_i kdL_law_580 9 rfl
theorem dL_law_592 : decode cL_law 592 = .ok (.goto 480, 3) := dk_i kdL_law_580 10 rfl
theorem dL_law_595 : decode cL_law 595 = .ok (.aload_n 1, 1) := dk_i kdL_law_580 11 rfl
theorem dL_law_596 : decode cL_law 596 = .ok (.aload_n 0, 1) := dk_i kdL_law_580 12 rfl
theorem dL_law_597 : decode cL_law 597 = .ok (.iload_n 3, 1) := dk_i kdL_law_580 13 rfl
theorem dL_law_598 : decode cL_law 598 = .ok (.iconst 1, 1) := dk_i kdL_law_580 14 rfl
theorem dL_law_599 : decode cL_law 599 = .ok (.iadd, 1) := dk_i kdL_law_580 15 rfl
def ldL_law_600 : List (Nat × ClassFile.Instr × Nat) := [(600, .iaload, 1), (601, .aload_n 0, 1), (602, .iload_n 3, 1), (603, .iconst 2, 1), (604, .iadd, 1), (605, .iaload, 1), (606, .invokevirtual 71, 3), (609, .pop, 1), (610, .aload_n 2, 1), (611, .aload_n 0, 1), (612, .iload_n 3, 1), (613, .iconst 1, 1), (614, .iadd, 1), (615, .iaload, 1), (616, .aload_n 0, 1), (617, .iload_n 3, 1)]
theorem kdL_law_600 : dkO cL_law 600 ldL_law_600 = true := by decide +kernel
theorem dL_law_600 : decode cL_law 600 = .ok (.iaload, 1) := dk_i kdL_law_600 0 rfl
theorem dL_law_601 : decode cL_law 601 = .ok (.aload_n 0, 1) := dk_i kdL_law_600 1 rfl
theorem dL_law_602 : decode cL_law 602 = .ok (.iload_n 3, 1) := dk_i kdL_law_600 2 rfl
theorem dL_law_603 : decode cL_law 603 = .ok (.iconst 2, 1) := dk_i kdL_law_600 3 rfl
theorem dL_law_604 : decode cL_law 604 = .ok (.iadd, 1) := dk_i kdL_law_600 4 rfl
theorem dL_law_605 : decode cL_law 605 = .ok (.iaload, 1) := dk_i kdL_law_600 5 rfl
theorem dL_law_606 : decode cL_law 606 = .ok (.invokevirtual 71, 3) := dk_i kdL_law_600 6 rfl
theorem dL_law_609 : decode cL_law 609 = .ok (.pop, 1) := dk_i kdL_law_600 7 rfl
theorem dL_law_610 : decode cL_law 610 = .ok (.aload_n 2, 1) := dk_i kdL_law_600 8 rfl
theorem dL_law_611 : decode cL_law 611 = .ok (.aload_n 0, 1) := dk_i kdL_law_600 9 rfl
theorem dL_law_612 : decode cL_law 612 = .ok (.iload_n 3, 1) := dk_i kdL_law_600 10 rfl
theorem dL_law_613 : decode cL_law 613 = .ok (.iconst 1, 1) := dk_i kdL_law_600 11 rfl
theorem dL_law_614 : decode cL_law 614 = .ok (.iadd, 1) := dk_i kdL_law_600 12 rfl
theorem dL_law_615 : decode cL_law 615 = .ok (.iaload, 1) := dk_i kdL_law_600 13 rfl
theorem dL_law_616 : decode cL_law 616 = .ok (.aload_n 0, 1) := dk_i kdL_law_600 14 rfl
theorem dL_law_617 : decode cL_law 617 = .ok (.iload_n 3, 1) := dk_i kdL_law_600 15 rfl
def ldL_law_618 : List (Nat × ClassFile.Instr × Nat) := [(618, .iconst 2, 1), (619, .iadd, 1), (620, .iaload, 1), (621, .invokevirtual 74, 3), (624, .pop, 1), (625, .goto 447, 3), (628, .aload_n 1, 1), (629, .aload_n 0, 1), (630, .iload_n 3, 1), (631, .iconst 1, 1), (632, .iadd, 1), (633, .iaload, 1), (634, .aload_n 0, 1), (635, .iload_n 3, 1), (636, .iconst 2, 1), (637, .iadd, 1)]
theorem kdL_law_618 : dkO cL_law 618 ldL_law_618 = true := by decide +kernel
theorem dL_law_618 : decode cL_law 618 = .ok (.iconst 2, 1) := dk_i kdL_law_618 0 rfl
theorem dL_law_619 : decode cL_law 619 = .ok (.iadd, 1) := dk_i kdL_law_618 1 rfl
theorem dL_law_620 : decode cL_law 620 = .ok (.iaload, 1) := dk_i kdL_law_618 2 rfl
theorem dL_law_621 : decode cL_law 621 = .ok (.invokevirtual 74, 3) := dk_i kdL_law_618 3 rfl
theorem dL_law_624 : decode cL_law 624 = .ok (.pop, 1) := dk_i kdL_law_618 4 rfl
theorem dL_law_625 : decode cL_law 625 = .ok (.goto 447, 3) := dk_i kdL_law_618 5 rfl
theorem dL_law_628 : decode cL_law 628 = .ok (.aload_n 1, 1) := dk_i kdL_law_618 6 rfl
theorem dL_law_629 : decode cL_law 629 = .ok (.aload_n 0, 1) := dk_i kdL_law_618 7 rfl
theorem dL_law_630 : decode cL_law 630 = .ok (.iload_n 3, 1) := dk_i kdL_law_618 8 rfl
theorem dL_law_631 : decode cL_law 631 = .ok (.iconst 1, 1) := dk_i kdL_law_618 9 rfl
theorem dL_law_632 : decode cL_law 632 = .ok (.iadd, 1) := dk_i kdL_law_618 10 rfl
theorem dL_law_633 : decode cL_law 633 = .ok (.iaload, 1) := dk_i kdL_law_618 11 rfl
theorem dL_law_634 : decode cL_law 634 = .ok (.aload_n 0, 1) := dk_i kdL_law_618 12 rfl
theorem dL_law_635 : decode cL_law 635 = .ok (.iload_n 3, 1) := dk_i kdL_law_618 13 rfl
theorem dL_law_636 : decode cL_law 636 = .ok (.iconst 2, 1) := dk_i kdL_law_618 14 rfl
theorem dL_law_637 : decode cL_law 637 = .ok (.iadd, 1) := dk_i kdL_law_618 15 rfl
def ldL_law_638 : List (Nat × ClassFile.Instr × Nat) := [(638, .iaload, 1), (639, .aload_n 0, 1), (640, .iload_n 3, 1), (641, .iconst 3, 1), (642, .iadd, 1), (643, .iaload, 1), (644, .invokevirtual 75, 3), (647, .pop2, 1), (648, .aload_n 2, 1), (649, .aload_n 0, 1), (650, .iload_n 3, 1), (651, .iconst 1, 1), (652, .iadd, 1), (653, .iaload, 1), (654, .aload_n 0, 1), (655, .iload_n 3, 1)]
theorem kdL_law_638 : dkO cL_law 638 ldL_law_638 = true := by decide +kernel
theorem dL_law_638 : decode cL_law 638 = .ok (.iaload, 1) := dk_i kdL_law_638 0 rfl
theorem dL_law_639 : decode cL_law 639 = .ok (.aload_n 0, 1) := dk_i kdL_law_638 1 rfl
theorem dL_law_640 : decode cL_law 640 = .ok (.iload_n 3, 1) := dk_i kdL_law_638 2 rfl
theorem dL_law_641 : decode cL_law 641 = .ok (.iconst 3, 1) := dk_i kdL_law_638 3 rfl
theorem dL_law_642 : decode cL_law 642 = .ok (.iadd, 1) := dk_i kdL_law_638 4 rfl
theorem dL_law_643 : decode cL_law 643 = .ok (.iaload, 1) := dk_i kdL_law_638 5 rfl
theorem dL_law_644 : decode cL_law 644 = .ok (.invokevirtual 75, 3) := dk_i kdL_law_638 6 rfl
theorem dL_law_647 : decode cL_law 647 = .ok (.pop2, 1) := dk_i kdL_law_638 7 rfl
theorem dL_law_648 : decode cL_law 648 = .ok (.aload_n 2, 1) := dk_i kdL_law_638 8 rfl
theorem dL_law_649 : decode cL_law 649 = .ok (.aload_n 0, 1) := dk_i kdL_law_638 9 rfl
theorem dL_law_650 : decode cL_law 650 = .ok (.iload_n 3, 1) := dk_i kdL_law_638 10 rfl
theorem dL_law_651 : decode cL_law 651 = .ok (.iconst 1, 1) := dk_i kdL_law_638 11 rfl
theorem dL_law_652 : decode cL_law 652 = .ok (.iadd, 1) := dk_i kdL_law_638 12 rfl
theorem dL_law_653 : decode cL_law 653 = .ok (.iaload, 1) := dk_i kdL_law_638 13 rfl
theorem dL_law_654 : decode cL_law 654 = .ok (.aload_n 0, 1) := dk_i kdL_law_638 14 rfl
theorem dL_law_655 : decode cL_law 655 = .ok (.iload_n 3, 1) := dk_i kdL_law_638 15 rfl
def ldL_law_656 : List (Nat × ClassFile.Instr × Nat) := [(656, .iconst 2, 1), (657, .iadd, 1), (658, .iaload, 1), (659, .aload_n 0, 1), (660, .iload_n 3, 1), (661, .iconst 3, 1), (662, .iadd, 1), (663, .iaload, 1), (664, .invokevirtual 79, 3), (667, .pop2, 1), (668, .goto 404, 3), (671, .aload_n 1, 1), (672, .aload_n 0, 1), (673, .iload_n 3, 1), (674, .iconst 1, 1), (675, .iadd, 1)]
theorem kdL_law_656 : dkO cL_law 656 ldL_law_656 = true := by decide +kernel
theorem dL_law_656 : decode cL_law 656 = .ok (.iconst 2, 1) := dk_i kdL_law_656 0 rfl
theorem dL_law_657 : decode cL_law 657 = .ok (.iadd, 1) := dk_i kdL_law_656 1 rfl
theorem dL_law_658 : decode cL_law 658 = .ok (.iaload, 1) := dk_i kdL_law_656 2 rfl
theorem dL_law_659 : decode cL_law 659 = .ok (.aload_n 0, 1) := dk_i kdL_law_656 3 rfl
theorem dL_law_660 : decode cL_law 660 = .ok (.iload_n 3, 1) := dk_i kdL_law_656 4 rfl
theorem dL_law_661 : decode cL_law 661 = .ok (.iconst 3, 1) := dk_i kdL_law_656 5 rfl
theorem dL_law_662 : decode cL_law 662 = .ok (.iadd, 1) := dk_i kdL_law_656 6 rfl
theorem dL_law_663 : decode cL_law 663 = .ok (.iaload, 1) := dk_i kdL_law_656 7 rfl
theorem dL_law_664 : decode cL_law 664 = .ok (.invokevirtual 79, 3) := dk_i kdL_law_656 8 rfl
theorem dL_law_667 : decode cL_law 667 = .ok (.pop2, 1) := dk_i kdL_law_656 9 rfl
theorem dL_law_668 : decode cL_law 668 = .ok (.goto 404, 3) := dk_i kdL_law_656 10 rfl
theorem dL_law_671 : decode cL_law 671 = .ok (.aload_n 1, 1) := dk_i kdL_law_656 11 rfl
theorem dL_law_672 : decode cL_law 672 = .ok (.aload_n 0, 1) := dk_i kdL_law_656 12 rfl
theorem dL_law_673 : decode cL_law 673 = .ok (.iload_n 3, 1) := dk_i kdL_law_656 13 rfl
theorem dL_law_674 : decode cL_law 674 = .ok (.iconst 1, 1) := dk_i kdL_law_656 14 rfl
theorem dL_law_675 : decode cL_law 675 = .ok (.iadd, 1) := dk_i kdL_law_656 15 rfl
def ldL_law_676 : List (Nat × ClassFile.Instr × Nat) := [(676, .iaload, 1), (677, .aload_n 0, 1), (678, .iload_n 3, 1), (679, .iconst 2, 1), (680, .iadd, 1), (681, .iaload, 1), (682, .invokevirtual 80, 3), (685, .pop, 1), (686, .aload_n 2, 1), (687, .aload_n 0, 1), (688, .iload_n 3, 1), (689, .iconst 1, 1), (690, .iadd, 1), (691, .iaload, 1), (692, .aload_n 0, 1), (693, .iload_n 3, 1)]
theorem kdL_law_676 : dkO cL_law 676 ldL_law_676 = true := by decide +kernel
theorem dL_law_676 : decode cL_law 676 = .ok (.iaload, 1) := dk_i kdL_law_676 0 rfl
theorem dL_law_677 : decode cL_law 677 = .ok (.aload_n 0, 1) := dk_i kdL_law_676 1 rfl
theorem dL_law_678 : decode cL_law 678 = .ok (.iload_n 3, 1) := dk_i kdL_law_676 2 rfl
theorem dL_law_679 : decode cL_law 679 = .ok (.iconst 2, 1) := dk_i kdL_law_676 3 rfl
theorem dL_law_680 : decode cL_law 680 = .ok (.iadd, 1) := dk_i kdL_law_676 4 rfl
theorem dL_law_681 : decode cL_law 681 = .ok (.iaload, 1) := dk_i kdL_law_676 5 rfl
theorem dL_law_682 : decode cL_law 682 = .ok (.invokevirtual 80, 3) := dk_i kdL_law_676 6 rfl
theorem dL_law_685 : decode cL_law 685 = .ok (.pop, 1) := dk_i kdL_law_676 7 rfl
theorem dL_law_686 : decode cL_law 686 = .ok (.aload_n 2, 1) := dk_i kdL_law_676 8 rfl
theorem dL_law_687 : decode cL_law 687 = .ok (.aload_n 0, 1) := dk_i kdL_law_676 9 rfl
theorem dL_law_688 : decode cL_law 688 = .ok (.iload_n 3, 1) := dk_i kdL_law_676 10 rfl
theorem dL_law_689 : decode cL_law 689 = .ok (.iconst 1, 1) := dk_i kdL_law_676 11 rfl
theorem dL_law_690 : decode cL_law 690 = .ok (.iadd, 1) := dk_i kdL_law_676 12 rfl
theorem dL_law_691 : decode cL_law 691 = .ok (.iaload, 1) := dk_i kdL_law_676 13 rfl
theorem dL_law_692 : decode cL_law 692 = .ok (.aload_n 0, 1) := dk_i kdL_law_676 14 rfl
theorem dL_law_693 : decode cL_law 693 = .ok (.iload_n 3, 1) := dk_i kdL_law_676 15 rfl
def ldL_law_694 : List (Nat × ClassFile.Instr × Nat) := [(694, .iconst 2, 1), (695, .iadd, 1), (696, .iaload, 1), (697, .invokevirtual 83, 3), (700, .pop, 1), (701, .goto 371, 3), (704, .aload_n 1, 1), (705, .aload_n 0, 1), (706, .iload_n 3, 1), (707, .iconst 1, 1), (708, .iadd, 1), (709, .iaload, 1), (710, .aload_n 0, 1), (711, .iload_n 3, 1), (712, .iconst 2, 1), (713, .iadd, 1)]
theorem kdL_law_694 : dkO cL_law 694 ldL_law_694 = true := by decide +kernel
theorem dL_law_694 : decode cL_law 694 = .ok (.iconst 2, 1) := dk_i kdL_law_694 0 rfl
theorem dL_law_695 : decode cL_law 695 = .ok (.iadd, 1) := dk_i kdL_law_694 1 rfl
theorem dL_law_696 : decode cL_law 696 = .ok (.iaload, 1) := dk_i kdL_law_694 2 rfl
theorem dL_law_697 : decode cL_law 697 = .ok (.invokevirtual 83, 3) := dk_i kdL_law_694 3 rfl
theorem dL_law_700 : decode cL_law 700 = .ok (.pop, 1) := dk_i kdL_law_694 4 rfl
theorem dL_law_701 : decode cL_law 701 = .ok (.goto 371, 3) := dk_i kdL_law_694 5 rfl
theorem dL_law_704 : decode cL_law 704 = .ok (.aload_n 1, 1) := dk_i kdL_law_694 6 rfl
theorem dL_law_705 : decode cL_law 705 = .ok (.aload_n 0, 1) := dk_i kdL_law_694 7 rfl
theorem dL_law_706 : decode cL_law 706 = .ok (.iload_n 3, 1) := dk_i kdL_law_694 8 rfl
theorem dL_law_707 : decode cL_law 707 = .ok (.iconst 1, 1) := dk_i kdL_law_694 9 rfl
theorem dL_law_708 : decode cL_law 708 = .ok (.iadd, 1) := dk_i kdL_law_694 10 rfl
theorem dL_law_709 : decode cL_law 709 = .ok (.iaload, 1) := dk_i kdL_law_694 11 rfl
theorem dL_law_710 : decode cL_law 710 = .ok (.aload_n 0, 1) := dk_i kdL_law_694 12 rfl
theorem dL_law_711 : decode cL_law 711 = .ok (.iload_n 3, 1) := dk_i kdL_law_694 13 rfl
theorem dL_law_712 : decode cL_law 712 = .ok (.iconst 2, 1) := dk_i kdL_law_694 14 rfl
theorem dL_law_713 : decode cL_law 713 = .ok (.iadd, 1) := dk_i kdL_law_694 15 rfl
def ldL_law_714 : List (Nat × ClassFile.Instr × Nat) := [(714, .iaload, 1), (715, .invokevirtual 84, 3), (718, .pop, 1), (719, .aload_n 2, 1), (720, .aload_n 0, 1), (721, .iload_n 3, 1), (722, .iconst 1, 1), (723, .iadd, 1), (724, .iaload, 1), (725, .aload_n 0, 1), (726, .iload_n 3, 1), (727, .iconst 2, 1), (728, .iadd, 1), (729, .iaload, 1), (730, .invokevirtual 87, 3), (733, .pop, 1)]
theorem kdL_law_714 : dkO cL_law 714 ldL_law_714 = true := by decide +kernel
theorem dL_law_714 : decode cL_law 714 = .ok (.iaload, 1) := dk_i kdL_law_714 0 rfl
theorem dL_law_715 : decode cL_law 715 = .ok (.invokevirtual 84, 3) := dk_i kdL_law_714 1 rfl
theorem dL_law_718 : decode cL_law 718 = .ok (.pop, 1) := dk_i kdL_law_714 2 rfl
theorem dL_law_719 : decode cL_law 719 = .ok (.aload_n 2, 1) := dk_i kdL_law_714 3 rfl
theorem dL_law_720 : decode cL_law 720 = .ok (.aload_n 0, 1) := dk_i kdL_law_714 4 rfl
theorem dL_law_721 : decode cL_law 721 = .ok (.iload_n 3, 1) := dk_i kdL_law_714 5 rfl
theorem dL_law_722 : decode cL_law 722 = .ok (.iconst 1, 1) := dk_i kdL_law_714 6 rfl
theorem dL_law_723 : decode cL_law 723 = .ok (.iadd, 1) := dk_i kdL_law_714 7 rfl
theorem dL_law_724 : decode cL_law 724 = .ok (.iaload, 1) := dk_i kdL_law_714 8 rfl
theorem dL_law_725 : decode cL_law 725 = .ok (.aload_n 0, 1) := dk_i kdL_law_714 9 rfl
theorem dL_law_726 : decode cL_law 726 = .ok (.iload_n 3, 1) := dk_i kdL_law_714 10 rfl
theorem dL_law_727 : decode cL_law 727 = .ok (.iconst 2, 1) := dk_i kdL_law_714 11 rfl
theorem dL_law_728 : decode cL_law 728 = .ok (.iadd, 1) := dk_i kdL_law_714 12 rfl
theorem dL_law_729 : decode cL_law 729 = .ok (.iaload, 1) := dk_i kdL_law_714 13 rfl
theorem dL_law_730 : decode cL_law 730 = .ok (.invokevirtual 87, 3) := dk_i kdL_law_714 14 rfl
theorem dL_law_733 : decode cL_law 733 = .ok (.pop, 1) := dk_i kdL_law_714 15 rfl
def ldL_law_734 : List (Nat × ClassFile.Instr × Nat) := [(734, .goto 338, 3), (737, .aload_n 1, 1), (738, .aload_n 0, 1), (739, .iload_n 3, 1), (740, .iconst 1, 1), (741, .iadd, 1), (742, .iaload, 1), (743, .invokevirtual 88, 3), (746, .pop, 1), (747, .aload_n 2, 1), (748, .aload_n 0, 1), (749, .iload_n 3, 1), (750, .iconst 1, 1), (751, .iadd, 1), (752, .iaload, 1), (753, .invokevirtual 91, 3)]
theorem kdL_law_734 : dkO cL_law 734 ldL_law_734 = true := by decide +kernel
theorem dL_law_734 : decode cL_law 734 = .ok (.goto 338, 3) := dk_i kdL_law_734 0 rfl
theorem dL_law_737 : decode cL_law 737 = .ok (.aload_n 1, 1) := dk_i kdL_law_734 1 rfl
theorem dL_law_738 : decode cL_law 738 = .ok (.aload_n 0, 1) := dk_i kdL_law_734 2 rfl
theorem dL_law_739 : decode cL_law 739 = .ok (.iload_n 3, 1) := dk_i kdL_law_734 3 rfl
theorem dL_law_740 : decode cL_law 740 = .ok (.iconst 1, 1) := dk_i kdL_law_734 4 rfl
theorem dL_law_741 : decode cL_law 741 = .ok (.iadd, 1) := dk_i kdL_law_734 5 rfl
theorem dL_law_742 : decode cL_law 742 = .ok (.iaload, 1) := dk_i kdL_law_734 6 rfl
theorem dL_law_743 : decode cL_law 743 = .ok (.invokevirtual 88, 3) := dk_i kdL_law_734 7 rfl
theorem dL_law_746 : decode cL_law 746 = .ok (.pop, 1) := dk_i kdL_law_734 8 rfl
theorem dL_law_747 : decode cL_law 747 = .ok (.aload_n 2, 1) := dk_i kdL_law_734 9 rfl
theorem dL_law_748 : decode cL_law 748 = .ok (.aload_n 0, 1) := dk_i kdL_law_734 10 rfl
theorem dL_law_749 : decode cL_law 749 = .ok (.iload_n 3, 1) := dk_i kdL_law_734 11 rfl
theorem dL_law_750 : decode cL_law 750 = .ok (.iconst 1, 1) := dk_i kdL_law_734 12 rfl
theorem dL_law_751 : decode cL_law 751 = .ok (.iadd, 1) := dk_i kdL_law_734 13 rfl
theorem dL_law_752 : decode cL_law 752 = .ok (.iaload, 1) := dk_i kdL_law_734 14 rfl
theorem dL_law_753 : decode cL_law 753 = .ok (.invokevirtual 91, 3) := dk_i kdL_law_734 15 rfl
def ldL_law_756 : List (Nat × ClassFile.Instr × Nat) := [(756, .pop, 1), (757, .goto 315, 3), (760, .aload_n 1, 1), (761, .invokevirtual 92, 3), (764, .pop, 1), (765, .aload_n 2, 1), (766, .invokevirtual 95, 3), (769, .pop, 1), (770, .goto 302, 3), (773, .aload_n 1, 1), (774, .aload_n 0, 1), (775, .iload_n 3, 1), (776, .iconst 1, 1), (777, .iadd, 1), (778, .iaload, 1), (779, .invokevirtual 96, 3)]
theorem kdL_law_756 : dkO cL_law 756 ldL_law_756 = true := by decide +kernel
theorem dL_law_756 : decode cL_law 756 = .ok (.pop, 1) := dk_i kdL_law_756 0 rfl
theorem dL_law_757 : decode cL_law 757 = .ok (.goto 315, 3) := dk_i kdL_law_756 1 rfl
theorem dL_law_760 : decode cL_law 760 = .ok (.aload_n 1, 1) := dk_i kdL_law_756 2 rfl
theorem dL_law_761 : decode cL_law 761 = .ok (.invokevirtual 92, 3) := dk_i kdL_law_756 3 rfl
theorem dL_law_764 : decode cL_law 764 = .ok (.pop, 1) := dk_i kdL_law_756 4 rfl
theorem dL_law_765 : decode cL_law 765 = .ok (.aload_n 2, 1) := dk_i kdL_law_756 5 rfl
theorem dL_law_766 : decode cL_law 766 = .ok (.invokevirtual 95, 3) := dk_i kdL_law_756 6 rfl
theorem dL_law_769 : decode cL_law 769 = .ok (.pop, 1) := dk_i kdL_law_756 7 rfl
theorem dL_law_770 : decode cL_law 770 = .ok (.goto 302, 3) := dk_i kdL_law_756 8 rfl
theorem dL_law_773 : decode cL_law 773 = .ok (.aload_n 1, 1) := dk_i kdL_law_756 9 rfl
theorem dL_law_774 : decode cL_law 774 = .ok (.aload_n 0, 1) := dk_i kdL_law_756 10 rfl
theorem dL_law_775 : decode cL_law 775 = .ok (.iload_n 3, 1) := dk_i kdL_law_756 11 rfl
theorem dL_law_776 : decode cL_law 776 = .ok (.iconst 1, 1) := dk_i kdL_law_756 12 rfl
theorem dL_law_777 : decode cL_law 777 = .ok (.iadd, 1) := dk_i kdL_law_756 13 rfl
theorem dL_law_778 : decode cL_law 778 = .ok (.iaload, 1) := dk_i kdL_law_756 14 rfl
theorem dL_law_779 : decode cL_law 779 = .ok (.invokevirtual 96, 3) := dk_i kdL_law_756 15 rfl
def ldL_law_782 : List (Nat × ClassFile.Instr × Nat) := [(782, .pop, 1), (783, .aload_n 2, 1), (784, .aload_n 0, 1), (785, .iload_n 3, 1), (786, .iconst 1, 1), (787, .iadd, 1), (788, .iaload, 1), (789, .invokevirtual 99, 3), (792, .pop, 1), (793, .goto 279, 3), (796, .aload_n 1, 1), (797, .aload_n 0, 1), (798, .iload_n 3, 1), (799, .iconst 1, 1), (800, .iadd, 1), (801, .iaload, 1)]
theorem kdL_law_782 : dkO cL_law 782 ldL_law_782 = true := by decide +kernel
theorem dL_law_782 : decode cL_law 782 = .ok (.pop, 1) := dk_i kdL_law_782 0 rfl
theorem dL_law_783 : decode cL_law 783 = .ok (.aload_n 2, 1) := dk_i kdL_law_782 1 rfl
theorem dL_law_784 : decode cL_law 784 = .ok (.aload_n 0, 1) := dk_i kdL_law_782 2 rfl
theorem dL_law_785 : decode cL_law 785 = .ok (.iload_n 3, 1) := dk_i kdL_law_782 3 rfl
theorem dL_law_786 : decode cL_law 786 = .ok (.iconst 1, 1) := dk_i kdL_law_782 4 rfl
theorem dL_law_787 : decode cL_law 787 = .ok (.iadd, 1) := dk_i kdL_law_782 5 rfl
theorem dL_law_788 : decode cL_law 788 = .ok (.iaload, 1) := dk_i kdL_law_782 6 rfl
theorem dL_law_789 : decode cL_law 789 = .ok (.invokevirtual 99, 3) := dk_i kdL_law_782 7 rfl
theorem dL_law_792 : decode cL_law 792 = .ok (.pop, 1) := dk_i kdL_law_782 8 rfl
theorem dL_law_793 : decode cL_law 793 = .ok (.goto 279, 3) := dk_i kdL_law_782 9 rfl
theorem dL_law_796 : decode cL_law 796 = .ok (.aload_n 1, 1) := dk_i kdL_law_782 10 rfl
theorem dL_law_797 : decode cL_law 797 = .ok (.aload_n 0, 1) := dk_i kdL_law_782 11 rfl
theorem dL_law_798 : decode cL_law 798 = .ok (.iload_n 3, 1) := dk_i kdL_law_782 12 rfl
theorem dL_law_799 : decode cL_law 799 = .ok (.iconst 1, 1) := dk_i kdL_law_782 13 rfl
theorem dL_law_800 : decode cL_law 800 = .ok (.iadd, 1) := dk_i kdL_law_782 14 rfl
theorem dL_law_801 : decode cL_law 801 = .ok (.iaload, 1) := dk_i kdL_law_782 15 rfl
def ldL_law_802 : List (Nat × ClassFile.Instr × Nat) := [(802, .aload_n 0, 1), (803, .iload_n 3, 1), (804, .iconst 2, 1), (805, .iadd, 1), (806, .iaload, 1), (807, .invokevirtual 100, 3), (810, .pop, 1), (811, .aload_n 2, 1), (812, .aload_n 0, 1), (813, .iload_n 3, 1), (814, .iconst 1, 1), (815, .iadd, 1), (816, .iaload, 1), (817, .aload_n 0, 1), (818, .iload_n 3, 1), (819, .iconst 2, 1)]
theorem kdL_law_802 : dkO cL_law 802 ldL_law_802 = true := by decide +kernel
theorem dL_law_802 : decode cL_law 802 = .ok (.aload_n 0, 1) := dk_i kdL_law_802 0 rfl
theorem dL_law_803 : decode cL_law 803 = .ok (.iload_n 3, 1) := dk_i kdL_law_802 1 rfl
theorem dL_law_804 : decode cL_law 804 = .ok (.iconst 2, 1) := dk_i kdL_law_802 2 rfl
theorem dL_law_805 : decode cL_law 805 = .ok (.iadd, 1) := dk_i kdL_law_802 3 rfl
theorem dL_law_806 : decode cL_law 806 = .ok (.iaload, 1) := dk_i kdL_law_802 4 rfl
theorem dL_law_807 : decode cL_law 807 = .ok (.invokevirtual 100, 3) := dk_i kdL_law_802 5 rfl
theorem dL_law_810 : decode cL_law 810 = .ok (.pop, 1) := dk_i kdL_law_802 6 rfl
theorem dL_law_811 : decode cL_law 811 = .ok (.aload_n 2, 1) := dk_i kdL_law_802 7 rfl
theorem dL_law_812 : decode cL_law 812 = .ok (.aload_n 0, 1) := dk_i kdL_law_802 8 rfl
theorem dL_law_813 : decode cL_law 813 = .ok (.iload_n 3, 1) := dk_i kdL_law_802 9 rfl
theorem dL_law_814 : decode cL_law 814 = .ok (.iconst 1, 1) := dk_i kdL_law_802 10 rfl
theorem dL_law_815 : decode cL_law 815 = .ok (.iadd, 1) := dk_i kdL_law_802 11 rfl
theorem dL_law_816 : decode cL_law 816 = .ok (.iaload, 1) := dk_i kdL_law_802 12 rfl
theorem dL_law_817 : decode cL_law 817 = .ok (.aload_n 0, 1) := dk_i kdL_law_802 13 rfl
theorem dL_law_818 : decode cL_law 818 = .ok (.iload_n 3, 1) := dk_i kdL_law_802 14 rfl
theorem dL_law_819 : decode cL_law 819 = .ok (.iconst 2, 1) := dk_i kdL_law_802 15 rfl
def ldL_law_820 : List (Nat × ClassFile.Instr × Nat) := [(820, .iadd, 1), (821, .iaload, 1), (822, .invokevirtual 103, 3), (825, .pop, 1), (826, .goto 246, 3), (829, .aload_n 1, 1), (830, .aload_n 0, 1), (831, .iload_n 3, 1), (832, .iconst 1, 1), (833, .iadd, 1), (834, .iaload, 1), (835, .invokevirtual 104, 3), (838, .pop, 1), (839, .aload_n 2, 1), (840, .aload_n 0, 1), (841, .iload_n 3, 1)]
theorem kdL_law_820 : dkO cL_law 820 ldL_law_820 = true := by decide +kernel
theorem dL_law_820 : decode cL_law 820 = .ok (.iadd, 1) := dk_i kdL_law_820 0 rfl
theorem dL_law_821 : decode cL_law 821 = .ok (.iaload, 1) := dk_i kdL_law_820 1 rfl
theorem dL_law_822 : decode cL_law 822 = .ok (.invokevirtual 103, 3) := dk_i kdL_law_820 2 rfl
theorem dL_law_825 : decode cL_law 825 = .ok (.pop, 1) := dk_i kdL_law_820 3 rfl
theorem dL_law_826 : decode cL_law 826 = .ok (.goto 246, 3) := dk_i kdL_law_820 4 rfl
theorem dL_law_829 : decode cL_law 829 = .ok (.aload_n 1, 1) := dk_i kdL_law_820 5 rfl
theorem dL_law_830 : decode cL_law 830 = .ok (.aload_n 0, 1) := dk_i kdL_law_820 6 rfl
theorem dL_law_831 : decode cL_law 831 = .ok (.iload_n 3, 1) := dk_i kdL_law_820 7 rfl
theorem dL_law_832 : decode cL_law 832 = .ok (.iconst 1, 1) := dk_i kdL_law_820 8 rfl
theorem dL_law_833 : decode cL_law 833 = .ok (.iadd, 1) := dk_i kdL_law_820 9 rfl
theorem dL_law_834 : decode cL_law 834 = .ok (.iaload, 1) := dk_i kdL_law_820 10 rfl
theorem dL_law_835 : decode cL_law 835 = .ok (.invokevirtual 104, 3) := dk_i kdL_law_820 11 rfl
theorem dL_law_838 : decode cL_law 838 = .ok (.pop, 1) := dk_i kdL_law_820 12 rfl
theorem dL_law_839 : decode cL_law 839 = .ok (.aload_n 2, 1) := dk_i kdL_law_820 13 rfl
theorem dL_law_840 : decode cL_law 840 = .ok (.aload_n 0, 1) := dk_i kdL_law_820 14 rfl
theorem dL_law_841 : decode cL_law 841 = .ok (.iload_n 3, 1) := dk_i kdL_law_820 15 rfl
def ldL_law_842 : List (Nat × ClassFile.Instr × Nat) := [(842, .iconst 1, 1), (843, .iadd, 1), (844, .iaload, 1), (845, .invokevirtual 107, 3), (848, .pop, 1), (849, .goto 223, 3), (852, .aload_n 1, 1), (853, .aload_n 0, 1), (854, .iload_n 3, 1), (855, .iconst 1, 1), (856, .iadd, 1), (857, .iaload, 1), (858, .invokevirtual 108, 3), (861, .pop, 1), (862, .aload_n 2, 1), (863, .aload_n 0, 1)]
theorem kdL_law_842 : dkO cL_law 842 ldL_law_842 = true := by decide +kernel
theorem dL_law_842 : decode cL_law 842 = .ok (.iconst 1, 1) := dk_i kdL_law_842 0 rfl
theorem dL_law_843 : decode cL_law 843 = .ok (.iadd, 1) := dk_i kdL_law_842 1 rfl
theorem dL_law_844 : decode cL_law 844 = .ok (.iaload, 1) := dk_i kdL_law_842 2 rfl
theorem dL_law_845 : decode cL_law 845 = .ok (.invokevirtual 107, 3) := dk_i kdL_law_842 3 rfl
theorem dL_law_848 : decode cL_law 848 = .ok (.pop, 1) := dk_i kdL_law_842 4 rfl
theorem dL_law_849 : decode cL_law 849 = .ok (.goto 223, 3) := dk_i kdL_law_842 5 rfl
theorem dL_law_852 : decode cL_law 852 = .ok (.aload_n 1, 1) := dk_i kdL_law_842 6 rfl
theorem dL_law_853 : decode cL_law 853 = .ok (.aload_n 0, 1) := dk_i kdL_law_842 7 rfl
theorem dL_law_854 : decode cL_law 854 = .ok (.iload_n 3, 1) := dk_i kdL_law_842 8 rfl
theorem dL_law_855 : decode cL_law 855 = .ok (.iconst 1, 1) := dk_i kdL_law_842 9 rfl
theorem dL_law_856 : decode cL_law 856 = .ok (.iadd, 1) := dk_i kdL_law_842 10 rfl
theorem dL_law_857 : decode cL_law 857 = .ok (.iaload, 1) := dk_i kdL_law_842 11 rfl
theorem dL_law_858 : decode cL_law 858 = .ok (.invokevirtual 108, 3) := dk_i kdL_law_842 12 rfl
theorem dL_law_861 : decode cL_law 861 = .ok (.pop, 1) := dk_i kdL_law_842 13 rfl
theorem dL_law_862 : decode cL_law 862 = .ok (.aload_n 2, 1) := dk_i kdL_law_842 14 rfl
theorem dL_law_863 : decode cL_law 863 = .ok (.aload_n 0, 1) := dk_i kdL_law_842 15 rfl
def ldL_law_864 : List (Nat × ClassFile.Instr × Nat) := [(864, .iload_n 3, 1), (865, .iconst 1, 1), (866, .iadd, 1), (867, .iaload, 1), (868, .invokevirtual 111, 3), (871, .pop, 1), (872, .goto 200, 3), (875, .aload_n 1, 1), (876, .aload_n 0, 1), (877, .iload_n 3, 1), (878, .iconst 1, 1), (879, .iadd, 1), (880, .iaload, 1), (881, .aload_n 0, 1), (882, .iload_n 3, 1), (883, .iconst 2, 1)]
theorem kdL_law_864 : dkO cL_law 864 ldL_law_864 = true := by decide +kernel
theorem dL_law_864 : decode cL_law 864 = .ok (.iload_n 3, 1) := dk_i kdL_law_864 0 rfl
theorem dL_law_865 : decode cL_law 865 = .ok (.iconst 1, 1) := dk_i kdL_law_864 1 rfl
theorem dL_law_866 : decode cL_law 866 = .ok (.iadd, 1) := dk_i kdL_law_864 2 rfl
theorem dL_law_867 : decode cL_law 867 = .ok (.iaload, 1) := dk_i kdL_law_864 3 rfl
theorem dL_law_868 : decode cL_law 868 = .ok (.invokevirtual 111, 3) := dk_i kdL_law_864 4 rfl
theorem dL_law_871 : decode cL_law 871 = .ok (.pop, 1) := dk_i kdL_law_864 5 rfl
theorem dL_law_872 : decode cL_law 872 = .ok (.goto 200, 3) := dk_i kdL_law_864 6 rfl
theorem dL_law_875 : decode cL_law 875 = .ok (.aload_n 1, 1) := dk_i kdL_law_864 7 rfl
theorem dL_law_876 : decode cL_law 876 = .ok (.aload_n 0, 1) := dk_i kdL_law_864 8 rfl
theorem dL_law_877 : decode cL_law 877 = .ok (.iload_n 3, 1) := dk_i kdL_law_864 9 rfl
theorem dL_law_878 : decode cL_law 878 = .ok (.iconst 1, 1) := dk_i kdL_law_864 10 rfl
theorem dL_law_879 : decode cL_law 879 = .ok (.iadd, 1) := dk_i kdL_law_864 11 rfl
theorem dL_law_880 : decode cL_law 880 = .ok (.iaload, 1) := dk_i kdL_law_864 12 rfl
theorem dL_law_881 : decode cL_law 881 = .ok (.aload_n 0, 1) := dk_i kdL_law_864 13 rfl
theorem dL_law_882 : decode cL_law 882 = .ok (.iload_n 3, 1) := dk_i kdL_law_864 14 rfl
theorem dL_law_883 : decode cL_law 883 = .ok (.iconst 2, 1) := dk_i kdL_law_864 15 rfl
def ldL_law_884 : List (Nat × ClassFile.Instr × Nat) := [(884, .iadd, 1), (885, .iaload, 1), (886, .invokevirtual 112, 3), (889, .pop, 1), (890, .aload_n 2, 1), (891, .aload_n 0, 1), (892, .iload_n 3, 1), (893, .iconst 1, 1), (894, .iadd, 1), (895, .iaload, 1), (896, .aload_n 0, 1), (897, .iload_n 3, 1), (898, .iconst 2, 1), (899, .iadd, 1), (900, .iaload, 1), (901, .invokevirtual 115, 3)]
theorem kdL_law_884 : dkO cL_law 884 ldL_law_884 = true := by decide +kernel
theorem dL_law_884 : decode cL_law 884 = .ok (.iadd, 1) := dk_i kdL_law_884 0 rfl
theorem dL_law_885 : decode cL_law 885 = .ok (.iaload, 1) := dk_i kdL_law_884 1 rfl
theorem dL_law_886 : decode cL_law 886 = .ok (.invokevirtual 112, 3) := dk_i kdL_law_884 2 rfl
theorem dL_law_889 : decode cL_law 889 = .ok (.pop, 1) := dk_i kdL_law_884 3 rfl
theorem dL_law_890 : decode cL_law 890 = .ok (.aload_n 2, 1) := dk_i kdL_law_884 4 rfl
theorem dL_law_891 : decode cL_law 891 = .ok (.aload_n 0, 1) := dk_i kdL_law_884 5 rfl
theorem dL_law_892 : decode cL_law 892 = .ok (.iload_n 3, 1) := dk_i kdL_law_884 6 rfl
theorem dL_law_893 : decode cL_law 893 = .ok (.iconst 1, 1) := dk_i kdL_law_884 7 rfl
theorem dL_law_894 : decode cL_law 894 = .ok (.iadd, 1) := dk_i kdL_law_884 8 rfl
theorem dL_law_895 : decode cL_law 895 = .ok (.iaload, 1) := dk_i kdL_law_884 9 rfl
theorem dL_law_896 : decode cL_law 896 = .ok (.aload_n 0, 1) := dk_i kdL_law_884 10 rfl
theorem dL_law_897 : decode cL_law 897 = .ok (.iload_n 3, 1) := dk_i kdL_law_884 11 rfl
theorem dL_law_898 : decode cL_law 898 = .ok (.iconst 2, 1) := dk_i kdL_law_884 12 rfl
theorem dL_law_899 : decode cL_law 899 = .ok (.iadd, 1) := dk_i kdL_law_884 13 rfl
theorem dL_law_900 : decode cL_law 900 = .ok (.iaload, 1) := dk_i kdL_law_884 14 rfl
theorem dL_law_901 : decode cL_law 901 = .ok (.invokevirtual 115, 3) := dk_i kdL_law_884 15 rfl
def ldL_law_904 : List (Nat × ClassFile.Instr × Nat) := [(904, .pop, 1), (905, .goto 167, 3), (908, .aload_n 1, 1), (909, .aload_n 0, 1), (910, .iload_n 3, 1), (911, .iconst 1, 1), (912, .iadd, 1), (913, .iaload, 1), (914, .invokevirtual 116, 3), (917, .pop, 1), (918, .aload_n 2, 1), (919, .aload_n 0, 1), (920, .iload_n 3, 1), (921, .iconst 1, 1), (922, .iadd, 1), (923, .iaload, 1)]
theorem kdL_law_904 : dkO cL_law 904 ldL_law_904 = true := by decide +kernel
theorem dL_law_904 : decode cL_law 904 = .ok (.pop, 1) := dk_i kdL_law_904 0 rfl
theorem dL_law_905 : decode cL_law 905 = .ok (.goto 167, 3) := dk_i kdL_law_904 1 rfl
theorem dL_law_908 : decode cL_law 908 = .ok (.aload_n 1, 1) := dk_i kdL_law_904 2 rfl
theorem dL_law_909 : decode cL_law 909 = .ok (.aload_n 0, 1) := dk_i kdL_law_904 3 rfl
theorem dL_law_910 : decode cL_law 910 = .ok (.iload_n 3, 1) := dk_i kdL_law_904 4 rfl
theorem dL_law_911 : decode cL_law 911 = .ok (.iconst 1, 1) := dk_i kdL_law_904 5 rfl
theorem dL_law_912 : decode cL_law 912 = .ok (.iadd, 1) := dk_i kdL_law_904 6 rfl
theorem dL_law_913 : decode cL_law 913 = .ok (.iaload, 1) := dk_i kdL_law_904 7 rfl
theorem dL_law_914 : decode cL_law 914 = .ok (.invokevirtual 116, 3) := dk_i kdL_law_904 8 rfl
theorem dL_law_917 : decode cL_law 917 = .ok (.pop, 1) := dk_i kdL_law_904 9 rfl
theorem dL_law_918 : decode cL_law 918 = .ok (.aload_n 2, 1) := dk_i kdL_law_904 10 rfl
theorem dL_law_919 : decode cL_law 919 = .ok (.aload_n 0, 1) := dk_i kdL_law_904 11 rfl
theorem dL_law_920 : decode cL_law 920 = .ok (.iload_n 3, 1) := dk_i kdL_law_904 12 rfl
theorem dL_law_921 : decode cL_law 921 = .ok (.iconst 1, 1) := dk_i kdL_law_904 13 rfl
theorem dL_law_922 : decode cL_law 922 = .ok (.iadd, 1) := dk_i kdL_law_904 14 rfl
theorem dL_law_923 : decode cL_law 923 = .ok (.iaload, 1) := dk_i kdL_law_904 15 rfl
def ldL_law_924 : List (Nat × ClassFile.Instr × Nat) := [(924, .invokevirtual 119, 3), (927, .pop, 1), (928, .goto 144, 3), (931, .aload_n 1, 1), (932, .invokevirtual 120, 3), (935, .pop, 1), (936, .aload_n 2, 1), (937, .invokevirtual 124, 3), (940, .pop, 1), (941, .goto 131, 3), (944, .aload_n 1, 1), (945, .aload_n 0, 1), (946, .iload_n 3, 1), (947, .iconst 1, 1), (948, .iadd, 1), (949, .iaload, 1)]
theorem kdL_law_924 : dkO cL_law 924 ldL_law_924 = true := by decide +kernel
theorem dL_law_924 : decode cL_law 924 = .ok (.invokevirtual 119, 3) := dk_i kdL_law_924 0 rfl
theorem dL_law_927 : decode cL_law 927 = .ok (.pop, 1) := dk_i kdL_law_924 1 rfl
theorem dL_law_928 : decode cL_law 928 = .ok (.goto 144, 3) := dk_i kdL_law_924 2 rfl
theorem dL_law_931 : decode cL_law 931 = .ok (.aload_n 1, 1) := dk_i kdL_law_924 3 rfl
theorem dL_law_932 : decode cL_law 932 = .ok (.invokevirtual 120, 3) := dk_i kdL_law_924 4 rfl
theorem dL_law_935 : decode cL_law 935 = .ok (.pop, 1) := dk_i kdL_law_924 5 rfl
theorem dL_law_936 : decode cL_law 936 = .ok (.aload_n 2, 1) := dk_i kdL_law_924 6 rfl
theorem dL_law_937 : decode cL_law 937 = .ok (.invokevirtual 124, 3) := dk_i kdL_law_924 7 rfl
theorem dL_law_940 : decode cL_law 940 = .ok (.pop, 1) := dk_i kdL_law_924 8 rfl
theorem dL_law_941 : decode cL_law 941 = .ok (.goto 131, 3) := dk_i kdL_law_924 9 rfl
theorem dL_law_944 : decode cL_law 944 = .ok (.aload_n 1, 1) := dk_i kdL_law_924 10 rfl
theorem dL_law_945 : decode cL_law 945 = .ok (.aload_n 0, 1) := dk_i kdL_law_924 11 rfl
theorem dL_law_946 : decode cL_law 946 = .ok (.iload_n 3, 1) := dk_i kdL_law_924 12 rfl
theorem dL_law_947 : decode cL_law 947 = .ok (.iconst 1, 1) := dk_i kdL_law_924 13 rfl
theorem dL_law_948 : decode cL_law 948 = .ok (.iadd, 1) := dk_i kdL_law_924 14 rfl
theorem dL_law_949 : decode cL_law 949 = .ok (.iaload, 1) := dk_i kdL_law_924 15 rfl
def ldL_law_950 : List (Nat × ClassFile.Instr × Nat) := [(950, .invokevirtual 125, 3), (953, .pop, 1), (954, .aload_n 2, 1), (955, .aload_n 0, 1), (956, .iload_n 3, 1), (957, .iconst 1, 1), (958, .iadd, 1), (959, .iaload, 1), (960, .invokevirtual 128, 3), (963, .pop, 1), (964, .goto 108, 3), (967, .aload_n 1, 1), (968, .aload_n 0, 1), (969, .iload_n 3, 1), (970, .iconst 1, 1), (971, .iadd, 1)]
theorem kdL_law_950 : dkO cL_law 950 ldL_law_950 = true := by decide +kernel
theorem dL_law_950 : decode cL_law 950 = .ok (.invokevirtual 125, 3) := dk_i kdL_law_950 0 rfl
theorem dL_law_953 : decode cL_law 953 = .ok (.pop, 1) := dk_i kdL_law_950 1 rfl
theorem dL_law_954 : decode cL_law 954 = .ok (.aload_n 2, 1) := dk_i kdL_law_950 2 rfl
theorem dL_law_955 : decode cL_law 955 = .ok (.aload_n 0, 1) := dk_i kdL_law_950 3 rfl
theorem dL_law_956 : decode cL_law 956 = .ok (.iload_n 3, 1) := dk_i kdL_law_950 4 rfl
theorem dL_law_957 : decode cL_law 957 = .ok (.iconst 1, 1) := dk_i kdL_law_950 5 rfl
theorem dL_law_958 : decode cL_law 958 = .ok (.iadd, 1) := dk_i kdL_law_950 6 rfl
theorem dL_law_959 : decode cL_law 959 = .ok (.iaload, 1) := dk_i kdL_law_950 7 rfl
theorem dL_law_960 : decode cL_law 960 = .ok (.invokevirtual 128, 3) := dk_i kdL_law_950 8 rfl
theorem dL_law_963 : decode cL_law 963 = .ok (.pop, 1) := dk_i kdL_law_950 9 rfl
theorem dL_law_964 : decode cL_law 964 = .ok (.goto 108, 3) := dk_i kdL_law_950 10 rfl
theorem dL_law_967 : decode cL_law 967 = .ok (.aload_n 1, 1) := dk_i kdL_law_950 11 rfl
theorem dL_law_968 : decode cL_law 968 = .ok (.aload_n 0, 1) := dk_i kdL_law_950 12 rfl
theorem dL_law_969 : decode cL_law 969 = .ok (.iload_n 3, 1) := dk_i kdL_law_950 13 rfl
theorem dL_law_970 : decode cL_law 970 = .ok (.iconst 1, 1) := dk_i kdL_law_950 14 rfl
theorem dL_law_971 : decode cL_law 971 = .ok (.iadd, 1) := dk_i kdL_law_950 15 rfl
def ldL_law_972 : List (Nat × ClassFile.Instr × Nat) := [(972, .iaload, 1), (973, .aload_n 0, 1), (974, .iload_n 3, 1), (975, .iconst 2, 1), (976, .iadd, 1), (977, .iaload, 1), (978, .invokevirtual 129, 3), (981, .pop, 1), (982, .aload_n 2, 1), (983, .aload_n 0, 1), (984, .iload_n 3, 1), (985, .iconst 1, 1), (986, .iadd, 1), (987, .iaload, 1), (988, .aload_n 0, 1), (989, .iload_n 3, 1)]
theorem kdL_law_972 : dkO cL_law 972 ldL_law_972 = true := by decide +kernel
theorem dL_law_972 : decode cL_law 972 = .ok (.iaload, 1) := dk_i kdL_law_972 0 rfl
theorem dL_law_973 : decode cL_law 973 = .ok (.aload_n 0, 1) := dk_i kdL_law_972 1 rfl
theorem dL_law_974 : decode cL_law 974 = .ok (.iload_n 3, 1) := dk_i kdL_law_972 2 rfl
theorem dL_law_975 : decode cL_law 975 = .ok (.iconst 2, 1) := dk_i kdL_law_972 3 rfl
theorem dL_law_976 : decode cL_law 976 = .ok (.iadd, 1) := dk_i kdL_law_972 4 rfl
theorem dL_law_977 : decode cL_law 977 = .ok (.iaload, 1) := dk_i kdL_law_972 5 rfl
theorem dL_law_978 : decode cL_law 978 = .ok (.invokevirtual 129, 3) := dk_i kdL_law_972 6 rfl
theorem dL_law_981 : decode cL_law 981 = .ok (.pop, 1) := dk_i kdL_law_972 7 rfl
theorem dL_law_982 : decode cL_law 982 = .ok (.aload_n 2, 1) := dk_i kdL_law_972 8 rfl
theorem dL_law_983 : decode cL_law 983 = .ok (.aload_n 0, 1) := dk_i kdL_law_972 9 rfl
theorem dL_law_984 : decode cL_law 984 = .ok (.iload_n 3, 1) := dk_i kdL_law_972 10 rfl
theorem dL_law_985 : decode cL_law 985 = .ok (.iconst 1, 1) := dk_i kdL_law_972 11 rfl
theorem dL_law_986 : decode cL_law 986 = .ok (.iadd, 1) := dk_i kdL_law_972 12 rfl
theorem dL_law_987 : decode cL_law 987 = .ok (.iaload, 1) := dk_i kdL_law_972 13 rfl
theorem dL_law_988 : decode cL_law 988 = .ok (.aload_n 0, 1) := dk_i kdL_law_972 14 rfl
theorem dL_law_989 : decode cL_law 989 = .ok (.iload_n 3, 1) := dk_i kdL_law_972 15 rfl
def ldL_law_990 : List (Nat × ClassFile.Instr × Nat) := [(990, .iconst 2, 1), (991, .iadd, 1), (992, .iaload, 1), (993, .invokevirtual 132, 3), (996, .pop, 1), (997, .goto 75, 3), (1000, .aload_n 1, 1), (1001, .invokevirtual 133, 3), (1004, .pop, 1), (1005, .aload_n 2, 1), (1006, .invokevirtual 136, 3), (1009, .pop, 1), (1010, .goto 62, 3), (1013, .aload_n 1, 1), (1014, .aload_n 0, 1), (1015, .iload_n 3, 1)]
theorem kdL_law_990 : dkO cL_law 990 ldL_law_990 = true := by decide +kernel
theorem dL_law_990 : decode cL_law 990 = .ok (.iconst 2, 1) := dk_i kdL_law_990 0 rfl
theorem dL_law_991 : decode cL_law 991 = .ok (.iadd, 1) := dk_i kdL_law_990 1 rfl
theorem dL_law_992 : decode cL_law 992 = .ok (.iaload, 1) := dk_i kdL_law_990 2 rfl
theorem dL_law_993 : decode cL_law 993 = .ok (.invokevirtual 132, 3) := dk_i kdL_law_990 3 rfl
theorem dL_law_996 : decode cL_law 996 = .ok (.pop, 1) := dk_i kdL_law_990 4 rfl
theorem dL_law_997 : decode cL_law 997 = .ok (.goto 75, 3) := dk_i kdL_law_990 5 rfl
theorem dL_law_1000 : decode cL_law 1000 = .ok (.aload_n 1, 1) := dk_i kdL_law_990 6 rfl
theorem dL_law_1001 : decode cL_law 1001 = .ok (.invokevirtual 133, 3) := dk_i kdL_law_990 7 rfl
theorem dL_law_1004 : decode cL_law 1004 = .ok (.pop, 1) := dk_i kdL_law_990 8 rfl
theorem dL_law_1005 : decode cL_law 1005 = .ok (.aload_n 2, 1) := dk_i kdL_law_990 9 rfl
theorem dL_law_1006 : decode cL_law 1006 = .ok (.invokevirtual 136, 3) := dk_i kdL_law_990 10 rfl
theorem dL_law_1009 : decode cL_law 1009 = .ok (.pop, 1) := dk_i kdL_law_990 11 rfl
theorem dL_law_1010 : decode cL_law 1010 = .ok (.goto 62, 3) := dk_i kdL_law_990 12 rfl
theorem dL_law_1013 : decode cL_law 1013 = .ok (.aload_n 1, 1) := dk_i kdL_law_990 13 rfl
theorem dL_law_1014 : decode cL_law 1014 = .ok (.aload_n 0, 1) := dk_i kdL_law_990 14 rfl
theorem dL_law_1015 : decode cL_law 1015 = .ok (.iload_n 3, 1) := dk_i kdL_law_990 15 rfl
def ldL_law_1016 : List (Nat × ClassFile.Instr × Nat) := [(1016, .iconst 1, 1), (1017, .iadd, 1), (1018, .iaload, 1), (1019, .invokevirtual 137, 3), (1022, .pop, 1), (1023, .aload_n 2, 1), (1024, .aload_n 0, 1), (1025, .iload_n 3, 1), (1026, .iconst 1, 1), (1027, .iadd, 1), (1028, .iaload, 1), (1029, .invokevirtual 140, 3), (1032, .pop, 1), (1033, .goto 39, 3), (1036, .aload_n 1, 1), (1037, .invokevirtual 141, 3)]
theorem kdL_law_1016 : dkO cL_law 1016 ldL_law_1016 = true := by decide +kernel
theorem dL_law_1016 : decode cL_law 1016 = .ok (.iconst 1, 1) := dk_i kdL_law_1016 0 rfl
theorem dL_law_1017 : decode cL_law 1017 = .ok (.iadd, 1) := dk_i kdL_law_1016 1 rfl
theorem dL_law_1018 : decode cL_law 1018 = .ok (.iaload, 1) := dk_i kdL_law_1016 2 rfl
theorem dL_law_1019 : decode cL_law 1019 = .ok (.invokevirtual 137, 3) := dk_i kdL_law_1016 3 rfl
theorem dL_law_1022 : decode cL_law 1022 = .ok (.pop, 1) := dk_i kdL_law_1016 4 rfl
theorem dL_law_1023 : decode cL_law 1023 = .ok (.aload_n 2, 1) := dk_i kdL_law_1016 5 rfl
theorem dL_law_1024 : decode cL_law 1024 = .ok (.aload_n 0, 1) := dk_i kdL_law_1016 6 rfl
theorem dL_law_1025 : decode cL_law 1025 = .ok (.iload_n 3, 1) := dk_i kdL_law_1016 7 rfl
theorem dL_law_1026 : decode cL_law 1026 = .ok (.iconst 1, 1) := dk_i kdL_law_1016 8 rfl
theorem dL_law_1027 : decode cL_law 1027 = .ok (.iadd, 1) := dk_i kdL_law_1016 9 rfl
theorem dL_law_1028 : decode cL_law 1028 = .ok (.iaload, 1) := dk_i kdL_law_1016 10 rfl
theorem dL_law_1029 : decode cL_law 1029 = .ok (.invokevirtual 140, 3) := dk_i kdL_law_1016 11 rfl
theorem dL_law_1032 : decode cL_law 1032 = .ok (.pop, 1) := dk_i kdL_law_1016 12 rfl
theorem dL_law_1033 : decode cL_law 1033 = .ok (.goto 39, 3) := dk_i kdL_law_1016 13 rfl
theorem dL_law_1036 : decode cL_law 1036 = .ok (.aload_n 1, 1) := dk_i kdL_law_1016 14 rfl
theorem dL_law_1037 : decode cL_law 1037 = .ok (.invokevirtual 141, 3) := dk_i kdL_law_1016 15 rfl
def ldL_law_1040 : List (Nat × ClassFile.Instr × Nat) := [(1040, .aload_n 2, 1), (1041, .invokevirtual 144, 3), (1044, .if_icmp .eq 28, 3), (1047, .iconst 0, 1), (1048, .ireturn, 1), (1049, .aload_n 1, 1), (1050, .aload_n 0, 1), (1051, .iload_n 3, 1), (1052, .iconst 1, 1), (1053, .iadd, 1), (1054, .iaload, 1), (1055, .invokevirtual 145, 3), (1058, .pop, 1), (1059, .aload_n 2, 1), (1060, .aload_n 0, 1), (1061, .iload_n 3, 1)]
theorem kdL_law_1040 : dkO cL_law 1040 ldL_law_1040 = true := by decide +kernel
theorem dL_law_1040 : decode cL_law 1040 = .ok (.aload_n 2, 1) := dk_i kdL_law_1040 0 rfl
theorem dL_law_1041 : decode cL_law 1041 = .ok (.invokevirtual 144, 3) := dk_i kdL_law_1040 1 rfl
theorem dL_law_1044 : decode cL_law 1044 = .ok (.if_icmp .eq 28, 3) := dk_i kdL_law_1040 2 rfl
theorem dL_law_1047 : decode cL_law 1047 = .ok (.iconst 0, 1) := dk_i kdL_law_1040 3 rfl
theorem dL_law_1048 : decode cL_law 1048 = .ok (.ireturn, 1) := dk_i kdL_law_1040 4 rfl
theorem dL_law_1049 : decode cL_law 1049 = .ok (.aload_n 1, 1) := dk_i kdL_law_1040 5 rfl
theorem dL_law_1050 : decode cL_law 1050 = .ok (.aload_n 0, 1) := dk_i kdL_law_1040 6 rfl
theorem dL_law_1051 : decode cL_law 1051 = .ok (.iload_n 3, 1) := dk_i kdL_law_1040 7 rfl
theorem dL_law_1052 : decode cL_law 1052 = .ok (.iconst 1, 1) := dk_i kdL_law_1040 8 rfl
theorem dL_law_1053 : decode cL_law 1053 = .ok (.iadd, 1) := dk_i kdL_law_1040 9 rfl
theorem dL_law_1054 : decode cL_law 1054 = .ok (.iaload, 1) := dk_i kdL_law_1040 10 rfl
theorem dL_law_1055 : decode cL_law 1055 = .ok (.invokevirtual 145, 3) := dk_i kdL_law_1040 11 rfl
theorem dL_law_1058 : decode cL_law 1058 = .ok (.pop, 1) := dk_i kdL_law_1040 12 rfl
theorem dL_law_1059 : decode cL_law 1059 = .ok (.aload_n 2, 1) := dk_i kdL_law_1040 13 rfl
theorem dL_law_1060 : decode cL_law 1060 = .ok (.aload_n 0, 1) := dk_i kdL_law_1040 14 rfl
theorem dL_law_1061 : decode cL_law 1061 = .ok (.iload_n 3, 1) := dk_i kdL_law_1040 15 rfl
def ldL_law_1062 : List (Nat × ClassFile.Instr × Nat) := [(1062, .iconst 1, 1), (1063, .iadd, 1), (1064, .iaload, 1), (1065, .invokevirtual 148, 3), (1068, .pop, 1), (1069, .goto 3, 3), (1072, .iinc 3 6, 3), (1075, .goto (-1057), 3), (1078, .iconst 1, 1), (1079, .ireturn, 1)]
theorem kdL_law_1062 : dkO cL_law 1062 ldL_law_1062 = true := by decide +kernel
theorem dL_law_1062 : decode cL_law 1062 = .ok (.iconst 1, 1) := dk_i kdL_law_1062 0 rfl
theorem dL_law_1063 : decode cL_law 1063 = .ok (.iadd, 1) := dk_i kdL_law_1062 1 rfl
theorem dL_law_1064 : decode cL_law 1064 = .ok (.iaload, 1) := dk_i kdL_law_1062 2 rfl
theorem dL_law_1065 : decode cL_law 1065 = .ok (.invokevirtual 148, 3) := dk_i kdL_law_1062 3 rfl
theorem dL_law_1068 : decode cL_law 1068 = .ok (.pop, 1) := dk_i kdL_law_1062 4 rfl
theorem dL_law_1069 : decode cL_law 1069 = .ok (.goto 3, 3) := dk_i kdL_law_1062 5 rfl
theorem dL_law_1072 : decode cL_law 1072 = .ok (.iinc 3 6, 3) := dk_i kdL_law_1062 6 rfl
theorem dL_law_1075 : decode cL_law 1075 = .ok (.goto (-1057), 3) := dk_i kdL_law_1062 7 rfl
theorem dL_law_1078 : decode cL_law 1078 = .ok (.iconst 1, 1) := dk_i kdL_law_1062 8 rfl
theorem dL_law_1079 : decode cL_law 1079 = .ok (.ireturn, 1) := dk_i kdL_law_1062 9 rfl
end
section
def ldX0_init_0 : List (Nat × ClassFile.Instr × Nat) := [(0, .aload_n 0, 1), (1, .invokespecial 3, 3), (4, .aload_n 0, 1), (5, .sipush 1600, 3), (8, .newarray .int, 2), (10, .putfield 9, 3), (13, .aload_n 0, 1), (14, .iconst 0, 1), (15, .putfield 15, 3), (18, .return_, 1)]
theorem kdX0_init_0 : dkO cX0_init 0 ldX0_init_0 = true := by decide +kernel
theorem dX0_init_0 : decode cX0_init 0 = .ok (.aload_n 0, 1) := dk_i kdX0_init_0 0 rfl
theorem dX0_init_1 : decode cX0_init 1 = .ok (.invokespecial 3, 3) := dk_i kdX0_init_0 1 rfl
theorem dX0_init_4 : decode cX0_init 4 = .ok (.aload_n 0, 1) := dk_i kdX0_init_0 2 rfl
theorem dX0_init_5 : decode cX0_init 5 = .ok (.sipush 1600, 3) := dk_i kdX0_init_0 3 rfl
theorem dX0_init_8 : decode cX0_init 8 = .ok (.newarray .int, 2) := dk_i kdX0_init_0 4 rfl
theorem dX0_init_10 : decode cX0_init 10 = .ok (.putfield 9, 3) := dk_i kdX0_init_0 5 rfl
theorem dX0_init_13 : decode cX0_init 13 = .ok (.aload_n 0, 1) := dk_i kdX0_init_0 6 rfl
theorem dX0_init_14 : decode cX0_init 14 = .ok (.iconst 0, 1) := dk_i kdX0_init_0 7 rfl
theorem dX0_init_15 : decode cX0_init 15 = .ok (.putfield 15, 3) := dk_i kdX0_init_0 8 rfl
theorem dX0_init_18 : decode cX0_init 18 = .ok (.return_, 1) := dk_i kdX0_init_0 9 rfl
def ldX0_isTold_0 : List (Nat × ClassFile.Instr × Nat) := [(0, .aload_n 0, 1), (1, .getfield 15, 3), (4, .ifCond .le 7, 3), (7, .iconst 1, 1), (8, .goto 4, 3), (11, .iconst 0, 1), (12, .ireturn, 1)]
theorem kdX0_isTold_0 : dkO cX0_isTold 0 ldX0_isTold_0 = true := by decide +kernel
theorem dX0_isTold_0 : decode cX0_isTold 0 = .ok (.aload_n 0, 1) := dk_i kdX0_isTold_0 0 rfl
theorem dX0_isTold_1 : decode cX0_isTold 1 = .ok (.getfield 15, 3) := dk_i kdX0_isTold_0 1 rfl
theorem dX0_isTold_4 : decode cX0_isTold 4 = .ok (.ifCond .le 7, 3) := dk_i kdX0_isTold_0 2 rfl
theorem dX0_isTold_7 : decode cX0_isTold 7 = .ok (.iconst 1, 1) := dk_i kdX0_isTold_0 3 rfl
theorem dX0_isTold_8 : decode cX0_isTold 8 = .ok (.goto 4, 3) := dk_i kdX0_isTold_0 4 rfl
theorem dX0_isTold_11 : decode cX0_isTold 11 = .ok (.iconst 0, 1) := dk_i kdX0_isTold_0 5 rfl
theorem dX0_isTold_12 : decode cX0_isTold 12 = .ok (.ireturn, 1) := dk_i kdX0_isTold_0 6 rfl
def ldX0_add_0 : List (Nat × ClassFile.Instr × Nat) := [(0, .aload_n 0, 1), (1, .getfield 15, 3), (4, .sipush 1600, 3), (7, .if_icmp .ge 23, 3), (10, .aload_n 0, 1), (11, .getfield 9, 3), (14, .aload_n 0, 1), (15, .getfield 15, 3), (18, .iload_n 1, 1), (19, .iastore, 1), (20, .aload_n 0, 1), (21, .dup, 1), (22, .getfield 15, 3), (25, .iconst 1, 1), (26, .iadd, 1), (27, .putfield 15, 3)]
theorem kdX0_add_0 : dkO cX0_add 0 ldX0_add_0 = true := by decide +kernel
theorem dX0_add_0 : decode cX0_add 0 = .ok (.aload_n 0, 1) := dk_i kdX0_add_0 0 rfl
theorem dX0_add_1 : decode cX0_add 1 = .ok (.getfield 15, 3) := dk_i kdX0_add_0 1 rfl
theorem dX0_add_4 : decode cX0_add 4 = .ok (.sipush 1600, 3) := dk_i kdX0_add_0 2 rfl
theorem dX0_add_7 : decode cX0_add 7 = .ok (.if_icmp .ge 23, 3) := dk_i kdX0_add_0 3 rfl
theorem dX0_add_10 : decode cX0_add 10 = .ok (.aload_n 0, 1) := dk_i kdX0_add_0 4 rfl
theorem dX0_add_11 : decode cX0_add 11 = .ok (.getfield 9, 3) := dk_i kdX0_add_0 5 rfl
theorem dX0_add_14 : decode cX0_add 14 = .ok (.aload_n 0, 1) := dk_i kdX0_add_0 6 rfl
theorem dX0_add_15 : decode cX0_add 15 = .ok (.getfield 15, 3) := dk_i kdX0_add_0 7 rfl
theorem dX0_add_18 : decode cX0_add 18 = .ok (.iload_n 1, 1) := dk_i kdX0_add_0 8 rfl
theorem dX0_add_19 : decode cX0_add 19 = .ok (.iastore, 1) := dk_i kdX0_add_0 9 rfl
theorem dX0_add_20 : decode cX0_add 20 = .ok (.aload_n 0, 1) := dk_i kdX0_add_0 10 rfl
theorem dX0_add_21 : decode cX0_add 21 = .ok (.dup, 1) := dk_i kdX0_add_0 11 rfl
theorem dX0_add_22 : decode cX0_add 22 = .ok (.getfield 15, 3) := dk_i kdX0_add_0 12 rfl
theorem dX0_add_25 : decode cX0_add 25 = .ok (.iconst 1, 1) := dk_i kdX0_add_0 13 rfl
theorem dX0_add_26 : decode cX0_add 26 = .ok (.iadd, 1) := dk_i kdX0_add_0 14 rfl
theorem dX0_add_27 : decode cX0_add 27 = .ok (.putfield 15, 3) := dk_i kdX0_add_0 15 rfl
def ldX0_add_30 : List (Nat × ClassFile.Instr × Nat) := [(30, .return_, 1)]
theorem kdX0_add_30 : dkO cX0_add 30 ldX0_add_30 = true := by decide +kernel
theorem dX0_add_30 : decode cX0_add 30 = .ok (.return_, 1) := dk_i kdX0_add_30 0 rfl
end
section
def ldX1_init_0 : List (Nat × ClassFile.Instr × Nat) := [(0, .aload_n 0, 1), (1, .invokespecial 3, 3), (4, .aload_n 0, 1), (5, .iconst 0, 1), (6, .putfield 9, 3), (9, .aload_n 0, 1), (10, .iconst (-1), 1), (11, .putfield 15, 3), (14, .aload_n 0, 1), (15, .iconst 0, 1), (16, .putfield 18, 3), (19, .aload_n 0, 1), (20, .iconst 0, 1), (21, .putfield 21, 3), (24, .aload_n 0, 1), (25, .bipush 6, 2)]
theorem kdX1_init_0 : dkO cX1_init 0 ldX1_init_0 = true := by decide +kernel
theorem dX1_init_0 : decode cX1_init 0 = .ok (.aload_n 0, 1) := dk_i kdX1_init_0 0 rfl
theorem dX1_init_1 : decode cX1_init 1 = .ok (.invokespecial 3, 3) := dk_i kdX1_init_0 1 rfl
theorem dX1_init_4 : decode cX1_init 4 = .ok (.aload_n 0, 1) := dk_i kdX1_init_0 2 rfl
theorem dX1_init_5 : decode cX1_init 5 = .ok (.iconst 0, 1) := dk_i kdX1_init_0 3 rfl
theorem dX1_init_6 : decode cX1_init 6 = .ok (.putfield 9, 3) := dk_i kdX1_init_0 4 rfl
theorem dX1_init_9 : decode cX1_init 9 = .ok (.aload_n 0, 1) := dk_i kdX1_init_0 5 rfl
theorem dX1_init_10 : decode cX1_init 10 = .ok (.iconst (-1), 1) := dk_i kdX1_init_0 6 rfl
theorem dX1_init_11 : decode cX1_init 11 = .ok (.putfield 15, 3) := dk_i kdX1_init_0 7 rfl
theorem dX1_init_14 : decode cX1_init 14 = .ok (.aload_n 0, 1) := dk_i kdX1_init_0 8 rfl
theorem dX1_init_15 : decode cX1_init 15 = .ok (.iconst 0, 1) := dk_i kdX1_init_0 9 rfl
theorem dX1_init_16 : decode cX1_init 16 = .ok (.putfield 18, 3) := dk_i kdX1_init_0 10 rfl
theorem dX1_init_19 : decode cX1_init 19 = .ok (.aload_n 0, 1) := dk_i kdX1_init_0 11 rfl
theorem dX1_init_20 : decode cX1_init 20 = .ok (.iconst 0, 1) := dk_i kdX1_init_0 12 rfl
theorem dX1_init_21 : decode cX1_init 21 = .ok (.putfield 21, 3) := dk_i kdX1_init_0 13 rfl
theorem dX1_init_24 : decode cX1_init 24 = .ok (.aload_n 0, 1) := dk_i kdX1_init_0 14 rfl
theorem dX1_init_25 : decode cX1_init 25 = .ok (.bipush 6, 2) := dk_i kdX1_init_0 15 rfl
def ldX1_init_27 : List (Nat × ClassFile.Instr × Nat) := [(27, .newarray .int, 2), (29, .putfield 24, 3), (32, .aload_n 0, 1), (33, .bipush 64, 2), (35, .newarray .int, 2), (37, .putfield 28, 3), (40, .aload_n 0, 1), (41, .iconst 0, 1), (42, .putfield 31, 3), (45, .aload_n 0, 1), (46, .aload_n 1, 1), (47, .putfield 34, 3), (50, .return_, 1)]
theorem kdX1_init_27 : dkO cX1_init 27 ldX1_init_27 = true := by decide +kernel
theorem dX1_init_27 : decode cX1_init 27 = .ok (.newarray .int, 2) := dk_i kdX1_init_27 0 rfl
theorem dX1_init_29 : decode cX1_init 29 = .ok (.putfield 24, 3) := dk_i kdX1_init_27 1 rfl
theorem dX1_init_32 : decode cX1_init 32 = .ok (.aload_n 0, 1) := dk_i kdX1_init_27 2 rfl
theorem dX1_init_33 : decode cX1_init 33 = .ok (.bipush 64, 2) := dk_i kdX1_init_27 3 rfl
theorem dX1_init_35 : decode cX1_init 35 = .ok (.newarray .int, 2) := dk_i kdX1_init_27 4 rfl
theorem dX1_init_37 : decode cX1_init 37 = .ok (.putfield 28, 3) := dk_i kdX1_init_27 5 rfl
theorem dX1_init_40 : decode cX1_init 40 = .ok (.aload_n 0, 1) := dk_i kdX1_init_27 6 rfl
theorem dX1_init_41 : decode cX1_init 41 = .ok (.iconst 0, 1) := dk_i kdX1_init_27 7 rfl
theorem dX1_init_42 : decode cX1_init 42 = .ok (.putfield 31, 3) := dk_i kdX1_init_27 8 rfl
theorem dX1_init_45 : decode cX1_init 45 = .ok (.aload_n 0, 1) := dk_i kdX1_init_27 9 rfl
theorem dX1_init_46 : decode cX1_init 46 = .ok (.aload_n 1, 1) := dk_i kdX1_init_27 10 rfl
theorem dX1_init_47 : decode cX1_init 47 = .ok (.putfield 34, 3) := dk_i kdX1_init_27 11 rfl
theorem dX1_init_50 : decode cX1_init 50 = .ok (.return_, 1) := dk_i kdX1_init_27 12 rfl
def ldX1_hold_0 : List (Nat × ClassFile.Instr × Nat) := [(0, .aload_n 0, 1), (1, .iload_n 1, 1), (2, .putfield 9, 3), (5, .aload_n 0, 1), (6, .iload_n 2, 1), (7, .putfield 15, 3), (10, .aload_n 0, 1), (11, .iload_n 3, 1), (12, .putfield 18, 3), (15, .aload_n 0, 1), (16, .iload 4, 2), (18, .putfield 21, 3), (21, .return_, 1)]
theorem kdX1_hold_0 : dkO cX1_hold 0 ldX1_hold_0 = true := by decide +kernel
theorem dX1_hold_0 : decode cX1_hold 0 = .ok (.aload_n 0, 1) := dk_i kdX1_hold_0 0 rfl
theorem dX1_hold_1 : decode cX1_hold 1 = .ok (.iload_n 1, 1) := dk_i kdX1_hold_0 1 rfl
theorem dX1_hold_2 : decode cX1_hold 2 = .ok (.putfield 9, 3) := dk_i kdX1_hold_0 2 rfl
theorem dX1_hold_5 : decode cX1_hold 5 = .ok (.aload_n 0, 1) := dk_i kdX1_hold_0 3 rfl
theorem dX1_hold_6 : decode cX1_hold 6 = .ok (.iload_n 2, 1) := dk_i kdX1_hold_0 4 rfl
theorem dX1_hold_7 : decode cX1_hold 7 = .ok (.putfield 15, 3) := dk_i kdX1_hold_0 5 rfl
theorem dX1_hold_10 : decode cX1_hold 10 = .ok (.aload_n 0, 1) := dk_i kdX1_hold_0 6 rfl
theorem dX1_hold_11 : decode cX1_hold 11 = .ok (.iload_n 3, 1) := dk_i kdX1_hold_0 7 rfl
theorem dX1_hold_12 : decode cX1_hold 12 = .ok (.putfield 18, 3) := dk_i kdX1_hold_0 8 rfl
theorem dX1_hold_15 : decode cX1_hold 15 = .ok (.aload_n 0, 1) := dk_i kdX1_hold_0 9 rfl
theorem dX1_hold_16 : decode cX1_hold 16 = .ok (.iload 4, 2) := dk_i kdX1_hold_0 10 rfl
theorem dX1_hold_18 : decode cX1_hold 18 = .ok (.putfield 21, 3) := dk_i kdX1_hold_0 11 rfl
theorem dX1_hold_21 : decode cX1_hold 21 = .ok (.return_, 1) := dk_i kdX1_hold_0 12 rfl
def ldX1_hourNow_0 : List (Nat × ClassFile.Instr × Nat) := [(0, .iconst 0, 1), (1, .istore_n 1, 1), (2, .aload_n 0, 1), (3, .getfield 34, 3), (6, .getfield 38, 3), (9, .invokevirtual 44, 3), (12, .ifCond .eq 18, 3), (15, .aload_n 0, 1), (16, .aload_n 0, 1), (17, .getfield 34, 3), (20, .getfield 38, 3), (23, .invokevirtual 50, 3), (26, .istore_n 1, 1), (27, .goto 30, 3), (30, .aload_n 0, 1), (31, .getfield 34, 3)]
theorem kdX1_hourNow_0 : dkO cX1_hourNow 0 ldX1_hourNow_0 = true := by decide +kernel
theorem dX1_hourNow_0 : decode cX1_hourNow 0 = .ok (.iconst 0, 1) := dk_i kdX1_hourNow_0 0 rfl
theorem dX1_hourNow_1 : decode cX1_hourNow 1 = .ok (.istore_n 1, 1) := dk_i kdX1_hourNow_0 1 rfl
theorem dX1_hourNow_2 : decode cX1_hourNow 2 = .ok (.aload_n 0, 1) := dk_i kdX1_hourNow_0 2 rfl
theorem dX1_hourNow_3 : decode cX1_hourNow 3 = .ok (.getfield 34, 3) := dk_i kdX1_hourNow_0 3 rfl
theorem dX1_hourNow_6 : decode cX1_hourNow 6 = .ok (.getfield 38, 3) := dk_i kdX1_hourNow_0 4 rfl
theorem dX1_hourNow_9 : decode cX1_hourNow 9 = .ok (.invokevirtual 44, 3) := dk_i kdX1_hourNow_0 5 rfl
theorem dX1_hourNow_12 : decode cX1_hourNow 12 = .ok (.ifCond .eq 18, 3) := dk_i kdX1_hourNow_0 6 rfl
theorem dX1_hourNow_15 : decode cX1_hourNow 15 = .ok (.aload_n 0, 1) := dk_i kdX1_hourNow_0 7 rfl
theorem dX1_hourNow_16 : decode cX1_hourNow 16 = .ok (.aload_n 0, 1) := dk_i kdX1_hourNow_0 8 rfl
theorem dX1_hourNow_17 : decode cX1_hourNow 17 = .ok (.getfield 34, 3) := dk_i kdX1_hourNow_0 9 rfl
theorem dX1_hourNow_20 : decode cX1_hourNow 20 = .ok (.getfield 38, 3) := dk_i kdX1_hourNow_0 10 rfl
theorem dX1_hourNow_23 : decode cX1_hourNow 23 = .ok (.invokevirtual 50, 3) := dk_i kdX1_hourNow_0 11 rfl
theorem dX1_hourNow_26 : decode cX1_hourNow 26 = .ok (.istore_n 1, 1) := dk_i kdX1_hourNow_0 12 rfl
theorem dX1_hourNow_27 : decode cX1_hourNow 27 = .ok (.goto 30, 3) := dk_i kdX1_hourNow_0 13 rfl
theorem dX1_hourNow_30 : decode cX1_hourNow 30 = .ok (.aload_n 0, 1) := dk_i kdX1_hourNow_0 14 rfl
theorem dX1_hourNow_31 : decode cX1_hourNow 31 = .ok (.getfield 34, 3) := dk_i kdX1_hourNow_0 15 rfl
def ldX1_hourNow_34 : List (Nat × ClassFile.Instr × Nat) := [(34, .aload_n 0, 1), (35, .getfield 15, 3), (38, .invokevirtual 54, 3), (41, .ifCond .eq 16, 3), (44, .aload_n 0, 1), (45, .getfield 34, 3), (48, .getfield 58, 3), (51, .aload_n 0, 1), (52, .getfield 15, 3), (55, .iaload, 1), (56, .istore_n 1, 1), (57, .iconst 0, 1), (58, .bipush 23, 2), (60, .iload_n 1, 1), (61, .invokestatic 61, 3), (64, .invokestatic 67, 3)]
theorem kdX1_hourNow_34 : dkO cX1_hourNow 34 ldX1_hourNow_34 = true := by decide +kernel
theorem dX1_hourNow_34 : decode cX1_hourNow 34 = .ok (.aload_n 0, 1) := dk_i kdX1_hourNow_34 0 rfl
theorem dX1_hourNow_35 : decode cX1_hourNow 35 = .ok (.getfield 15, 3) := dk_i kdX1_hourNow_34 1 rfl
theorem dX1_hourNow_38 : decode cX1_hourNow 38 = .ok (.invokevirtual 54, 3) := dk_i kdX1_hourNow_34 2 rfl
theorem dX1_hourNow_41 : decode cX1_hourNow 41 = .ok (.ifCond .eq 16, 3) := dk_i kdX1_hourNow_34 3 rfl
theorem dX1_hourNow_44 : decode cX1_hourNow 44 = .ok (.aload_n 0, 1) := dk_i kdX1_hourNow_34 4 rfl
theorem dX1_hourNow_45 : decode cX1_hourNow 45 = .ok (.getfield 34, 3) := dk_i kdX1_hourNow_34 5 rfl
theorem dX1_hourNow_48 : decode cX1_hourNow 48 = .ok (.getfield 58, 3) := dk_i kdX1_hourNow_34 6 rfl
theorem dX1_hourNow_51 : decode cX1_hourNow 51 = .ok (.aload_n 0, 1) := dk_i kdX1_hourNow_34 7 rfl
theorem dX1_hourNow_52 : decode cX1_hourNow 52 = .ok (.getfield 15, 3) := dk_i kdX1_hourNow_34 8 rfl
theorem dX1_hourNow_55 : decode cX1_hourNow 55 = .ok (.iaload, 1) := dk_i kdX1_hourNow_34 9 rfl
theorem dX1_hourNow_56 : decode cX1_hourNow 56 = .ok (.istore_n 1, 1) := dk_i kdX1_hourNow_34 10 rfl
theorem dX1_hourNow_57 : decode cX1_hourNow 57 = .ok (.iconst 0, 1) := dk_i kdX1_hourNow_34 11 rfl
theorem dX1_hourNow_58 : decode cX1_hourNow 58 = .ok (.bipush 23, 2) := dk_i kdX1_hourNow_34 12 rfl
theorem dX1_hourNow_60 : decode cX1_hourNow 60 = .ok (.iload_n 1, 1) := dk_i kdX1_hourNow_34 13 rfl
theorem dX1_hourNow_61 : decode cX1_hourNow 61 = .ok (.invokestatic 61, 3) := dk_i kdX1_hourNow_34 14 rfl
theorem dX1_hourNow_64 : decode cX1_hourNow 64 = .ok (.invokestatic 67, 3) := dk_i kdX1_hourNow_34 15 rfl
def ldX1_hourNow_67 : List (Nat × ClassFile.Instr × Nat) := [(67, .ireturn, 1)]
theorem kdX1_hourNow_67 : dkO cX1_hourNow 67 ldX1_hourNow_67 = true := by decide +kernel
theorem dX1_hourNow_67 : decode cX1_hourNow 67 = .ok (.ireturn, 1) := dk_i kdX1_hourNow_67 0 rfl
def ldX1_goOn_0 : List (Nat × ClassFile.Instr × Nat) := [(0, .aload_n 0, 1), (1, .sipush 9999, 3), (4, .aload_n 0, 1), (5, .getfield 21, 3), (8, .iconst 1, 1), (9, .iadd, 1), (10, .invokestatic 61, 3), (13, .putfield 21, 3), (16, .aload_n 0, 1), (17, .sipush 999, 3), (20, .aload_n 0, 1), (21, .getfield 18, 3), (24, .iconst 1, 1), (25, .iadd, 1), (26, .invokestatic 61, 3), (29, .putfield 18, 3)]
theorem kdX1_goOn_0 : dkO cX1_goOn 0 ldX1_goOn_0 = true := by decide +kernel
theorem dX1_goOn_0 : decode cX1_goOn 0 = .ok (.aload_n 0, 1) := dk_i kdX1_goOn_0 0 rfl
theorem dX1_goOn_1 : decode cX1_goOn 1 = .ok (.sipush 9999, 3) := dk_i kdX1_goOn_0 1 rfl
theorem dX1_goOn_4 : decode cX1_goOn 4 = .ok (.aload_n 0, 1) := dk_i kdX1_goOn_0 2 rfl
theorem dX1_goOn_5 : decode cX1_goOn 5 = .ok (.getfield 21, 3) := dk_i kdX1_goOn_0 3 rfl
theorem dX1_goOn_8 : decode cX1_goOn 8 = .ok (.iconst 1, 1) := dk_i kdX1_goOn_0 4 rfl
theorem dX1_goOn_9 : decode cX1_goOn 9 = .ok (.iadd, 1) := dk_i kdX1_goOn_0 5 rfl
theorem dX1_goOn_10 : decode cX1_goOn 10 = .ok (.invokestatic 61, 3) := dk_i kdX1_goOn_0 6 rfl
theorem dX1_goOn_13 : decode cX1_goOn 13 = .ok (.putfield 21, 3) := dk_i kdX1_goOn_0 7 rfl
theorem dX1_goOn_16 : decode cX1_goOn 16 = .ok (.aload_n 0, 1) := dk_i kdX1_goOn_0 8 rfl
theorem dX1_goOn_17 : decode cX1_goOn 17 = .ok (.sipush 999, 3) := dk_i kdX1_goOn_0 9 rfl
theorem dX1_goOn_20 : decode cX1_goOn 20 = .ok (.aload_n 0, 1) := dk_i kdX1_goOn_0 10 rfl
theorem dX1_goOn_21 : decode cX1_goOn 21 = .ok (.getfield 18, 3) := dk_i kdX1_goOn_0 11 rfl
theorem dX1_goOn_24 : decode cX1_goOn 24 = .ok (.iconst 1, 1) := dk_i kdX1_goOn_0 12 rfl
theorem dX1_goOn_25 : decode cX1_goOn 25 = .ok (.iadd, 1) := dk_i kdX1_goOn_0 13 rfl
theorem dX1_goOn_26 : decode cX1_goOn 26 = .ok (.invokestatic 61, 3) := dk_i kdX1_goOn_0 14 rfl
theorem dX1_goOn_29 : decode cX1_goOn 29 = .ok (.putfield 18, 3) := dk_i kdX1_goOn_0 15 rfl
def ldX1_goOn_32 : List (Nat × ClassFile.Instr × Nat) := [(32, .aload_n 0, 1), (33, .getfield 34, 3), (36, .aload_n 0, 1), (37, .getfield 15, 3), (40, .invokevirtual 54, 3), (43, .ifCond .ne 4, 3), (46, .return_, 1), (47, .aload_n 0, 1), (48, .getfield 34, 3), (51, .getfield 70, 3), (54, .invokevirtual 44, 3), (57, .ifCond .eq 25, 3), (60, .aload_n 0, 1), (61, .aload_n 0, 1), (62, .getfield 34, 3), (65, .getfield 70, 3)]
theorem kdX1_goOn_32 : dkO cX1_goOn 32 ldX1_goOn_32 = true := by decide +kernel
theorem dX1_goOn_32 : decode cX1_goOn 32 = .ok (.aload_n 0, 1) := dk_i kdX1_goOn_32 0 rfl
theorem dX1_goOn_33 : decode cX1_goOn 33 = .ok (.getfield 34, 3) := dk_i kdX1_goOn_32 1 rfl
theorem dX1_goOn_36 : decode cX1_goOn 36 = .ok (.aload_n 0, 1) := dk_i kdX1_goOn_32 2 rfl
theorem dX1_goOn_37 : decode cX1_goOn 37 = .ok (.getfield 15, 3) := dk_i kdX1_goOn_32 3 rfl
theorem dX1_goOn_40 : decode cX1_goOn 40 = .ok (.invokevirtual 54, 3) := dk_i kdX1_goOn_32 4 rfl
theorem dX1_goOn_43 : decode cX1_goOn 43 = .ok (.ifCond .ne 4, 3) := dk_i kdX1_goOn_32 5 rfl
theorem dX1_goOn_46 : decode cX1_goOn 46 = .ok (.return_, 1) := dk_i kdX1_goOn_32 6 rfl
theorem dX1_goOn_47 : decode cX1_goOn 47 = .ok (.aload_n 0, 1) := dk_i kdX1_goOn_32 7 rfl
theorem dX1_goOn_48 : decode cX1_goOn 48 = .ok (.getfield 34, 3) := dk_i kdX1_goOn_32 8 rfl
theorem dX1_goOn_51 : decode cX1_goOn 51 = .ok (.getfield 70, 3) := dk_i kdX1_goOn_32 9 rfl
theorem dX1_goOn_54 : decode cX1_goOn 54 = .ok (.invokevirtual 44, 3) := dk_i kdX1_goOn_32 10 rfl
theorem dX1_goOn_57 : decode cX1_goOn 57 = .ok (.ifCond .eq 25, 3) := dk_i kdX1_goOn_32 11 rfl
theorem dX1_goOn_60 : decode cX1_goOn 60 = .ok (.aload_n 0, 1) := dk_i kdX1_goOn_32 12 rfl
theorem dX1_goOn_61 : decode cX1_goOn 61 = .ok (.aload_n 0, 1) := dk_i kdX1_goOn_32 13 rfl
theorem dX1_goOn_62 : decode cX1_goOn 62 = .ok (.getfield 34, 3) := dk_i kdX1_goOn_32 14 rfl
theorem dX1_goOn_65 : decode cX1_goOn 65 = .ok (.getfield 70, 3) := dk_i kdX1_goOn_32 15 rfl
def ldX1_goOn_68 : List (Nat × ClassFile.Instr × Nat) := [(68, .invokevirtual 50, 3), (71, .ifCond .eq 7, 3), (74, .iconst 1, 1), (75, .goto 31, 3), (78, .iconst 0, 1), (79, .goto 27, 3), (82, .aload_n 0, 1), (83, .getfield 18, 3), (86, .aload_n 0, 1), (87, .getfield 34, 3), (90, .getfield 73, 3), (93, .aload_n 0, 1), (94, .getfield 15, 3), (97, .iaload, 1), (98, .if_icmp .lt 7, 3), (101, .iconst 1, 1)]
theorem kdX1_goOn_68 : dkO cX1_goOn 68 ldX1_goOn_68 = true := by decide +kernel
theorem dX1_goOn_68 : decode cX1_goOn 68 = .ok (.invokevirtual 50, 3) := dk_i kdX1_goOn_68 0 rfl
theorem dX1_goOn_71 : decode cX1_goOn 71 = .ok (.ifCond .eq 7, 3) := dk_i kdX1_goOn_68 1 rfl
theorem dX1_goOn_74 : decode cX1_goOn 74 = .ok (.iconst 1, 1) := dk_i kdX1_goOn_68 2 rfl
theorem dX1_goOn_75 : decode cX1_goOn 75 = .ok (.goto 31, 3) := dk_i kdX1_goOn_68 3 rfl
theorem dX1_goOn_78 : decode cX1_goOn 78 = .ok (.iconst 0, 1) := dk_i kdX1_goOn_68 4 rfl
theorem dX1_goOn_79 : decode cX1_goOn 79 = .ok (.goto 27, 3) := dk_i kdX1_goOn_68 5 rfl
theorem dX1_goOn_82 : decode cX1_goOn 82 = .ok (.aload_n 0, 1) := dk_i kdX1_goOn_68 6 rfl
theorem dX1_goOn_83 : decode cX1_goOn 83 = .ok (.getfield 18, 3) := dk_i kdX1_goOn_68 7 rfl
theorem dX1_goOn_86 : decode cX1_goOn 86 = .ok (.aload_n 0, 1) := dk_i kdX1_goOn_68 8 rfl
theorem dX1_goOn_87 : decode cX1_goOn 87 = .ok (.getfield 34, 3) := dk_i kdX1_goOn_68 9 rfl
theorem dX1_goOn_90 : decode cX1_goOn 90 = .ok (.getfield 73, 3) := dk_i kdX1_goOn_68 10 rfl
theorem dX1_goOn_93 : decode cX1_goOn 93 = .ok (.aload_n 0, 1) := dk_i kdX1_goOn_68 11 rfl
theorem dX1_goOn_94 : decode cX1_goOn 94 = .ok (.getfield 15, 3) := dk_i kdX1_goOn_68 12 rfl
theorem dX1_goOn_97 : decode cX1_goOn 97 = .ok (.iaload, 1) := dk_i kdX1_goOn_68 13 rfl
theorem dX1_goOn_98 : decode cX1_goOn 98 = .ok (.if_icmp .lt 7, 3) := dk_i kdX1_goOn_68 14 rfl
theorem dX1_goOn_101 : decode cX1_goOn 101 = .ok (.iconst 1, 1) := dk_i kdX1_goOn_68 15 rfl
def ldX1_goOn_102 : List (Nat × ClassFile.Instr × Nat) := [(102, .goto 4, 3), (105, .iconst 0, 1), (106, .istore_n 1, 1), (107, .iload_n 1, 1), (108, .ifCond .eq 13, 3), (111, .aload_n 0, 1), (112, .iconst (-1), 1), (113, .putfield 15, 3), (116, .aload_n 0, 1), (117, .iconst 0, 1), (118, .putfield 18, 3), (121, .return_, 1)]
theorem kdX1_goOn_102 : dkO cX1_goOn 102 ldX1_goOn_102 = true := by decide +kernel
theorem dX1_goOn_102 : decode cX1_goOn 102 = .ok (.goto 4, 3) := dk_i kdX1_goOn_102 0 rfl
theorem dX1_goOn_105 : decode cX1_goOn 105 = .ok (.iconst 0, 1) := dk_i kdX1_goOn_102 1 rfl
theorem dX1_goOn_106 : decode cX1_goOn 106 = .ok (.istore_n 1, 1) := dk_i kdX1_goOn_102 2 rfl
theorem dX1_goOn_107 : decode cX1_goOn 107 = .ok (.iload_n 1, 1) := dk_i kdX1_goOn_102 3 rfl
theorem dX1_goOn_108 : decode cX1_goOn 108 = .ok (.ifCond .eq 13, 3) := dk_i kdX1_goOn_102 4 rfl
theorem dX1_goOn_111 : decode cX1_goOn 111 = .ok (.aload_n 0, 1) := dk_i kdX1_goOn_102 5 rfl
theorem dX1_goOn_112 : decode cX1_goOn 112 = .ok (.iconst (-1), 1) := dk_i kdX1_goOn_102 6 rfl
theorem dX1_goOn_113 : decode cX1_goOn 113 = .ok (.putfield 15, 3) := dk_i kdX1_goOn_102 7 rfl
theorem dX1_goOn_116 : decode cX1_goOn 116 = .ok (.aload_n 0, 1) := dk_i kdX1_goOn_102 8 rfl
theorem dX1_goOn_117 : decode cX1_goOn 117 = .ok (.iconst 0, 1) := dk_i kdX1_goOn_102 9 rfl
theorem dX1_goOn_118 : decode cX1_goOn 118 = .ok (.putfield 18, 3) := dk_i kdX1_goOn_102 10 rfl
theorem dX1_goOn_121 : decode cX1_goOn 121 = .ok (.return_, 1) := dk_i kdX1_goOn_102 11 rfl
def ldX1_foresee_0 : List (Nat × ClassFile.Instr × Nat) := [(0, .iload_n 2, 1), (1, .aload_n 1, 1), (2, .arraylength, 1), (3, .iconst 1, 1), (4, .isub, 1), (5, .invokestatic 61, 3), (8, .sipush 9999, 3), (11, .aload_n 0, 1), (12, .getfield 21, 3), (15, .isub, 1), (16, .invokestatic 61, 3), (19, .istore_n 3, 1), (20, .iconst 0, 1), (21, .istore 4, 2), (23, .iload 4, 2), (25, .iload_n 3, 1)]
theorem kdX1_foresee_0 : dkO cX1_foresee 0 ldX1_foresee_0 = true := by decide +kernel
theorem dX1_foresee_0 : decode cX1_foresee 0 = .ok (.iload_n 2, 1) := dk_i kdX1_foresee_0 0 rfl
theorem dX1_foresee_1 : decode cX1_foresee 1 = .ok (.aload_n 1, 1) := dk_i kdX1_foresee_0 1 rfl
theorem dX1_foresee_2 : decode cX1_foresee 2 = .ok (.arraylength, 1) := dk_i kdX1_foresee_0 2 rfl
theorem dX1_foresee_3 : decode cX1_foresee 3 = .ok (.iconst 1, 1) := dk_i kdX1_foresee_0 3 rfl
theorem dX1_foresee_4 : decode cX1_foresee 4 = .ok (.isub, 1) := dk_i kdX1_foresee_0 4 rfl
theorem dX1_foresee_5 : decode cX1_foresee 5 = .ok (.invokestatic 61, 3) := dk_i kdX1_foresee_0 5 rfl
theorem dX1_foresee_8 : decode cX1_foresee 8 = .ok (.sipush 9999, 3) := dk_i kdX1_foresee_0 6 rfl
theorem dX1_foresee_11 : decode cX1_foresee 11 = .ok (.aload_n 0, 1) := dk_i kdX1_foresee_0 7 rfl
theorem dX1_foresee_12 : decode cX1_foresee 12 = .ok (.getfield 21, 3) := dk_i kdX1_foresee_0 8 rfl
theorem dX1_foresee_15 : decode cX1_foresee 15 = .ok (.isub, 1) := dk_i kdX1_foresee_0 9 rfl
theorem dX1_foresee_16 : decode cX1_foresee 16 = .ok (.invokestatic 61, 3) := dk_i kdX1_foresee_0 10 rfl
theorem dX1_foresee_19 : decode cX1_foresee 19 = .ok (.istore_n 3, 1) := dk_i kdX1_foresee_0 11 rfl
theorem dX1_foresee_20 : decode cX1_foresee 20 = .ok (.iconst 0, 1) := dk_i kdX1_foresee_0 12 rfl
theorem dX1_foresee_21 : decode cX1_foresee 21 = .ok (.istore 4, 2) := dk_i kdX1_foresee_0 13 rfl
theorem dX1_foresee_23 : decode cX1_foresee 23 = .ok (.iload 4, 2) := dk_i kdX1_foresee_0 14 rfl
theorem dX1_foresee_25 : decode cX1_foresee 25 = .ok (.iload_n 3, 1) := dk_i kdX1_foresee_0 15 rfl
def ldX1_foresee_26 : List (Nat × ClassFile.Instr × Nat) := [(26, .if_icmp .gt 26, 3), (29, .iload 4, 2), (31, .ifCond .le 7, 3), (34, .aload_n 0, 1), (35, .invokevirtual 76, 3), (38, .aload_n 1, 1), (39, .iload 4, 2), (41, .aload_n 0, 1), (42, .invokevirtual 79, 3), (45, .iastore, 1), (46, .iinc 4 1, 3), (49, .goto (-26), 3), (52, .iload_n 3, 1), (53, .ireturn, 1)]
theorem kdX1_foresee_26 : dkO cX1_foresee 26 ldX1_foresee_26 = true := by decide +kernel
theorem dX1_foresee_26 : decode cX1_foresee 26 = .ok (.if_icmp .gt 26, 3) := dk_i kdX1_foresee_26 0 rfl
theorem dX1_foresee_29 : decode cX1_foresee 29 = .ok (.iload 4, 2) := dk_i kdX1_foresee_26 1 rfl
theorem dX1_foresee_31 : decode cX1_foresee 31 = .ok (.ifCond .le 7, 3) := dk_i kdX1_foresee_26 2 rfl
theorem dX1_foresee_34 : decode cX1_foresee 34 = .ok (.aload_n 0, 1) := dk_i kdX1_foresee_26 3 rfl
theorem dX1_foresee_35 : decode cX1_foresee 35 = .ok (.invokevirtual 76, 3) := dk_i kdX1_foresee_26 4 rfl
theorem dX1_foresee_38 : decode cX1_foresee 38 = .ok (.aload_n 1, 1) := dk_i kdX1_foresee_26 5 rfl
theorem dX1_foresee_39 : decode cX1_foresee 39 = .ok (.iload 4, 2) := dk_i kdX1_foresee_26 6 rfl
theorem dX1_foresee_41 : decode cX1_foresee 41 = .ok (.aload_n 0, 1) := dk_i kdX1_foresee_26 7 rfl
theorem dX1_foresee_42 : decode cX1_foresee 42 = .ok (.invokevirtual 79, 3) := dk_i kdX1_foresee_26 8 rfl
theorem dX1_foresee_45 : decode cX1_foresee 45 = .ok (.iastore, 1) := dk_i kdX1_foresee_26 9 rfl
theorem dX1_foresee_46 : decode cX1_foresee 46 = .ok (.iinc 4 1, 3) := dk_i kdX1_foresee_26 10 rfl
theorem dX1_foresee_49 : decode cX1_foresee 49 = .ok (.goto (-26), 3) := dk_i kdX1_foresee_26 11 rfl
theorem dX1_foresee_52 : decode cX1_foresee 52 = .ok (.iload_n 3, 1) := dk_i kdX1_foresee_26 12 rfl
theorem dX1_foresee_53 : decode cX1_foresee 53 = .ok (.ireturn, 1) := dk_i kdX1_foresee_26 13 rfl
def ldX1_valueOf_0 : List (Nat × ClassFile.Instr × Nat) := [(0, .aload_n 0, 1), (1, .getfield 34, 3), (4, .aload_n 0, 1), (5, .getfield 15, 3), (8, .invokevirtual 54, 3), (11, .ifCond .ne 7, 3), (14, .iconst 1, 1), (15, .goto 4, 3), (18, .iconst 0, 1), (19, .istore_n 2, 1), (20, .aload_n 0, 1), (21, .getfield 24, 3), (24, .iconst 0, 1), (25, .iload_n 2, 1), (26, .ifCond .eq 7, 3), (29, .iconst 0, 1)]
theorem kdX1_valueOf_0 : dkO cX1_valueOf 0 ldX1_valueOf_0 = true := by decide +kernel
theorem dX1_valueOf_0 : decode cX1_valueOf 0 = .ok (.aload_n 0, 1) := dk_i kdX1_valueOf_0 0 rfl
theorem dX1_valueOf_1 : decode cX1_valueOf 1 = .ok (.getfield 34, 3) := dk_i kdX1_valueOf_0 1 rfl
theorem dX1_valueOf_4 : decode cX1_valueOf 4 = .ok (.aload_n 0, 1) := dk_i kdX1_valueOf_0 2 rfl
theorem dX1_valueOf_5 : decode cX1_valueOf 5 = .ok (.getfield 15, 3) := dk_i kdX1_valueOf_0 3 rfl
theorem dX1_valueOf_8 : decode cX1_valueOf 8 = .ok (.invokevirtual 54, 3) := dk_i kdX1_valueOf_0 4 rfl
theorem dX1_valueOf_11 : decode cX1_valueOf 11 = .ok (.ifCond .ne 7, 3) := dk_i kdX1_valueOf_0 5 rfl
theorem dX1_valueOf_14 : decode cX1_valueOf 14 = .ok (.iconst 1, 1) := dk_i kdX1_valueOf_0 6 rfl
theorem dX1_valueOf_15 : decode cX1_valueOf 15 = .ok (.goto 4, 3) := dk_i kdX1_valueOf_0 7 rfl
theorem dX1_valueOf_18 : decode cX1_valueOf 18 = .ok (.iconst 0, 1) := dk_i kdX1_valueOf_0 8 rfl
theorem dX1_valueOf_19 : decode cX1_valueOf 19 = .ok (.istore_n 2, 1) := dk_i kdX1_valueOf_0 9 rfl
theorem dX1_valueOf_20 : decode cX1_valueOf 20 = .ok (.aload_n 0, 1) := dk_i kdX1_valueOf_0 10 rfl
theorem dX1_valueOf_21 : decode cX1_valueOf 21 = .ok (.getfield 24, 3) := dk_i kdX1_valueOf_0 11 rfl
theorem dX1_valueOf_24 : decode cX1_valueOf 24 = .ok (.iconst 0, 1) := dk_i kdX1_valueOf_0 12 rfl
theorem dX1_valueOf_25 : decode cX1_valueOf 25 = .ok (.iload_n 2, 1) := dk_i kdX1_valueOf_0 13 rfl
theorem dX1_valueOf_26 : decode cX1_valueOf 26 = .ok (.ifCond .eq 7, 3) := dk_i kdX1_valueOf_0 14 rfl
theorem dX1_valueOf_29 : decode cX1_valueOf 29 = .ok (.iconst 0, 1) := dk_i kdX1_valueOf_0 15 rfl
def ldX1_valueOf_30 : List (Nat × ClassFile.Instr × Nat) := [(30, .goto 15, 3), (33, .aload_n 0, 1), (34, .getfield 34, 3), (37, .getfield 58, 3), (40, .aload_n 0, 1), (41, .getfield 15, 3), (44, .iaload, 1), (45, .iastore, 1), (46, .aload_n 0, 1), (47, .getfield 24, 3), (50, .iconst 1, 1), (51, .aload_n 0, 1), (52, .getfield 18, 3), (55, .iastore, 1), (56, .aload_n 0, 1), (57, .getfield 24, 3)]
theorem kdX1_valueOf_30 : dkO cX1_valueOf 30 ldX1_valueOf_30 = true := by decide +kernel
theorem dX1_valueOf_30 : decode cX1_valueOf 30 = .ok (.goto 15, 3) := dk_i kdX1_valueOf_30 0 rfl
theorem dX1_valueOf_33 : decode cX1_valueOf 33 = .ok (.aload_n 0, 1) := dk_i kdX1_valueOf_30 1 rfl
theorem dX1_valueOf_34 : decode cX1_valueOf 34 = .ok (.getfield 34, 3) := dk_i kdX1_valueOf_30 2 rfl
theorem dX1_valueOf_37 : decode cX1_valueOf 37 = .ok (.getfield 58, 3) := dk_i kdX1_valueOf_30 3 rfl
theorem dX1_valueOf_40 : decode cX1_valueOf 40 = .ok (.aload_n 0, 1) := dk_i kdX1_valueOf_30 4 rfl
theorem dX1_valueOf_41 : decode cX1_valueOf 41 = .ok (.getfield 15, 3) := dk_i kdX1_valueOf_30 5 rfl
theorem dX1_valueOf_44 : decode cX1_valueOf 44 = .ok (.iaload, 1) := dk_i kdX1_valueOf_30 6 rfl
theorem dX1_valueOf_45 : decode cX1_valueOf 45 = .ok (.iastore, 1) := dk_i kdX1_valueOf_30 7 rfl
theorem dX1_valueOf_46 : decode cX1_valueOf 46 = .ok (.aload_n 0, 1) := dk_i kdX1_valueOf_30 8 rfl
theorem dX1_valueOf_47 : decode cX1_valueOf 47 = .ok (.getfield 24, 3) := dk_i kdX1_valueOf_30 9 rfl
theorem dX1_valueOf_50 : decode cX1_valueOf 50 = .ok (.iconst 1, 1) := dk_i kdX1_valueOf_30 10 rfl
theorem dX1_valueOf_51 : decode cX1_valueOf 51 = .ok (.aload_n 0, 1) := dk_i kdX1_valueOf_30 11 rfl
theorem dX1_valueOf_52 : decode cX1_valueOf 52 = .ok (.getfield 18, 3) := dk_i kdX1_valueOf_30 12 rfl
theorem dX1_valueOf_55 : decode cX1_valueOf 55 = .ok (.iastore, 1) := dk_i kdX1_valueOf_30 13 rfl
theorem dX1_valueOf_56 : decode cX1_valueOf 56 = .ok (.aload_n 0, 1) := dk_i kdX1_valueOf_30 14 rfl
theorem dX1_valueOf_57 : decode cX1_valueOf 57 = .ok (.getfield 24, 3) := dk_i kdX1_valueOf_30 15 rfl
def ldX1_valueOf_60 : List (Nat × ClassFile.Instr × Nat) := [(60, .iconst 2, 1), (61, .aload_n 0, 1), (62, .getfield 9, 3), (65, .iastore, 1), (66, .aload_n 0, 1), (67, .getfield 24, 3), (70, .iconst 3, 1), (71, .aload_n 0, 1), (72, .getfield 21, 3), (75, .iastore, 1), (76, .aload_n 0, 1), (77, .getfield 24, 3), (80, .iconst 4, 1), (81, .iload_n 2, 1), (82, .ifCond .eq 7, 3), (85, .iconst 1, 1)]
theorem kdX1_valueOf_60 : dkO cX1_valueOf 60 ldX1_valueOf_60 = true := by decide +kernel
theorem dX1_valueOf_60 : decode cX1_valueOf 60 = .ok (.iconst 2, 1) := dk_i kdX1_valueOf_60 0 rfl
theorem dX1_valueOf_61 : decode cX1_valueOf 61 = .ok (.aload_n 0, 1) := dk_i kdX1_valueOf_60 1 rfl
theorem dX1_valueOf_62 : decode cX1_valueOf 62 = .ok (.getfield 9, 3) := dk_i kdX1_valueOf_60 2 rfl
theorem dX1_valueOf_65 : decode cX1_valueOf 65 = .ok (.iastore, 1) := dk_i kdX1_valueOf_60 3 rfl
theorem dX1_valueOf_66 : decode cX1_valueOf 66 = .ok (.aload_n 0, 1) := dk_i kdX1_valueOf_60 4 rfl
theorem dX1_valueOf_67 : decode cX1_valueOf 67 = .ok (.getfield 24, 3) := dk_i kdX1_valueOf_60 5 rfl
theorem dX1_valueOf_70 : decode cX1_valueOf 70 = .ok (.iconst 3, 1) := dk_i kdX1_valueOf_60 6 rfl
theorem dX1_valueOf_71 : decode cX1_valueOf 71 = .ok (.aload_n 0, 1) := dk_i kdX1_valueOf_60 7 rfl
theorem dX1_valueOf_72 : decode cX1_valueOf 72 = .ok (.getfield 21, 3) := dk_i kdX1_valueOf_60 8 rfl
theorem dX1_valueOf_75 : decode cX1_valueOf 75 = .ok (.iastore, 1) := dk_i kdX1_valueOf_60 9 rfl
theorem dX1_valueOf_76 : decode cX1_valueOf 76 = .ok (.aload_n 0, 1) := dk_i kdX1_valueOf_60 10 rfl
theorem dX1_valueOf_77 : decode cX1_valueOf 77 = .ok (.getfield 24, 3) := dk_i kdX1_valueOf_60 11 rfl
theorem dX1_valueOf_80 : decode cX1_valueOf 80 = .ok (.iconst 4, 1) := dk_i kdX1_valueOf_60 12 rfl
theorem dX1_valueOf_81 : decode cX1_valueOf 81 = .ok (.iload_n 2, 1) := dk_i kdX1_valueOf_60 13 rfl
theorem dX1_valueOf_82 : decode cX1_valueOf 82 = .ok (.ifCond .eq 7, 3) := dk_i kdX1_valueOf_60 14 rfl
theorem dX1_valueOf_85 : decode cX1_valueOf 85 = .ok (.iconst 1, 1) := dk_i kdX1_valueOf_60 15 rfl
def ldX1_valueOf_86 : List (Nat × ClassFile.Instr × Nat) := [(86, .goto 4, 3), (89, .iconst 0, 1), (90, .iastore, 1), (91, .aload_n 0, 1), (92, .getfield 24, 3), (95, .iconst 5, 1), (96, .iload_n 2, 1), (97, .ifCond .eq 7, 3), (100, .iconst 0, 1), (101, .goto 15, 3), (104, .aload_n 0, 1), (105, .getfield 34, 3), (108, .getfield 73, 3), (111, .aload_n 0, 1), (112, .getfield 15, 3), (115, .iaload, 1)]
theorem kdX1_valueOf_86 : dkO cX1_valueOf 86 ldX1_valueOf_86 = true := by decide +kernel
theorem dX1_valueOf_86 : decode cX1_valueOf 86 = .ok (.goto 4, 3) := dk_i kdX1_valueOf_86 0 rfl
theorem dX1_valueOf_89 : decode cX1_valueOf 89 = .ok (.iconst 0, 1) := dk_i kdX1_valueOf_86 1 rfl
theorem dX1_valueOf_90 : decode cX1_valueOf 90 = .ok (.iastore, 1) := dk_i kdX1_valueOf_86 2 rfl
theorem dX1_valueOf_91 : decode cX1_valueOf 91 = .ok (.aload_n 0, 1) := dk_i kdX1_valueOf_86 3 rfl
theorem dX1_valueOf_92 : decode cX1_valueOf 92 = .ok (.getfield 24, 3) := dk_i kdX1_valueOf_86 4 rfl
theorem dX1_valueOf_95 : decode cX1_valueOf 95 = .ok (.iconst 5, 1) := dk_i kdX1_valueOf_86 5 rfl
theorem dX1_valueOf_96 : decode cX1_valueOf 96 = .ok (.iload_n 2, 1) := dk_i kdX1_valueOf_86 6 rfl
theorem dX1_valueOf_97 : decode cX1_valueOf 97 = .ok (.ifCond .eq 7, 3) := dk_i kdX1_valueOf_86 7 rfl
theorem dX1_valueOf_100 : decode cX1_valueOf 100 = .ok (.iconst 0, 1) := dk_i kdX1_valueOf_86 8 rfl
theorem dX1_valueOf_101 : decode cX1_valueOf 101 = .ok (.goto 15, 3) := dk_i kdX1_valueOf_86 9 rfl
theorem dX1_valueOf_104 : decode cX1_valueOf 104 = .ok (.aload_n 0, 1) := dk_i kdX1_valueOf_86 10 rfl
theorem dX1_valueOf_105 : decode cX1_valueOf 105 = .ok (.getfield 34, 3) := dk_i kdX1_valueOf_86 11 rfl
theorem dX1_valueOf_108 : decode cX1_valueOf 108 = .ok (.getfield 73, 3) := dk_i kdX1_valueOf_86 12 rfl
theorem dX1_valueOf_111 : decode cX1_valueOf 111 = .ok (.aload_n 0, 1) := dk_i kdX1_valueOf_86 13 rfl
theorem dX1_valueOf_112 : decode cX1_valueOf 112 = .ok (.getfield 15, 3) := dk_i kdX1_valueOf_86 14 rfl
theorem dX1_valueOf_115 : decode cX1_valueOf 115 = .ok (.iaload, 1) := dk_i kdX1_valueOf_86 15 rfl
def ldX1_valueOf_116 : List (Nat × ClassFile.Instr × Nat) := [(116, .iastore, 1), (117, .aload_n 0, 1), (118, .iconst 0, 1), (119, .putfield 31, 3), (122, .iconst 0, 1), (123, .istore_n 3, 1), (124, .iload_n 3, 1), (125, .aload_n 1, 1), (126, .getfield 83, 3), (129, .if_icmp .ge 80, 3), (132, .aload_n 1, 1), (133, .getfield 86, 3), (136, .iload_n 3, 1), (137, .iaload, 1), (138, .istore 4, 2), (140, .iload 4, 2)]
theorem kdX1_valueOf_116 : dkO cX1_valueOf 116 ldX1_valueOf_116 = true := by decide +kernel
theorem dX1_valueOf_116 : decode cX1_valueOf 116 = .ok (.iastore, 1) := dk_i kdX1_valueOf_116 0 rfl
theorem dX1_valueOf_117 : decode cX1_valueOf 117 = .ok (.aload_n 0, 1) := dk_i kdX1_valueOf_116 1 rfl
theorem dX1_valueOf_118 : decode cX1_valueOf 118 = .ok (.iconst 0, 1) := dk_i kdX1_valueOf_116 2 rfl
theorem dX1_valueOf_119 : decode cX1_valueOf 119 = .ok (.putfield 31, 3) := dk_i kdX1_valueOf_116 3 rfl
theorem dX1_valueOf_122 : decode cX1_valueOf 122 = .ok (.iconst 0, 1) := dk_i kdX1_valueOf_116 4 rfl
theorem dX1_valueOf_123 : decode cX1_valueOf 123 = .ok (.istore_n 3, 1) := dk_i kdX1_valueOf_116 5 rfl
theorem dX1_valueOf_124 : decode cX1_valueOf 124 = .ok (.iload_n 3, 1) := dk_i kdX1_valueOf_116 6 rfl
theorem dX1_valueOf_125 : decode cX1_valueOf 125 = .ok (.aload_n 1, 1) := dk_i kdX1_valueOf_116 7 rfl
theorem dX1_valueOf_126 : decode cX1_valueOf 126 = .ok (.getfield 83, 3) := dk_i kdX1_valueOf_116 8 rfl
theorem dX1_valueOf_129 : decode cX1_valueOf 129 = .ok (.if_icmp .ge 80, 3) := dk_i kdX1_valueOf_116 9 rfl
theorem dX1_valueOf_132 : decode cX1_valueOf 132 = .ok (.aload_n 1, 1) := dk_i kdX1_valueOf_116 10 rfl
theorem dX1_valueOf_133 : decode cX1_valueOf 133 = .ok (.getfield 86, 3) := dk_i kdX1_valueOf_116 11 rfl
theorem dX1_valueOf_136 : decode cX1_valueOf 136 = .ok (.iload_n 3, 1) := dk_i kdX1_valueOf_116 12 rfl
theorem dX1_valueOf_137 : decode cX1_valueOf 137 = .ok (.iaload, 1) := dk_i kdX1_valueOf_116 13 rfl
theorem dX1_valueOf_138 : decode cX1_valueOf 138 = .ok (.istore 4, 2) := dk_i kdX1_valueOf_116 14 rfl
theorem dX1_valueOf_140 : decode cX1_valueOf 140 = .ok (.iload 4, 2) := dk_i kdX1_valueOf_116 15 rfl
def ldX1_valueOf_142 : List (Nat × ClassFile.Instr × Nat) := [(142, .bipush (-6), 2), (144, .if_icmp .ge 12, 3), (147, .aload_n 0, 1), (148, .iload 4, 2), (150, .invokevirtual 89, 3), (153, .goto 50, 3), (156, .aload_n 0, 1), (157, .getfield 31, 3), (160, .bipush 64, 2), (162, .if_icmp .ge 41, 3), (165, .aload_n 0, 1), (166, .getfield 28, 3), (169, .aload_n 0, 1), (170, .getfield 31, 3), (173, .iload 4, 2), (175, .ifCond .lt 8, 3)]
theorem kdX1_valueOf_142 : dkO cX1_valueOf 142 ldX1_valueOf_142 = true := by decide +kernel
theorem dX1_valueOf_142 : decode cX1_valueOf 142 = .ok (.bipush (-6), 2) := dk_i kdX1_valueOf_142 0 rfl
theorem dX1_valueOf_144 : decode cX1_valueOf 144 = .ok (.if_icmp .ge 12, 3) := dk_i kdX1_valueOf_142 1 rfl
theorem dX1_valueOf_147 : decode cX1_valueOf 147 = .ok (.aload_n 0, 1) := dk_i kdX1_valueOf_142 2 rfl
theorem dX1_valueOf_148 : decode cX1_valueOf 148 = .ok (.iload 4, 2) := dk_i kdX1_valueOf_142 3 rfl
theorem dX1_valueOf_150 : decode cX1_valueOf 150 = .ok (.invokevirtual 89, 3) := dk_i kdX1_valueOf_142 4 rfl
theorem dX1_valueOf_153 : decode cX1_valueOf 153 = .ok (.goto 50, 3) := dk_i kdX1_valueOf_142 5 rfl
theorem dX1_valueOf_156 : decode cX1_valueOf 156 = .ok (.aload_n 0, 1) := dk_i kdX1_valueOf_142 6 rfl
theorem dX1_valueOf_157 : decode cX1_valueOf 157 = .ok (.getfield 31, 3) := dk_i kdX1_valueOf_142 7 rfl
theorem dX1_valueOf_160 : decode cX1_valueOf 160 = .ok (.bipush 64, 2) := dk_i kdX1_valueOf_142 8 rfl
theorem dX1_valueOf_162 : decode cX1_valueOf 162 = .ok (.if_icmp .ge 41, 3) := dk_i kdX1_valueOf_142 9 rfl
theorem dX1_valueOf_165 : decode cX1_valueOf 165 = .ok (.aload_n 0, 1) := dk_i kdX1_valueOf_142 10 rfl
theorem dX1_valueOf_166 : decode cX1_valueOf 166 = .ok (.getfield 28, 3) := dk_i kdX1_valueOf_142 11 rfl
theorem dX1_valueOf_169 : decode cX1_valueOf 169 = .ok (.aload_n 0, 1) := dk_i kdX1_valueOf_142 12 rfl
theorem dX1_valueOf_170 : decode cX1_valueOf 170 = .ok (.getfield 31, 3) := dk_i kdX1_valueOf_142 13 rfl
theorem dX1_valueOf_173 : decode cX1_valueOf 173 = .ok (.iload 4, 2) := dk_i kdX1_valueOf_142 14 rfl
theorem dX1_valueOf_175 : decode cX1_valueOf 175 = .ok (.ifCond .lt 8, 3) := dk_i kdX1_valueOf_142 15 rfl
def ldX1_valueOf_178 : List (Nat × ClassFile.Instr × Nat) := [(178, .iload 4, 2), (180, .goto 12, 3), (183, .aload_n 0, 1), (184, .getfield 24, 3), (187, .iconst (-1), 1), (188, .iload 4, 2), (190, .isub, 1), (191, .iaload, 1), (192, .iastore, 1), (193, .aload_n 0, 1), (194, .dup, 1), (195, .getfield 31, 3), (198, .iconst 1, 1), (199, .iadd, 1), (200, .putfield 31, 3), (203, .iinc 3 1, 3)]
theorem kdX1_valueOf_178 : dkO cX1_valueOf 178 ldX1_valueOf_178 = true := by decide +kernel
theorem dX1_valueOf_178 : decode cX1_valueOf 178 = .ok (.iload 4, 2) := dk_i kdX1_valueOf_178 0 rfl
theorem dX1_valueOf_180 : decode cX1_valueOf 180 = .ok (.goto 12, 3) := dk_i kdX1_valueOf_178 1 rfl
theorem dX1_valueOf_183 : decode cX1_valueOf 183 = .ok (.aload_n 0, 1) := dk_i kdX1_valueOf_178 2 rfl
theorem dX1_valueOf_184 : decode cX1_valueOf 184 = .ok (.getfield 24, 3) := dk_i kdX1_valueOf_178 3 rfl
theorem dX1_valueOf_187 : decode cX1_valueOf 187 = .ok (.iconst (-1), 1) := dk_i kdX1_valueOf_178 4 rfl
theorem dX1_valueOf_188 : decode cX1_valueOf 188 = .ok (.iload 4, 2) := dk_i kdX1_valueOf_178 5 rfl
theorem dX1_valueOf_190 : decode cX1_valueOf 190 = .ok (.isub, 1) := dk_i kdX1_valueOf_178 6 rfl
theorem dX1_valueOf_191 : decode cX1_valueOf 191 = .ok (.iaload, 1) := dk_i kdX1_valueOf_178 7 rfl
theorem dX1_valueOf_192 : decode cX1_valueOf 192 = .ok (.iastore, 1) := dk_i kdX1_valueOf_178 8 rfl
theorem dX1_valueOf_193 : decode cX1_valueOf 193 = .ok (.aload_n 0, 1) := dk_i kdX1_valueOf_178 9 rfl
theorem dX1_valueOf_194 : decode cX1_valueOf 194 = .ok (.dup, 1) := dk_i kdX1_valueOf_178 10 rfl
theorem dX1_valueOf_195 : decode cX1_valueOf 195 = .ok (.getfield 31, 3) := dk_i kdX1_valueOf_178 11 rfl
theorem dX1_valueOf_198 : decode cX1_valueOf 198 = .ok (.iconst 1, 1) := dk_i kdX1_valueOf_178 12 rfl
theorem dX1_valueOf_199 : decode cX1_valueOf 199 = .ok (.iadd, 1) := dk_i kdX1_valueOf_178 13 rfl
theorem dX1_valueOf_200 : decode cX1_valueOf 200 = .ok (.putfield 31, 3) := dk_i kdX1_valueOf_178 14 rfl
theorem dX1_valueOf_203 : decode cX1_valueOf 203 = .ok (.iinc 3 1, 3) := dk_i kdX1_valueOf_178 15 rfl
def ldX1_valueOf_206 : List (Nat × ClassFile.Instr × Nat) := [(206, .goto (-82), 3), (209, .aload_n 0, 1), (210, .getfield 31, 3), (213, .ifCond .le 12, 3), (216, .aload_n 0, 1), (217, .getfield 28, 3), (220, .iconst 0, 1), (221, .iaload, 1), (222, .goto 4, 3), (225, .iconst 0, 1), (226, .ireturn, 1)]
theorem kdX1_valueOf_206 : dkO cX1_valueOf 206 ldX1_valueOf_206 = true := by decide +kernel
theorem dX1_valueOf_206 : decode cX1_valueOf 206 = .ok (.goto (-82), 3) := dk_i kdX1_valueOf_206 0 rfl
theorem dX1_valueOf_209 : decode cX1_valueOf 209 = .ok (.aload_n 0, 1) := dk_i kdX1_valueOf_206 1 rfl
theorem dX1_valueOf_210 : decode cX1_valueOf 210 = .ok (.getfield 31, 3) := dk_i kdX1_valueOf_206 2 rfl
theorem dX1_valueOf_213 : decode cX1_valueOf 213 = .ok (.ifCond .le 12, 3) := dk_i kdX1_valueOf_206 3 rfl
theorem dX1_valueOf_216 : decode cX1_valueOf 216 = .ok (.aload_n 0, 1) := dk_i kdX1_valueOf_206 4 rfl
theorem dX1_valueOf_217 : decode cX1_valueOf 217 = .ok (.getfield 28, 3) := dk_i kdX1_valueOf_206 5 rfl
theorem dX1_valueOf_220 : decode cX1_valueOf 220 = .ok (.iconst 0, 1) := dk_i kdX1_valueOf_206 6 rfl
theorem dX1_valueOf_221 : decode cX1_valueOf 221 = .ok (.iaload, 1) := dk_i kdX1_valueOf_206 7 rfl
theorem dX1_valueOf_222 : decode cX1_valueOf 222 = .ok (.goto 4, 3) := dk_i kdX1_valueOf_206 8 rfl
theorem dX1_valueOf_225 : decode cX1_valueOf 225 = .ok (.iconst 0, 1) := dk_i kdX1_valueOf_206 9 rfl
theorem dX1_valueOf_226 : decode cX1_valueOf 226 = .ok (.ireturn, 1) := dk_i kdX1_valueOf_206 10 rfl
def ldX1_join_0 : List (Nat × ClassFile.Instr × Nat) := [(0, .iload_n 1, 1), (1, .bipush (-14), 2), (3, .if_icmp .ne 7, 3), (6, .iconst 3, 1), (7, .goto 4, 3), (10, .iconst 2, 1), (11, .istore_n 2, 1), (12, .aload_n 0, 1), (13, .getfield 31, 3), (16, .iload_n 2, 1), (17, .if_icmp .ge 4, 3), (20, .return_, 1), (21, .aload_n 0, 1), (22, .dup, 1), (23, .getfield 31, 3), (26, .iload_n 2, 1)]
theorem kdX1_join_0 : dkO cX1_join 0 ldX1_join_0 = true := by decide +kernel
theorem dX1_join_0 : decode cX1_join 0 = .ok (.iload_n 1, 1) := dk_i kdX1_join_0 0 rfl
theorem dX1_join_1 : decode cX1_join 1 = .ok (.bipush (-14), 2) := dk_i kdX1_join_0 1 rfl
theorem dX1_join_3 : decode cX1_join 3 = .ok (.if_icmp .ne 7, 3) := dk_i kdX1_join_0 2 rfl
theorem dX1_join_6 : decode cX1_join 6 = .ok (.iconst 3, 1) := dk_i kdX1_join_0 3 rfl
theorem dX1_join_7 : decode cX1_join 7 = .ok (.goto 4, 3) := dk_i kdX1_join_0 4 rfl
theorem dX1_join_10 : decode cX1_join 10 = .ok (.iconst 2, 1) := dk_i kdX1_join_0 5 rfl
theorem dX1_join_11 : decode cX1_join 11 = .ok (.istore_n 2, 1) := dk_i kdX1_join_0 6 rfl
theorem dX1_join_12 : decode cX1_join 12 = .ok (.aload_n 0, 1) := dk_i kdX1_join_0 7 rfl
theorem dX1_join_13 : decode cX1_join 13 = .ok (.getfield 31, 3) := dk_i kdX1_join_0 8 rfl
theorem dX1_join_16 : decode cX1_join 16 = .ok (.iload_n 2, 1) := dk_i kdX1_join_0 9 rfl
theorem dX1_join_17 : decode cX1_join 17 = .ok (.if_icmp .ge 4, 3) := dk_i kdX1_join_0 10 rfl
theorem dX1_join_20 : decode cX1_join 20 = .ok (.return_, 1) := dk_i kdX1_join_0 11 rfl
theorem dX1_join_21 : decode cX1_join 21 = .ok (.aload_n 0, 1) := dk_i kdX1_join_0 12 rfl
theorem dX1_join_22 : decode cX1_join 22 = .ok (.dup, 1) := dk_i kdX1_join_0 13 rfl
theorem dX1_join_23 : decode cX1_join 23 = .ok (.getfield 31, 3) := dk_i kdX1_join_0 14 rfl
theorem dX1_join_26 : decode cX1_join 26 = .ok (.iload_n 2, 1) := dk_i kdX1_join_0 15 rfl
def ldX1_join_27 : List (Nat × ClassFile.Instr × Nat) := [(27, .iconst 1, 1), (28, .isub, 1), (29, .isub, 1), (30, .putfield 31, 3), (33, .aload_n 0, 1), (34, .getfield 31, 3), (37, .iconst 1, 1), (38, .isub, 1), (39, .istore_n 3, 1), (40, .aload_n 0, 1), (41, .getfield 28, 3), (44, .iload_n 3, 1), (45, .iaload, 1), (46, .istore 4, 2), (48, .aload_n 0, 1), (49, .getfield 28, 3)]
theorem kdX1_join_27 : dkO cX1_join 27 ldX1_join_27 = true := by decide +kernel
theorem dX1_join_27 : decode cX1_join 27 = .ok (.iconst 1, 1) := dk_i kdX1_join_27 0 rfl
theorem dX1_join_28 : decode cX1_join 28 = .ok (.isub, 1) := dk_i kdX1_join_27 1 rfl
theorem dX1_join_29 : decode cX1_join 29 = .ok (.isub, 1) := dk_i kdX1_join_27 2 rfl
theorem dX1_join_30 : decode cX1_join 30 = .ok (.putfield 31, 3) := dk_i kdX1_join_27 3 rfl
theorem dX1_join_33 : decode cX1_join 33 = .ok (.aload_n 0, 1) := dk_i kdX1_join_27 4 rfl
theorem dX1_join_34 : decode cX1_join 34 = .ok (.getfield 31, 3) := dk_i kdX1_join_27 5 rfl
theorem dX1_join_37 : decode cX1_join 37 = .ok (.iconst 1, 1) := dk_i kdX1_join_27 6 rfl
theorem dX1_join_38 : decode cX1_join 38 = .ok (.isub, 1) := dk_i kdX1_join_27 7 rfl
theorem dX1_join_39 : decode cX1_join 39 = .ok (.istore_n 3, 1) := dk_i kdX1_join_27 8 rfl
theorem dX1_join_40 : decode cX1_join 40 = .ok (.aload_n 0, 1) := dk_i kdX1_join_27 9 rfl
theorem dX1_join_41 : decode cX1_join 41 = .ok (.getfield 28, 3) := dk_i kdX1_join_27 10 rfl
theorem dX1_join_44 : decode cX1_join 44 = .ok (.iload_n 3, 1) := dk_i kdX1_join_27 11 rfl
theorem dX1_join_45 : decode cX1_join 45 = .ok (.iaload, 1) := dk_i kdX1_join_27 12 rfl
theorem dX1_join_46 : decode cX1_join 46 = .ok (.istore 4, 2) := dk_i kdX1_join_27 13 rfl
theorem dX1_join_48 : decode cX1_join 48 = .ok (.aload_n 0, 1) := dk_i kdX1_join_27 14 rfl
theorem dX1_join_49 : decode cX1_join 49 = .ok (.getfield 28, 3) := dk_i kdX1_join_27 15 rfl
def ldX1_join_52 : List (Nat × ClassFile.Instr × Nat) := [(52, .iload_n 3, 1), (53, .iconst 1, 1), (54, .iadd, 1), (55, .iaload, 1), (56, .istore 5, 2), (58, .lconst 0, 1), (59, .lstore 6, 2), (61, .iload_n 1, 1), (62, .tableswitch 270 (-19) (-7) #[259, 248, 231, 214, 197, 172, 159, 146, 124, 102, 90, 78, 66], 66), (128, .iload 4, 2), (130, .i2l, 1), (131, .iload 5, 2), (133, .i2l, 1), (134, .ladd, 1), (135, .lstore 6, 2), (137, .goto 195, 3)]
theorem kdX1_join_52 : dkO cX1_join 52 ldX1_join_52 = true := by decide +kernel
theorem dX1_join_52 : decode cX1_join 52 = .ok (.iload_n 3, 1) := dk_i kdX1_join_52 0 rfl
theorem dX1_join_53 : decode cX1_join 53 = .ok (.iconst 1, 1) := dk_i kdX1_join_52 1 rfl
theorem dX1_join_54 : decode cX1_join 54 = .ok (.iadd, 1) := dk_i kdX1_join_52 2 rfl
theorem dX1_join_55 : decode cX1_join 55 = .ok (.iaload, 1) := dk_i kdX1_join_52 3 rfl
theorem dX1_join_56 : decode cX1_join 56 = .ok (.istore 5, 2) := dk_i kdX1_join_52 4 rfl
theorem dX1_join_58 : decode cX1_join 58 = .ok (.lconst 0, 1) := dk_i kdX1_join_52 5 rfl
theorem dX1_join_59 : decode cX1_join 59 = .ok (.lstore 6, 2) := dk_i kdX1_join_52 6 rfl
theorem dX1_join_61 : decode cX1_join 61 = .ok (.iload_n 1, 1) := dk_i kdX1_join_52 7 rfl
theorem dX1_join_62 : decode cX1_join 62 = .ok (.tableswitch 270 (-19) (-7) #[259, 248, 231, 214, 197, 172, 159, 146, 124, 102, 90, 78, 66], 66) := dk_i kdX1_join_52 8 rfl
theorem dX1_join_128 : decode cX1_join 128 = .ok (.iload 4, 2) := dk_i kdX1_join_52 9 rfl
theorem dX1_join_130 : decode cX1_join 130 = .ok (.i2l, 1) := dk_i kdX1_join_52 10 rfl
theorem dX1_join_131 : decode cX1_join 131 = .ok (.iload 5, 2) := dk_i kdX1_join_52 11 rfl
theorem dX1_join_133 : decode cX1_join 133 = .ok (.i2l, 1) := dk_i kdX1_join_52 12 rfl
theorem dX1_join_134 : decode cX1_join 134 = .ok (.ladd, 1) := dk_i kdX1_join_52 13 rfl
theorem dX1_join_135 : decode cX1_join 135 = .ok (.lstore 6, 2) := dk_i kdX1_join_52 14 rfl
theorem dX1_join_137 : decode cX1_join 137 = .ok (.goto 195, 3) := dk_i kdX1_join_52 15 rfl
def ldX1_join_140 : List (Nat × ClassFile.Instr × Nat) := [(140, .iload 4, 2), (142, .i2l, 1), (143, .iload 5, 2), (145, .i2l, 1), (146, .lsub, 1), (147, .lstore 6, 2), (149, .goto 183, 3), (152, .iload 4, 2), (154, .i2l, 1), (155, .iload 5, 2), (157, .i2l, 1), (158, .lmul, 1), (159, .lstore 6, 2), (161, .goto 171, 3), (164, .iload 5, 2), (166, .ifCond .ne 7, 3)]
theorem kdX1_join_140 : dkO cX1_join 140 ldX1_join_140 = true := by decide +kernel
theorem dX1_join_140 : decode cX1_join 140 = .ok (.iload 4, 2) := dk_i kdX1_join_140 0 rfl
theorem dX1_join_142 : decode cX1_join 142 = .ok (.i2l, 1) := dk_i kdX1_join_140 1 rfl
theorem dX1_join_143 : decode cX1_join 143 = .ok (.iload 5, 2) := dk_i kdX1_join_140 2 rfl
theorem dX1_join_145 : decode cX1_join 145 = .ok (.i2l, 1) := dk_i kdX1_join_140 3 rfl
theorem dX1_join_146 : decode cX1_join 146 = .ok (.lsub, 1) := dk_i kdX1_join_140 4 rfl
theorem dX1_join_147 : decode cX1_join 147 = .ok (.lstore 6, 2) := dk_i kdX1_join_140 5 rfl
theorem dX1_join_149 : decode cX1_join 149 = .ok (.goto 183, 3) := dk_i kdX1_join_140 6 rfl
theorem dX1_join_152 : decode cX1_join 152 = .ok (.iload 4, 2) := dk_i kdX1_join_140 7 rfl
theorem dX1_join_154 : decode cX1_join 154 = .ok (.i2l, 1) := dk_i kdX1_join_140 8 rfl
theorem dX1_join_155 : decode cX1_join 155 = .ok (.iload 5, 2) := dk_i kdX1_join_140 9 rfl
theorem dX1_join_157 : decode cX1_join 157 = .ok (.i2l, 1) := dk_i kdX1_join_140 10 rfl
theorem dX1_join_158 : decode cX1_join 158 = .ok (.lmul, 1) := dk_i kdX1_join_140 11 rfl
theorem dX1_join_159 : decode cX1_join 159 = .ok (.lstore 6, 2) := dk_i kdX1_join_140 12 rfl
theorem dX1_join_161 : decode cX1_join 161 = .ok (.goto 171, 3) := dk_i kdX1_join_140 13 rfl
theorem dX1_join_164 : decode cX1_join 164 = .ok (.iload 5, 2) := dk_i kdX1_join_140 14 rfl
theorem dX1_join_166 : decode cX1_join 166 = .ok (.ifCond .ne 7, 3) := dk_i kdX1_join_140 15 rfl
def ldX1_join_169 : List (Nat × ClassFile.Instr × Nat) := [(169, .lconst 0, 1), (170, .goto 11, 3), (173, .iload 4, 2), (175, .iload 5, 2), (177, .invokestatic 93, 3), (180, .i2l, 1), (181, .lstore 6, 2), (183, .goto 149, 3), (186, .iload 5, 2), (188, .ifCond .ne 7, 3), (191, .lconst 0, 1), (192, .goto 11, 3), (195, .iload 4, 2), (197, .iload 5, 2), (199, .invokestatic 96, 3), (202, .i2l, 1)]
theorem kdX1_join_169 : dkO cX1_join 169 ldX1_join_169 = true := by decide +kernel
theorem dX1_join_169 : decode cX1_join 169 = .ok (.lconst 0, 1) := dk_i kdX1_join_169 0 rfl
theorem dX1_join_170 : decode cX1_join 170 = .ok (.goto 11, 3) := dk_i kdX1_join_169 1 rfl
theorem dX1_join_173 : decode cX1_join 173 = .ok (.iload 4, 2) := dk_i kdX1_join_169 2 rfl
theorem dX1_join_175 : decode cX1_join 175 = .ok (.iload 5, 2) := dk_i kdX1_join_169 3 rfl
theorem dX1_join_177 : decode cX1_join 177 = .ok (.invokestatic 93, 3) := dk_i kdX1_join_169 4 rfl
theorem dX1_join_180 : decode cX1_join 180 = .ok (.i2l, 1) := dk_i kdX1_join_169 5 rfl
theorem dX1_join_181 : decode cX1_join 181 = .ok (.lstore 6, 2) := dk_i kdX1_join_169 6 rfl
theorem dX1_join_183 : decode cX1_join 183 = .ok (.goto 149, 3) := dk_i kdX1_join_169 7 rfl
theorem dX1_join_186 : decode cX1_join 186 = .ok (.iload 5, 2) := dk_i kdX1_join_169 8 rfl
theorem dX1_join_188 : decode cX1_join 188 = .ok (.ifCond .ne 7, 3) := dk_i kdX1_join_169 9 rfl
theorem dX1_join_191 : decode cX1_join 191 = .ok (.lconst 0, 1) := dk_i kdX1_join_169 10 rfl
theorem dX1_join_192 : decode cX1_join 192 = .ok (.goto 11, 3) := dk_i kdX1_join_169 11 rfl
theorem dX1_join_195 : decode cX1_join 195 = .ok (.iload 4, 2) := dk_i kdX1_join_169 12 rfl
theorem dX1_join_197 : decode cX1_join 197 = .ok (.iload 5, 2) := dk_i kdX1_join_169 13 rfl
theorem dX1_join_199 : decode cX1_join 199 = .ok (.invokestatic 96, 3) := dk_i kdX1_join_169 14 rfl
theorem dX1_join_202 : decode cX1_join 202 = .ok (.i2l, 1) := dk_i kdX1_join_169 15 rfl
def ldX1_join_203 : List (Nat × ClassFile.Instr × Nat) := [(203, .lstore 6, 2), (205, .goto 127, 3), (208, .iload 4, 2), (210, .iload 5, 2), (212, .invokestatic 61, 3), (215, .i2l, 1), (216, .lstore 6, 2), (218, .goto 114, 3), (221, .iload 4, 2), (223, .iload 5, 2), (225, .invokestatic 67, 3), (228, .i2l, 1), (229, .lstore 6, 2), (231, .goto 101, 3), (234, .iload 4, 2), (236, .ifCond .eq 9, 3)]
theorem kdX1_join_203 : dkO cX1_join 203 ldX1_join_203 = true := by decide +kernel
theorem dX1_join_203 : decode cX1_join 203 = .ok (.lstore 6, 2) := dk_i kdX1_join_203 0 rfl
theorem dX1_join_205 : decode cX1_join 205 = .ok (.goto 127, 3) := dk_i kdX1_join_203 1 rfl
theorem dX1_join_208 : decode cX1_join 208 = .ok (.iload 4, 2) := dk_i kdX1_join_203 2 rfl
theorem dX1_join_210 : decode cX1_join 210 = .ok (.iload 5, 2) := dk_i kdX1_join_203 3 rfl
theorem dX1_join_212 : decode cX1_join 212 = .ok (.invokestatic 61, 3) := dk_i kdX1_join_203 4 rfl
theorem dX1_join_215 : decode cX1_join 215 = .ok (.i2l, 1) := dk_i kdX1_join_203 5 rfl
theorem dX1_join_216 : decode cX1_join 216 = .ok (.lstore 6, 2) := dk_i kdX1_join_203 6 rfl
theorem dX1_join_218 : decode cX1_join 218 = .ok (.goto 114, 3) := dk_i kdX1_join_203 7 rfl
theorem dX1_join_221 : decode cX1_join 221 = .ok (.iload 4, 2) := dk_i kdX1_join_203 8 rfl
theorem dX1_join_223 : decode cX1_join 223 = .ok (.iload 5, 2) := dk_i kdX1_join_203 9 rfl
theorem dX1_join_225 : decode cX1_join 225 = .ok (.invokestatic 67, 3) := dk_i kdX1_join_203 10 rfl
theorem dX1_join_228 : decode cX1_join 228 = .ok (.i2l, 1) := dk_i kdX1_join_203 11 rfl
theorem dX1_join_229 : decode cX1_join 229 = .ok (.lstore 6, 2) := dk_i kdX1_join_203 12 rfl
theorem dX1_join_231 : decode cX1_join 231 = .ok (.goto 101, 3) := dk_i kdX1_join_203 13 rfl
theorem dX1_join_234 : decode cX1_join 234 = .ok (.iload 4, 2) := dk_i kdX1_join_203 14 rfl
theorem dX1_join_236 : decode cX1_join 236 = .ok (.ifCond .eq 9, 3) := dk_i kdX1_join_203 15 rfl
def ldX1_join_239 : List (Nat × ClassFile.Instr × Nat) := [(239, .iload 5, 2), (241, .i2l, 1), (242, .goto 12, 3), (245, .aload_n 0, 1), (246, .getfield 28, 3), (249, .iload_n 3, 1), (250, .iconst 2, 1), (251, .iadd, 1), (252, .iaload, 1), (253, .i2l, 1), (254, .lstore 6, 2), (256, .goto 76, 3), (259, .iload 4, 2), (261, .iload 5, 2), (263, .if_icmp .ge 7, 3), (266, .lconst 1, 1)]
theorem kdX1_join_239 : dkO cX1_join 239 ldX1_join_239 = true := by decide +kernel
theorem dX1_join_239 : decode cX1_join 239 = .ok (.iload 5, 2) := dk_i kdX1_join_239 0 rfl
theorem dX1_join_241 : decode cX1_join 241 = .ok (.i2l, 1) := dk_i kdX1_join_239 1 rfl
theorem dX1_join_242 : decode cX1_join 242 = .ok (.goto 12, 3) := dk_i kdX1_join_239 2 rfl
theorem dX1_join_245 : decode cX1_join 245 = .ok (.aload_n 0, 1) := dk_i kdX1_join_239 3 rfl
theorem dX1_join_246 : decode cX1_join 246 = .ok (.getfield 28, 3) := dk_i kdX1_join_239 4 rfl
theorem dX1_join_249 : decode cX1_join 249 = .ok (.iload_n 3, 1) := dk_i kdX1_join_239 5 rfl
theorem dX1_join_250 : decode cX1_join 250 = .ok (.iconst 2, 1) := dk_i kdX1_join_239 6 rfl
theorem dX1_join_251 : decode cX1_join 251 = .ok (.iadd, 1) := dk_i kdX1_join_239 7 rfl
theorem dX1_join_252 : decode cX1_join 252 = .ok (.iaload, 1) := dk_i kdX1_join_239 8 rfl
theorem dX1_join_253 : decode cX1_join 253 = .ok (.i2l, 1) := dk_i kdX1_join_239 9 rfl
theorem dX1_join_254 : decode cX1_join 254 = .ok (.lstore 6, 2) := dk_i kdX1_join_239 10 rfl
theorem dX1_join_256 : decode cX1_join 256 = .ok (.goto 76, 3) := dk_i kdX1_join_239 11 rfl
theorem dX1_join_259 : decode cX1_join 259 = .ok (.iload 4, 2) := dk_i kdX1_join_239 12 rfl
theorem dX1_join_261 : decode cX1_join 261 = .ok (.iload 5, 2) := dk_i kdX1_join_239 13 rfl
theorem dX1_join_263 : decode cX1_join 263 = .ok (.if_icmp .ge 7, 3) := dk_i kdX1_join_239 14 rfl
theorem dX1_join_266 : decode cX1_join 266 = .ok (.lconst 1, 1) := dk_i kdX1_join_239 15 rfl
def ldX1_join_267 : List (Nat × ClassFile.Instr × Nat) := [(267, .goto 4, 3), (270, .lconst 0, 1), (271, .lstore 6, 2), (273, .goto 59, 3), (276, .iload 4, 2), (278, .iload 5, 2), (280, .if_icmp .le 7, 3), (283, .lconst 1, 1), (284, .goto 4, 3), (287, .lconst 0, 1), (288, .lstore 6, 2), (290, .goto 42, 3), (293, .iload 4, 2), (295, .iload 5, 2), (297, .if_icmp .ne 7, 3), (300, .lconst 1, 1)]
theorem kdX1_join_267 : dkO cX1_join 267 ldX1_join_267 = true := by decide +kernel
theorem dX1_join_267 : decode cX1_join 267 = .ok (.goto 4, 3) := dk_i kdX1_join_267 0 rfl
theorem dX1_join_270 : decode cX1_join 270 = .ok (.lconst 0, 1) := dk_i kdX1_join_267 1 rfl
theorem dX1_join_271 : decode cX1_join 271 = .ok (.lstore 6, 2) := dk_i kdX1_join_267 2 rfl
theorem dX1_join_273 : decode cX1_join 273 = .ok (.goto 59, 3) := dk_i kdX1_join_267 3 rfl
theorem dX1_join_276 : decode cX1_join 276 = .ok (.iload 4, 2) := dk_i kdX1_join_267 4 rfl
theorem dX1_join_278 : decode cX1_join 278 = .ok (.iload 5, 2) := dk_i kdX1_join_267 5 rfl
theorem dX1_join_280 : decode cX1_join 280 = .ok (.if_icmp .le 7, 3) := dk_i kdX1_join_267 6 rfl
theorem dX1_join_283 : decode cX1_join 283 = .ok (.lconst 1, 1) := dk_i kdX1_join_267 7 rfl
theorem dX1_join_284 : decode cX1_join 284 = .ok (.goto 4, 3) := dk_i kdX1_join_267 8 rfl
theorem dX1_join_287 : decode cX1_join 287 = .ok (.lconst 0, 1) := dk_i kdX1_join_267 9 rfl
theorem dX1_join_288 : decode cX1_join 288 = .ok (.lstore 6, 2) := dk_i kdX1_join_267 10 rfl
theorem dX1_join_290 : decode cX1_join 290 = .ok (.goto 42, 3) := dk_i kdX1_join_267 11 rfl
theorem dX1_join_293 : decode cX1_join 293 = .ok (.iload 4, 2) := dk_i kdX1_join_267 12 rfl
theorem dX1_join_295 : decode cX1_join 295 = .ok (.iload 5, 2) := dk_i kdX1_join_267 13 rfl
theorem dX1_join_297 : decode cX1_join 297 = .ok (.if_icmp .ne 7, 3) := dk_i kdX1_join_267 14 rfl
theorem dX1_join_300 : decode cX1_join 300 = .ok (.lconst 1, 1) := dk_i kdX1_join_267 15 rfl
def ldX1_join_301 : List (Nat × ClassFile.Instr × Nat) := [(301, .goto 4, 3), (304, .lconst 0, 1), (305, .lstore 6, 2), (307, .goto 25, 3), (310, .iload 4, 2), (312, .iload 5, 2), (314, .iand, 1), (315, .i2l, 1), (316, .lstore 6, 2), (318, .goto 14, 3), (321, .iload 4, 2), (323, .iload 5, 2), (325, .ior, 1), (326, .i2l, 1), (327, .lstore 6, 2), (329, .goto 3, 3)]
theorem kdX1_join_301 : dkO cX1_join 301 ldX1_join_301 = true := by decide +kernel
theorem dX1_join_301 : decode cX1_join 301 = .ok (.goto 4, 3) := dk_i kdX1_join_301 0 rfl
theorem dX1_join_304 : decode cX1_join 304 = .ok (.lconst 0, 1) := dk_i kdX1_join_301 1 rfl
theorem dX1_join_305 : decode cX1_join 305 = .ok (.lstore 6, 2) := dk_i kdX1_join_301 2 rfl
theorem dX1_join_307 : decode cX1_join 307 = .ok (.goto 25, 3) := dk_i kdX1_join_301 3 rfl
theorem dX1_join_310 : decode cX1_join 310 = .ok (.iload 4, 2) := dk_i kdX1_join_301 4 rfl
theorem dX1_join_312 : decode cX1_join 312 = .ok (.iload 5, 2) := dk_i kdX1_join_301 5 rfl
theorem dX1_join_314 : decode cX1_join 314 = .ok (.iand, 1) := dk_i kdX1_join_301 6 rfl
theorem dX1_join_315 : decode cX1_join 315 = .ok (.i2l, 1) := dk_i kdX1_join_301 7 rfl
theorem dX1_join_316 : decode cX1_join 316 = .ok (.lstore 6, 2) := dk_i kdX1_join_301 8 rfl
theorem dX1_join_318 : decode cX1_join 318 = .ok (.goto 14, 3) := dk_i kdX1_join_301 9 rfl
theorem dX1_join_321 : decode cX1_join 321 = .ok (.iload 4, 2) := dk_i kdX1_join_301 10 rfl
theorem dX1_join_323 : decode cX1_join 323 = .ok (.iload 5, 2) := dk_i kdX1_join_301 11 rfl
theorem dX1_join_325 : decode cX1_join 325 = .ok (.ior, 1) := dk_i kdX1_join_301 12 rfl
theorem dX1_join_326 : decode cX1_join 326 = .ok (.i2l, 1) := dk_i kdX1_join_301 13 rfl
theorem dX1_join_327 : decode cX1_join 327 = .ok (.lstore 6, 2) := dk_i kdX1_join_301 14 rfl
theorem dX1_join_329 : decode cX1_join 329 = .ok (.goto 3, 3) := dk_i kdX1_join_301 15 rfl
def ldX1_join_332 : List (Nat × ClassFile.Instr × Nat) := [(332, .aload_n 0, 1), (333, .getfield 28, 3), (336, .iload_n 3, 1), (337, .ldc2_w 99, 3), (340, .ldc2_w 101, 3), (343, .lload 6, 2), (345, .invokestatic 103, 3), (348, .invokestatic 106, 3), (351, .l2i, 1), (352, .iastore, 1), (353, .return_, 1)]
theorem kdX1_join_332 : dkO cX1_join 332 ldX1_join_332 = true := by decide +kernel
theorem dX1_join_332 : decode cX1_join 332 = .ok (.aload_n 0, 1) := dk_i kdX1_join_332 0 rfl
theorem dX1_join_333 : decode cX1_join 333 = .ok (.getfield 28, 3) := dk_i kdX1_join_332 1 rfl
theorem dX1_join_336 : decode cX1_join 336 = .ok (.iload_n 3, 1) := dk_i kdX1_join_332 2 rfl
theorem dX1_join_337 : decode cX1_join 337 = .ok (.ldc2_w 99, 3) := dk_i kdX1_join_332 3 rfl
theorem dX1_join_340 : decode cX1_join 340 = .ok (.ldc2_w 101, 3) := dk_i kdX1_join_332 4 rfl
theorem dX1_join_343 : decode cX1_join 343 = .ok (.lload 6, 2) := dk_i kdX1_join_332 5 rfl
theorem dX1_join_345 : decode cX1_join 345 = .ok (.invokestatic 103, 3) := dk_i kdX1_join_332 6 rfl
theorem dX1_join_348 : decode cX1_join 348 = .ok (.invokestatic 106, 3) := dk_i kdX1_join_332 7 rfl
theorem dX1_join_351 : decode cX1_join 351 = .ok (.l2i, 1) := dk_i kdX1_join_332 8 rfl
theorem dX1_join_352 : decode cX1_join 352 = .ok (.iastore, 1) := dk_i kdX1_join_332 9 rfl
theorem dX1_join_353 : decode cX1_join 353 = .ok (.return_, 1) := dk_i kdX1_join_332 10 rfl
end
section
def ldX10_init_0 : List (Nat × ClassFile.Instr × Nat) := [(0, .aload_n 0, 1), (1, .invokespecial 3, 3), (4, .aload_n 0, 1), (5, .iconst 5, 1), (6, .newarray .int, 2), (8, .putfield 9, 3), (11, .aload_n 0, 1), (12, .bipush 61, 2), (14, .newarray .int, 2), (16, .putfield 15, 3), (19, .return_, 1)]
theorem kdX10_init_0 : dkO cX10_init 0 ldX10_init_0 = true := by decide +kernel
theorem dX10_init_0 : decode cX10_init 0 = .ok (.aload_n 0, 1) := dk_i kdX10_init_0 0 rfl
theorem dX10_init_1 : decode cX10_init 1 = .ok (.invokespecial 3, 3) := dk_i kdX10_init_0 1 rfl
theorem dX10_init_4 : decode cX10_init 4 = .ok (.aload_n 0, 1) := dk_i kdX10_init_0 2 rfl
theorem dX10_init_5 : decode cX10_init 5 = .ok (.iconst 5, 1) := dk_i kdX10_init_0 3 rfl
theorem dX10_init_6 : decode cX10_init 6 = .ok (.newarray .int, 2) := dk_i kdX10_init_0 4 rfl
theorem dX10_init_8 : decode cX10_init 8 = .ok (.putfield 9, 3) := dk_i kdX10_init_0 5 rfl
theorem dX10_init_11 : decode cX10_init 11 = .ok (.aload_n 0, 1) := dk_i kdX10_init_0 6 rfl
theorem dX10_init_12 : decode cX10_init 12 = .ok (.bipush 61, 2) := dk_i kdX10_init_0 7 rfl
theorem dX10_init_14 : decode cX10_init 14 = .ok (.newarray .int, 2) := dk_i kdX10_init_0 8 rfl
theorem dX10_init_16 : decode cX10_init 16 = .ok (.putfield 15, 3) := dk_i kdX10_init_0 9 rfl
theorem dX10_init_19 : decode cX10_init 19 = .ok (.return_, 1) := dk_i kdX10_init_0 10 rfl
def ldX10_stepsOf_0 : List (Nat × ClassFile.Instr × Nat) := [(0, .iconst 0, 1), (1, .istore 4, 2), (3, .iload 4, 2), (5, .iconst 5, 1), (6, .if_icmp .ge 28, 3), (9, .aload_n 0, 1), (10, .getfield 9, 3), (13, .iload 4, 2), (15, .iload 4, 2), (17, .iload_n 2, 1), (18, .if_icmp .ne 7, 3), (21, .iconst 0, 1), (22, .goto 5, 3), (25, .ldc 18, 2), (27, .iastore, 1), (28, .iinc 4 1, 3)]
theorem kdX10_stepsOf_0 : dkO cX10_stepsOf 0 ldX10_stepsOf_0 = true := by decide +kernel
theorem dX10_stepsOf_0 : decode cX10_stepsOf 0 = .ok (.iconst 0, 1) := dk_i kdX10_stepsOf_0 0 rfl
theorem dX10_stepsOf_1 : decode cX10_stepsOf 1 = .ok (.istore 4, 2) := dk_i kdX10_stepsOf_0 1 rfl
theorem dX10_stepsOf_3 : decode cX10_stepsOf 3 = .ok (.iload 4, 2) := dk_i kdX10_stepsOf_0 2 rfl
theorem dX10_stepsOf_5 : decode cX10_stepsOf 5 = .ok (.iconst 5, 1) := dk_i kdX10_stepsOf_0 3 rfl
theorem dX10_stepsOf_6 : decode cX10_stepsOf 6 = .ok (.if_icmp .ge 28, 3) := dk_i kdX10_stepsOf_0 4 rfl
theorem dX10_stepsOf_9 : decode cX10_stepsOf 9 = .ok (.aload_n 0, 1) := dk_i kdX10_stepsOf_0 5 rfl
theorem dX10_stepsOf_10 : decode cX10_stepsOf 10 = .ok (.getfield 9, 3) := dk_i kdX10_stepsOf_0 6 rfl
theorem dX10_stepsOf_13 : decode cX10_stepsOf 13 = .ok (.iload 4, 2) := dk_i kdX10_stepsOf_0 7 rfl
theorem dX10_stepsOf_15 : decode cX10_stepsOf 15 = .ok (.iload 4, 2) := dk_i kdX10_stepsOf_0 8 rfl
theorem dX10_stepsOf_17 : decode cX10_stepsOf 17 = .ok (.iload_n 2, 1) := dk_i kdX10_stepsOf_0 9 rfl
theorem dX10_stepsOf_18 : decode cX10_stepsOf 18 = .ok (.if_icmp .ne 7, 3) := dk_i kdX10_stepsOf_0 10 rfl
theorem dX10_stepsOf_21 : decode cX10_stepsOf 21 = .ok (.iconst 0, 1) := dk_i kdX10_stepsOf_0 11 rfl
theorem dX10_stepsOf_22 : decode cX10_stepsOf 22 = .ok (.goto 5, 3) := dk_i kdX10_stepsOf_0 12 rfl
theorem dX10_stepsOf_25 : decode cX10_stepsOf 25 = .ok (.ldc 18, 2) := dk_i kdX10_stepsOf_0 13 rfl
theorem dX10_stepsOf_27 : decode cX10_stepsOf 27 = .ok (.iastore, 1) := dk_i kdX10_stepsOf_0 14 rfl
theorem dX10_stepsOf_28 : decode cX10_stepsOf 28 = .ok (.iinc 4 1, 3) := dk_i kdX10_stepsOf_0 15 rfl
def ldX10_stepsOf_31 : List (Nat × ClassFile.Instr × Nat) := [(31, .goto (-28), 3), (34, .iconst 0, 1), (35, .istore 4, 2), (37, .iload 4, 2), (39, .aload_n 1, 1), (40, .getfield 19, 3), (43, .if_icmp .ge 77, 3), (46, .iconst 0, 1), (47, .istore 5, 2), (49, .iload 5, 2), (51, .aload_n 1, 1), (52, .getfield 25, 3), (55, .if_icmp .ge 59, 3), (58, .aload_n 0, 1), (59, .aload_n 1, 1), (60, .getfield 28, 3)]
theorem kdX10_stepsOf_31 : dkO cX10_stepsOf 31 ldX10_stepsOf_31 = true := by decide +kernel
theorem dX10_stepsOf_31 : decode cX10_stepsOf 31 = .ok (.goto (-28), 3) := dk_i kdX10_stepsOf_31 0 rfl
theorem dX10_stepsOf_34 : decode cX10_stepsOf 34 = .ok (.iconst 0, 1) := dk_i kdX10_stepsOf_31 1 rfl
theorem dX10_stepsOf_35 : decode cX10_stepsOf 35 = .ok (.istore 4, 2) := dk_i kdX10_stepsOf_31 2 rfl
theorem dX10_stepsOf_37 : decode cX10_stepsOf 37 = .ok (.iload 4, 2) := dk_i kdX10_stepsOf_31 3 rfl
theorem dX10_stepsOf_39 : decode cX10_stepsOf 39 = .ok (.aload_n 1, 1) := dk_i kdX10_stepsOf_31 4 rfl
theorem dX10_stepsOf_40 : decode cX10_stepsOf 40 = .ok (.getfield 19, 3) := dk_i kdX10_stepsOf_31 5 rfl
theorem dX10_stepsOf_43 : decode cX10_stepsOf 43 = .ok (.if_icmp .ge 77, 3) := dk_i kdX10_stepsOf_31 6 rfl
theorem dX10_stepsOf_46 : decode cX10_stepsOf 46 = .ok (.iconst 0, 1) := dk_i kdX10_stepsOf_31 7 rfl
theorem dX10_stepsOf_47 : decode cX10_stepsOf 47 = .ok (.istore 5, 2) := dk_i kdX10_stepsOf_31 8 rfl
theorem dX10_stepsOf_49 : decode cX10_stepsOf 49 = .ok (.iload 5, 2) := dk_i kdX10_stepsOf_31 9 rfl
theorem dX10_stepsOf_51 : decode cX10_stepsOf 51 = .ok (.aload_n 1, 1) := dk_i kdX10_stepsOf_31 10 rfl
theorem dX10_stepsOf_52 : decode cX10_stepsOf 52 = .ok (.getfield 25, 3) := dk_i kdX10_stepsOf_31 11 rfl
theorem dX10_stepsOf_55 : decode cX10_stepsOf 55 = .ok (.if_icmp .ge 59, 3) := dk_i kdX10_stepsOf_31 12 rfl
theorem dX10_stepsOf_58 : decode cX10_stepsOf 58 = .ok (.aload_n 0, 1) := dk_i kdX10_stepsOf_31 13 rfl
theorem dX10_stepsOf_59 : decode cX10_stepsOf 59 = .ok (.aload_n 1, 1) := dk_i kdX10_stepsOf_31 14 rfl
theorem dX10_stepsOf_60 : decode cX10_stepsOf 60 = .ok (.getfield 28, 3) := dk_i kdX10_stepsOf_31 15 rfl
def ldX10_stepsOf_63 : List (Nat × ClassFile.Instr × Nat) := [(63, .iload 5, 2), (65, .iaload, 1), (66, .aload_n 1, 1), (67, .getfield 31, 3), (70, .iload 5, 2), (72, .iaload, 1), (73, .aload_n 1, 1), (74, .getfield 34, 3), (77, .iload 5, 2), (79, .iaload, 1), (80, .invokevirtual 37, 3), (83, .aload_n 0, 1), (84, .aload_n 1, 1), (85, .getfield 31, 3), (88, .iload 5, 2), (90, .iaload, 1)]
theorem kdX10_stepsOf_63 : dkO cX10_stepsOf 63 ldX10_stepsOf_63 = true := by decide +kernel
theorem dX10_stepsOf_63 : decode cX10_stepsOf 63 = .ok (.iload 5, 2) := dk_i kdX10_stepsOf_63 0 rfl
theorem dX10_stepsOf_65 : decode cX10_stepsOf 65 = .ok (.iaload, 1) := dk_i kdX10_stepsOf_63 1 rfl
theorem dX10_stepsOf_66 : decode cX10_stepsOf 66 = .ok (.aload_n 1, 1) := dk_i kdX10_stepsOf_63 2 rfl
theorem dX10_stepsOf_67 : decode cX10_stepsOf 67 = .ok (.getfield 31, 3) := dk_i kdX10_stepsOf_63 3 rfl
theorem dX10_stepsOf_70 : decode cX10_stepsOf 70 = .ok (.iload 5, 2) := dk_i kdX10_stepsOf_63 4 rfl
theorem dX10_stepsOf_72 : decode cX10_stepsOf 72 = .ok (.iaload, 1) := dk_i kdX10_stepsOf_63 5 rfl
theorem dX10_stepsOf_73 : decode cX10_stepsOf 73 = .ok (.aload_n 1, 1) := dk_i kdX10_stepsOf_63 6 rfl
theorem dX10_stepsOf_74 : decode cX10_stepsOf 74 = .ok (.getfield 34, 3) := dk_i kdX10_stepsOf_63 7 rfl
theorem dX10_stepsOf_77 : decode cX10_stepsOf 77 = .ok (.iload 5, 2) := dk_i kdX10_stepsOf_63 8 rfl
theorem dX10_stepsOf_79 : decode cX10_stepsOf 79 = .ok (.iaload, 1) := dk_i kdX10_stepsOf_63 9 rfl
theorem dX10_stepsOf_80 : decode cX10_stepsOf 80 = .ok (.invokevirtual 37, 3) := dk_i kdX10_stepsOf_63 10 rfl
theorem dX10_stepsOf_83 : decode cX10_stepsOf 83 = .ok (.aload_n 0, 1) := dk_i kdX10_stepsOf_63 11 rfl
theorem dX10_stepsOf_84 : decode cX10_stepsOf 84 = .ok (.aload_n 1, 1) := dk_i kdX10_stepsOf_63 12 rfl
theorem dX10_stepsOf_85 : decode cX10_stepsOf 85 = .ok (.getfield 31, 3) := dk_i kdX10_stepsOf_63 13 rfl
theorem dX10_stepsOf_88 : decode cX10_stepsOf 88 = .ok (.iload 5, 2) := dk_i kdX10_stepsOf_63 14 rfl
theorem dX10_stepsOf_90 : decode cX10_stepsOf 90 = .ok (.iaload, 1) := dk_i kdX10_stepsOf_63 15 rfl
def ldX10_stepsOf_91 : List (Nat × ClassFile.Instr × Nat) := [(91, .aload_n 1, 1), (92, .getfield 28, 3), (95, .iload 5, 2), (97, .iaload, 1), (98, .aload_n 1, 1), (99, .getfield 34, 3), (102, .iload 5, 2), (104, .iaload, 1), (105, .invokevirtual 37, 3), (108, .iinc 5 1, 3), (111, .goto (-62), 3), (114, .iinc 4 1, 3), (117, .goto (-80), 3), (120, .aload_n 1, 1), (121, .iload_n 3, 1), (122, .invokevirtual 41, 3)]
theorem kdX10_stepsOf_91 : dkO cX10_stepsOf 91 ldX10_stepsOf_91 = true := by decide +kernel
theorem dX10_stepsOf_91 : decode cX10_stepsOf 91 = .ok (.aload_n 1, 1) := dk_i kdX10_stepsOf_91 0 rfl
theorem dX10_stepsOf_92 : decode cX10_stepsOf 92 = .ok (.getfield 28, 3) := dk_i kdX10_stepsOf_91 1 rfl
theorem dX10_stepsOf_95 : decode cX10_stepsOf 95 = .ok (.iload 5, 2) := dk_i kdX10_stepsOf_91 2 rfl
theorem dX10_stepsOf_97 : decode cX10_stepsOf 97 = .ok (.iaload, 1) := dk_i kdX10_stepsOf_91 3 rfl
theorem dX10_stepsOf_98 : decode cX10_stepsOf 98 = .ok (.aload_n 1, 1) := dk_i kdX10_stepsOf_91 4 rfl
theorem dX10_stepsOf_99 : decode cX10_stepsOf 99 = .ok (.getfield 34, 3) := dk_i kdX10_stepsOf_91 5 rfl
theorem dX10_stepsOf_102 : decode cX10_stepsOf 102 = .ok (.iload 5, 2) := dk_i kdX10_stepsOf_91 6 rfl
theorem dX10_stepsOf_104 : decode cX10_stepsOf 104 = .ok (.iaload, 1) := dk_i kdX10_stepsOf_91 7 rfl
theorem dX10_stepsOf_105 : decode cX10_stepsOf 105 = .ok (.invokevirtual 37, 3) := dk_i kdX10_stepsOf_91 8 rfl
theorem dX10_stepsOf_108 : decode cX10_stepsOf 108 = .ok (.iinc 5 1, 3) := dk_i kdX10_stepsOf_91 9 rfl
theorem dX10_stepsOf_111 : decode cX10_stepsOf 111 = .ok (.goto (-62), 3) := dk_i kdX10_stepsOf_91 10 rfl
theorem dX10_stepsOf_114 : decode cX10_stepsOf 114 = .ok (.iinc 4 1, 3) := dk_i kdX10_stepsOf_91 11 rfl
theorem dX10_stepsOf_117 : decode cX10_stepsOf 117 = .ok (.goto (-80), 3) := dk_i kdX10_stepsOf_91 12 rfl
theorem dX10_stepsOf_120 : decode cX10_stepsOf 120 = .ok (.aload_n 1, 1) := dk_i kdX10_stepsOf_91 13 rfl
theorem dX10_stepsOf_121 : decode cX10_stepsOf 121 = .ok (.iload_n 3, 1) := dk_i kdX10_stepsOf_91 14 rfl
theorem dX10_stepsOf_122 : decode cX10_stepsOf 122 = .ok (.invokevirtual 41, 3) := dk_i kdX10_stepsOf_91 15 rfl
def ldX10_stepsOf_125 : List (Nat × ClassFile.Instr × Nat) := [(125, .ifCond .eq 23, 3), (128, .aload_n 0, 1), (129, .getfield 9, 3), (132, .iload_n 3, 1), (133, .iaload, 1), (134, .ldc 18, 2), (136, .if_icmp .ge 12, 3), (139, .aload_n 0, 1), (140, .getfield 9, 3), (143, .iload_n 3, 1), (144, .iaload, 1), (145, .goto 4, 3), (148, .iconst (-1), 1), (149, .ireturn, 1)]
theorem kdX10_stepsOf_125 : dkO cX10_stepsOf 125 ldX10_stepsOf_125 = true := by decide +kernel
theorem dX10_stepsOf_125 : decode cX10_stepsOf 125 = .ok (.ifCond .eq 23, 3) := dk_i kdX10_stepsOf_125 0 rfl
theorem dX10_stepsOf_128 : decode cX10_stepsOf 128 = .ok (.aload_n 0, 1) := dk_i kdX10_stepsOf_125 1 rfl
theorem dX10_stepsOf_129 : decode cX10_stepsOf 129 = .ok (.getfield 9, 3) := dk_i kdX10_stepsOf_125 2 rfl
theorem dX10_stepsOf_132 : decode cX10_stepsOf 132 = .ok (.iload_n 3, 1) := dk_i kdX10_stepsOf_125 3 rfl
theorem dX10_stepsOf_133 : decode cX10_stepsOf 133 = .ok (.iaload, 1) := dk_i kdX10_stepsOf_125 4 rfl
theorem dX10_stepsOf_134 : decode cX10_stepsOf 134 = .ok (.ldc 18, 2) := dk_i kdX10_stepsOf_125 5 rfl
theorem dX10_stepsOf_136 : decode cX10_stepsOf 136 = .ok (.if_icmp .ge 12, 3) := dk_i kdX10_stepsOf_125 6 rfl
theorem dX10_stepsOf_139 : decode cX10_stepsOf 139 = .ok (.aload_n 0, 1) := dk_i kdX10_stepsOf_125 7 rfl
theorem dX10_stepsOf_140 : decode cX10_stepsOf 140 = .ok (.getfield 9, 3) := dk_i kdX10_stepsOf_125 8 rfl
theorem dX10_stepsOf_143 : decode cX10_stepsOf 143 = .ok (.iload_n 3, 1) := dk_i kdX10_stepsOf_125 9 rfl
theorem dX10_stepsOf_144 : decode cX10_stepsOf 144 = .ok (.iaload, 1) := dk_i kdX10_stepsOf_125 10 rfl
theorem dX10_stepsOf_145 : decode cX10_stepsOf 145 = .ok (.goto 4, 3) := dk_i kdX10_stepsOf_125 11 rfl
theorem dX10_stepsOf_148 : decode cX10_stepsOf 148 = .ok (.iconst (-1), 1) := dk_i kdX10_stepsOf_125 12 rfl
theorem dX10_stepsOf_149 : decode cX10_stepsOf 149 = .ok (.ireturn, 1) := dk_i kdX10_stepsOf_125 13 rfl
def ldX10_shorten_0 : List (Nat × ClassFile.Instr × Nat) := [(0, .aload_n 0, 1), (1, .getfield 9, 3), (4, .iload_n 2, 1), (5, .aload_n 0, 1), (6, .getfield 9, 3), (9, .iload_n 2, 1), (10, .iaload, 1), (11, .aload_n 0, 1), (12, .getfield 9, 3), (15, .iload_n 1, 1), (16, .iaload, 1), (17, .iload_n 3, 1), (18, .iadd, 1), (19, .invokestatic 45, 3), (22, .iastore, 1), (23, .return_, 1)]
theorem kdX10_shorten_0 : dkO cX10_shorten 0 ldX10_shorten_0 = true := by decide +kernel
theorem dX10_shorten_0 : decode cX10_shorten 0 = .ok (.aload_n 0, 1) := dk_i kdX10_shorten_0 0 rfl
theorem dX10_shorten_1 : decode cX10_shorten 1 = .ok (.getfield 9, 3) := dk_i kdX10_shorten_0 1 rfl
theorem dX10_shorten_4 : decode cX10_shorten 4 = .ok (.iload_n 2, 1) := dk_i kdX10_shorten_0 2 rfl
theorem dX10_shorten_5 : decode cX10_shorten 5 = .ok (.aload_n 0, 1) := dk_i kdX10_shorten_0 3 rfl
theorem dX10_shorten_6 : decode cX10_shorten 6 = .ok (.getfield 9, 3) := dk_i kdX10_shorten_0 4 rfl
theorem dX10_shorten_9 : decode cX10_shorten 9 = .ok (.iload_n 2, 1) := dk_i kdX10_shorten_0 5 rfl
theorem dX10_shorten_10 : decode cX10_shorten 10 = .ok (.iaload, 1) := dk_i kdX10_shorten_0 6 rfl
theorem dX10_shorten_11 : decode cX10_shorten 11 = .ok (.aload_n 0, 1) := dk_i kdX10_shorten_0 7 rfl
theorem dX10_shorten_12 : decode cX10_shorten 12 = .ok (.getfield 9, 3) := dk_i kdX10_shorten_0 8 rfl
theorem dX10_shorten_15 : decode cX10_shorten 15 = .ok (.iload_n 1, 1) := dk_i kdX10_shorten_0 9 rfl
theorem dX10_shorten_16 : decode cX10_shorten 16 = .ok (.iaload, 1) := dk_i kdX10_shorten_0 10 rfl
theorem dX10_shorten_17 : decode cX10_shorten 17 = .ok (.iload_n 3, 1) := dk_i kdX10_shorten_0 11 rfl
theorem dX10_shorten_18 : decode cX10_shorten 18 = .ok (.iadd, 1) := dk_i kdX10_shorten_0 12 rfl
theorem dX10_shorten_19 : decode cX10_shorten 19 = .ok (.invokestatic 45, 3) := dk_i kdX10_shorten_0 13 rfl
theorem dX10_shorten_22 : decode cX10_shorten 22 = .ok (.iastore, 1) := dk_i kdX10_shorten_0 14 rfl
theorem dX10_shorten_23 : decode cX10_shorten 23 = .ok (.return_, 1) := dk_i kdX10_shorten_0 15 rfl
def ldX10_goOutFrom_0 : List (Nat × ClassFile.Instr × Nat) := [(0, .aload_n 0, 1), (1, .getfield 15, 3), (4, .iconst 0, 1), (5, .iconst 1, 1), (6, .iload_n 2, 1), (7, .ishl, 1), (8, .iastore, 1), (9, .iconst 1, 1), (10, .istore_n 3, 1), (11, .iload_n 3, 1), (12, .bipush 60, 2), (14, .if_icmp .gt 72, 3), (17, .aload_n 0, 1), (18, .getfield 15, 3), (21, .iload_n 3, 1), (22, .iconst 0, 1)]
theorem kdX10_goOutFrom_0 : dkO cX10_goOutFrom 0 ldX10_goOutFrom_0 = true := by decide +kernel
theorem dX10_goOutFrom_0 : decode cX10_goOutFrom 0 = .ok (.aload_n 0, 1) := dk_i kdX10_goOutFrom_0 0 rfl
theorem dX10_goOutFrom_1 : decode cX10_goOutFrom 1 = .ok (.getfield 15, 3) := dk_i kdX10_goOutFrom_0 1 rfl
theorem dX10_goOutFrom_4 : decode cX10_goOutFrom 4 = .ok (.iconst 0, 1) := dk_i kdX10_goOutFrom_0 2 rfl
theorem dX10_goOutFrom_5 : decode cX10_goOutFrom 5 = .ok (.iconst 1, 1) := dk_i kdX10_goOutFrom_0 3 rfl
theorem dX10_goOutFrom_6 : decode cX10_goOutFrom 6 = .ok (.iload_n 2, 1) := dk_i kdX10_goOutFrom_0 4 rfl
theorem dX10_goOutFrom_7 : decode cX10_goOutFrom 7 = .ok (.ishl, 1) := dk_i kdX10_goOutFrom_0 5 rfl
theorem dX10_goOutFrom_8 : decode cX10_goOutFrom 8 = .ok (.iastore, 1) := dk_i kdX10_goOutFrom_0 6 rfl
theorem dX10_goOutFrom_9 : decode cX10_goOutFrom 9 = .ok (.iconst 1, 1) := dk_i kdX10_goOutFrom_0 7 rfl
theorem dX10_goOutFrom_10 : decode cX10_goOutFrom 10 = .ok (.istore_n 3, 1) := dk_i kdX10_goOutFrom_0 8 rfl
theorem dX10_goOutFrom_11 : decode cX10_goOutFrom 11 = .ok (.iload_n 3, 1) := dk_i kdX10_goOutFrom_0 9 rfl
theorem dX10_goOutFrom_12 : decode cX10_goOutFrom 12 = .ok (.bipush 60, 2) := dk_i kdX10_goOutFrom_0 10 rfl
theorem dX10_goOutFrom_14 : decode cX10_goOutFrom 14 = .ok (.if_icmp .gt 72, 3) := dk_i kdX10_goOutFrom_0 11 rfl
theorem dX10_goOutFrom_17 : decode cX10_goOutFrom 17 = .ok (.aload_n 0, 1) := dk_i kdX10_goOutFrom_0 12 rfl
theorem dX10_goOutFrom_18 : decode cX10_goOutFrom 18 = .ok (.getfield 15, 3) := dk_i kdX10_goOutFrom_0 13 rfl
theorem dX10_goOutFrom_21 : decode cX10_goOutFrom 21 = .ok (.iload_n 3, 1) := dk_i kdX10_goOutFrom_0 14 rfl
theorem dX10_goOutFrom_22 : decode cX10_goOutFrom 22 = .ok (.iconst 0, 1) := dk_i kdX10_goOutFrom_0 15 rfl
def ldX10_goOutFrom_23 : List (Nat × ClassFile.Instr × Nat) := [(23, .iastore, 1), (24, .iconst 0, 1), (25, .istore 4, 2), (27, .iload 4, 2), (29, .aload_n 1, 1), (30, .getfield 25, 3), (33, .if_icmp .ge 47, 3), (36, .iload_n 3, 1), (37, .aload_n 1, 1), (38, .getfield 34, 3), (41, .iload 4, 2), (43, .iaload, 1), (44, .isub, 1), (45, .istore 5, 2), (47, .iload 5, 2), (49, .ifCond .lt 25, 3)]
theorem kdX10_goOutFrom_23 : dkO cX10_goOutFrom 23 ldX10_goOutFrom_23 = true := by decide +kernel
theorem dX10_goOutFrom_23 : decode cX10_goOutFrom 23 = .ok (.iastore, 1) := dk_i kdX10_goOutFrom_23 0 rfl
theorem dX10_goOutFrom_24 : decode cX10_goOutFrom 24 = .ok (.iconst 0, 1) := dk_i kdX10_goOutFrom_23 1 rfl
theorem dX10_goOutFrom_25 : decode cX10_goOutFrom 25 = .ok (.istore 4, 2) := dk_i kdX10_goOutFrom_23 2 rfl
theorem dX10_goOutFrom_27 : decode cX10_goOutFrom 27 = .ok (.iload 4, 2) := dk_i kdX10_goOutFrom_23 3 rfl
theorem dX10_goOutFrom_29 : decode cX10_goOutFrom 29 = .ok (.aload_n 1, 1) := dk_i kdX10_goOutFrom_23 4 rfl
theorem dX10_goOutFrom_30 : decode cX10_goOutFrom 30 = .ok (.getfield 25, 3) := dk_i kdX10_goOutFrom_23 5 rfl
theorem dX10_goOutFrom_33 : decode cX10_goOutFrom 33 = .ok (.if_icmp .ge 47, 3) := dk_i kdX10_goOutFrom_23 6 rfl
theorem dX10_goOutFrom_36 : decode cX10_goOutFrom 36 = .ok (.iload_n 3, 1) := dk_i kdX10_goOutFrom_23 7 rfl
theorem dX10_goOutFrom_37 : decode cX10_goOutFrom 37 = .ok (.aload_n 1, 1) := dk_i kdX10_goOutFrom_23 8 rfl
theorem dX10_goOutFrom_38 : decode cX10_goOutFrom 38 = .ok (.getfield 34, 3) := dk_i kdX10_goOutFrom_23 9 rfl
theorem dX10_goOutFrom_41 : decode cX10_goOutFrom 41 = .ok (.iload 4, 2) := dk_i kdX10_goOutFrom_23 10 rfl
theorem dX10_goOutFrom_43 : decode cX10_goOutFrom 43 = .ok (.iaload, 1) := dk_i kdX10_goOutFrom_23 11 rfl
theorem dX10_goOutFrom_44 : decode cX10_goOutFrom 44 = .ok (.isub, 1) := dk_i kdX10_goOutFrom_23 12 rfl
theorem dX10_goOutFrom_45 : decode cX10_goOutFrom 45 = .ok (.istore 5, 2) := dk_i kdX10_goOutFrom_23 13 rfl
theorem dX10_goOutFrom_47 : decode cX10_goOutFrom 47 = .ok (.iload 5, 2) := dk_i kdX10_goOutFrom_23 14 rfl
theorem dX10_goOutFrom_49 : decode cX10_goOutFrom 49 = .ok (.ifCond .lt 25, 3) := dk_i kdX10_goOutFrom_23 15 rfl
def ldX10_goOutFrom_52 : List (Nat × ClassFile.Instr × Nat) := [(52, .aload_n 0, 1), (53, .getfield 15, 3), (56, .iload_n 3, 1), (57, .dup2, 1), (58, .iaload, 1), (59, .aload_n 1, 1), (60, .iload 4, 2), (62, .aload_n 0, 1), (63, .getfield 15, 3), (66, .iload 5, 2), (68, .iaload, 1), (69, .invokestatic 51, 3), (72, .ior, 1), (73, .iastore, 1), (74, .iinc 4 1, 3), (77, .goto (-50), 3)]
theorem kdX10_goOutFrom_52 : dkO cX10_goOutFrom 52 ldX10_goOutFrom_52 = true := by decide +kernel
theorem dX10_goOutFrom_52 : decode cX10_goOutFrom 52 = .ok (.aload_n 0, 1) := dk_i kdX10_goOutFrom_52 0 rfl
theorem dX10_goOutFrom_53 : decode cX10_goOutFrom 53 = .ok (.getfield 15, 3) := dk_i kdX10_goOutFrom_52 1 rfl
theorem dX10_goOutFrom_56 : decode cX10_goOutFrom 56 = .ok (.iload_n 3, 1) := dk_i kdX10_goOutFrom_52 2 rfl
theorem dX10_goOutFrom_57 : decode cX10_goOutFrom 57 = .ok (.dup2, 1) := dk_i kdX10_goOutFrom_52 3 rfl
theorem dX10_goOutFrom_58 : decode cX10_goOutFrom 58 = .ok (.iaload, 1) := dk_i kdX10_goOutFrom_52 4 rfl
theorem dX10_goOutFrom_59 : decode cX10_goOutFrom 59 = .ok (.aload_n 1, 1) := dk_i kdX10_goOutFrom_52 5 rfl
theorem dX10_goOutFrom_60 : decode cX10_goOutFrom 60 = .ok (.iload 4, 2) := dk_i kdX10_goOutFrom_52 6 rfl
theorem dX10_goOutFrom_62 : decode cX10_goOutFrom 62 = .ok (.aload_n 0, 1) := dk_i kdX10_goOutFrom_52 7 rfl
theorem dX10_goOutFrom_63 : decode cX10_goOutFrom 63 = .ok (.getfield 15, 3) := dk_i kdX10_goOutFrom_52 8 rfl
theorem dX10_goOutFrom_66 : decode cX10_goOutFrom 66 = .ok (.iload 5, 2) := dk_i kdX10_goOutFrom_52 9 rfl
theorem dX10_goOutFrom_68 : decode cX10_goOutFrom 68 = .ok (.iaload, 1) := dk_i kdX10_goOutFrom_52 10 rfl
theorem dX10_goOutFrom_69 : decode cX10_goOutFrom 69 = .ok (.invokestatic 51, 3) := dk_i kdX10_goOutFrom_52 11 rfl
theorem dX10_goOutFrom_72 : decode cX10_goOutFrom 72 = .ok (.ior, 1) := dk_i kdX10_goOutFrom_52 12 rfl
theorem dX10_goOutFrom_73 : decode cX10_goOutFrom 73 = .ok (.iastore, 1) := dk_i kdX10_goOutFrom_52 13 rfl
theorem dX10_goOutFrom_74 : decode cX10_goOutFrom 74 = .ok (.iinc 4 1, 3) := dk_i kdX10_goOutFrom_52 14 rfl
theorem dX10_goOutFrom_77 : decode cX10_goOutFrom 77 = .ok (.goto (-50), 3) := dk_i kdX10_goOutFrom_52 15 rfl
def ldX10_goOutFrom_80 : List (Nat × ClassFile.Instr × Nat) := [(80, .iinc 3 1, 3), (83, .goto (-72), 3), (86, .return_, 1)]
theorem kdX10_goOutFrom_80 : dkO cX10_goOutFrom 80 ldX10_goOutFrom_80 = true := by decide +kernel
theorem dX10_goOutFrom_80 : decode cX10_goOutFrom 80 = .ok (.iinc 3 1, 3) := dk_i kdX10_goOutFrom_80 0 rfl
theorem dX10_goOutFrom_83 : decode cX10_goOutFrom 83 = .ok (.goto (-72), 3) := dk_i kdX10_goOutFrom_80 1 rfl
theorem dX10_goOutFrom_86 : decode cX10_goOutFrom 86 = .ok (.return_, 1) := dk_i kdX10_goOutFrom_80 2 rfl
def ldX10_across_0 : List (Nat × ClassFile.Instr × Nat) := [(0, .aload_n 0, 1), (1, .getfield 28, 3), (4, .iload_n 1, 1), (5, .iaload, 1), (6, .istore_n 3, 1), (7, .aload_n 0, 1), (8, .getfield 31, 3), (11, .iload_n 1, 1), (12, .iaload, 1), (13, .istore 4, 2), (15, .iload_n 2, 1), (16, .iload_n 3, 1), (17, .ishr, 1), (18, .iconst 1, 1), (19, .iand, 1), (20, .iload 4, 2)]
theorem kdX10_across_0 : dkO cX10_across 0 ldX10_across_0 = true := by decide +kernel
theorem dX10_across_0 : decode cX10_across 0 = .ok (.aload_n 0, 1) := dk_i kdX10_across_0 0 rfl
theorem dX10_across_1 : decode cX10_across 1 = .ok (.getfield 28, 3) := dk_i kdX10_across_0 1 rfl
theorem dX10_across_4 : decode cX10_across 4 = .ok (.iload_n 1, 1) := dk_i kdX10_across_0 2 rfl
theorem dX10_across_5 : decode cX10_across 5 = .ok (.iaload, 1) := dk_i kdX10_across_0 3 rfl
theorem dX10_across_6 : decode cX10_across 6 = .ok (.istore_n 3, 1) := dk_i kdX10_across_0 4 rfl
theorem dX10_across_7 : decode cX10_across 7 = .ok (.aload_n 0, 1) := dk_i kdX10_across_0 5 rfl
theorem dX10_across_8 : decode cX10_across 8 = .ok (.getfield 31, 3) := dk_i kdX10_across_0 6 rfl
theorem dX10_across_11 : decode cX10_across 11 = .ok (.iload_n 1, 1) := dk_i kdX10_across_0 7 rfl
theorem dX10_across_12 : decode cX10_across 12 = .ok (.iaload, 1) := dk_i kdX10_across_0 8 rfl
theorem dX10_across_13 : decode cX10_across 13 = .ok (.istore 4, 2) := dk_i kdX10_across_0 9 rfl
theorem dX10_across_15 : decode cX10_across 15 = .ok (.iload_n 2, 1) := dk_i kdX10_across_0 10 rfl
theorem dX10_across_16 : decode cX10_across 16 = .ok (.iload_n 3, 1) := dk_i kdX10_across_0 11 rfl
theorem dX10_across_17 : decode cX10_across 17 = .ok (.ishr, 1) := dk_i kdX10_across_0 12 rfl
theorem dX10_across_18 : decode cX10_across 18 = .ok (.iconst 1, 1) := dk_i kdX10_across_0 13 rfl
theorem dX10_across_19 : decode cX10_across 19 = .ok (.iand, 1) := dk_i kdX10_across_0 14 rfl
theorem dX10_across_20 : decode cX10_across 20 = .ok (.iload 4, 2) := dk_i kdX10_across_0 15 rfl
def ldX10_across_22 : List (Nat × ClassFile.Instr × Nat) := [(22, .ishl, 1), (23, .iload_n 2, 1), (24, .iload 4, 2), (26, .ishr, 1), (27, .iconst 1, 1), (28, .iand, 1), (29, .iload_n 3, 1), (30, .ishl, 1), (31, .ior, 1), (32, .ireturn, 1)]
theorem kdX10_across_22 : dkO cX10_across 22 ldX10_across_22 = true := by decide +kernel
theorem dX10_across_22 : decode cX10_across 22 = .ok (.ishl, 1) := dk_i kdX10_across_22 0 rfl
theorem dX10_across_23 : decode cX10_across 23 = .ok (.iload_n 2, 1) := dk_i kdX10_across_22 1 rfl
theorem dX10_across_24 : decode cX10_across 24 = .ok (.iload 4, 2) := dk_i kdX10_across_22 2 rfl
theorem dX10_across_26 : decode cX10_across 26 = .ok (.ishr, 1) := dk_i kdX10_across_22 3 rfl
theorem dX10_across_27 : decode cX10_across 27 = .ok (.iconst 1, 1) := dk_i kdX10_across_22 4 rfl
theorem dX10_across_28 : decode cX10_across 28 = .ok (.iand, 1) := dk_i kdX10_across_22 5 rfl
theorem dX10_across_29 : decode cX10_across 29 = .ok (.iload_n 3, 1) := dk_i kdX10_across_22 6 rfl
theorem dX10_across_30 : decode cX10_across 30 = .ok (.ishl, 1) := dk_i kdX10_across_22 7 rfl
theorem dX10_across_31 : decode cX10_across 31 = .ok (.ior, 1) := dk_i kdX10_across_22 8 rfl
theorem dX10_across_32 : decode cX10_across 32 = .ok (.ireturn, 1) := dk_i kdX10_across_22 9 rfl
def ldX10_canBeAt_0 : List (Nat × ClassFile.Instr × Nat) := [(0, .iload_n 2, 1), (1, .ifCond .lt 27, 3), (4, .iload_n 2, 1), (5, .bipush 60, 2), (7, .if_icmp .gt 21, 3), (10, .aload_n 0, 1), (11, .getfield 15, 3), (14, .iload_n 2, 1), (15, .iaload, 1), (16, .iload_n 1, 1), (17, .ishr, 1), (18, .iconst 1, 1), (19, .iand, 1), (20, .iconst 1, 1), (21, .if_icmp .ne 7, 3), (24, .iconst 1, 1)]
theorem kdX10_canBeAt_0 : dkO cX10_canBeAt 0 ldX10_canBeAt_0 = true := by decide +kernel
theorem dX10_canBeAt_0 : decode cX10_canBeAt 0 = .ok (.iload_n 2, 1) := dk_i kdX10_canBeAt_0 0 rfl
theorem dX10_canBeAt_1 : decode cX10_canBeAt 1 = .ok (.ifCond .lt 27, 3) := dk_i kdX10_canBeAt_0 1 rfl
theorem dX10_canBeAt_4 : decode cX10_canBeAt 4 = .ok (.iload_n 2, 1) := dk_i kdX10_canBeAt_0 2 rfl
theorem dX10_canBeAt_5 : decode cX10_canBeAt 5 = .ok (.bipush 60, 2) := dk_i kdX10_canBeAt_0 3 rfl
theorem dX10_canBeAt_7 : decode cX10_canBeAt 7 = .ok (.if_icmp .gt 21, 3) := dk_i kdX10_canBeAt_0 4 rfl
theorem dX10_canBeAt_10 : decode cX10_canBeAt 10 = .ok (.aload_n 0, 1) := dk_i kdX10_canBeAt_0 5 rfl
theorem dX10_canBeAt_11 : decode cX10_canBeAt 11 = .ok (.getfield 15, 3) := dk_i kdX10_canBeAt_0 6 rfl
theorem dX10_canBeAt_14 : decode cX10_canBeAt 14 = .ok (.iload_n 2, 1) := dk_i kdX10_canBeAt_0 7 rfl
theorem dX10_canBeAt_15 : decode cX10_canBeAt 15 = .ok (.iaload, 1) := dk_i kdX10_canBeAt_0 8 rfl
theorem dX10_canBeAt_16 : decode cX10_canBeAt 16 = .ok (.iload_n 1, 1) := dk_i kdX10_canBeAt_0 9 rfl
theorem dX10_canBeAt_17 : decode cX10_canBeAt 17 = .ok (.ishr, 1) := dk_i kdX10_canBeAt_0 10 rfl
theorem dX10_canBeAt_18 : decode cX10_canBeAt 18 = .ok (.iconst 1, 1) := dk_i kdX10_canBeAt_0 11 rfl
theorem dX10_canBeAt_19 : decode cX10_canBeAt 19 = .ok (.iand, 1) := dk_i kdX10_canBeAt_0 12 rfl
theorem dX10_canBeAt_20 : decode cX10_canBeAt 20 = .ok (.iconst 1, 1) := dk_i kdX10_canBeAt_0 13 rfl
theorem dX10_canBeAt_21 : decode cX10_canBeAt 21 = .ok (.if_icmp .ne 7, 3) := dk_i kdX10_canBeAt_0 14 rfl
theorem dX10_canBeAt_24 : decode cX10_canBeAt 24 = .ok (.iconst 1, 1) := dk_i kdX10_canBeAt_0 15 rfl
def ldX10_canBeAt_25 : List (Nat × ClassFile.Instr × Nat) := [(25, .goto 4, 3), (28, .iconst 0, 1), (29, .ireturn, 1)]
theorem kdX10_canBeAt_25 : dkO cX10_canBeAt 25 ldX10_canBeAt_25 = true := by decide +kernel
theorem dX10_canBeAt_25 : decode cX10_canBeAt 25 = .ok (.goto 4, 3) := dk_i kdX10_canBeAt_25 0 rfl
theorem dX10_canBeAt_28 : decode cX10_canBeAt 28 = .ok (.iconst 0, 1) := dk_i kdX10_canBeAt_25 1 rfl
theorem dX10_canBeAt_29 : decode cX10_canBeAt 29 = .ok (.ireturn, 1) := dk_i kdX10_canBeAt_25 2 rfl
end
