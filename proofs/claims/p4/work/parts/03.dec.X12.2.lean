theorem dX12_begin_83 : decode cX12_begin 83 = .ok (.pop, 1) := by decide +kernel
theorem dX12_begin_84 : decode cX12_begin 84 = .ok (.return_, 1) := by decide +kernel
theorem dX12_slot_0 : decode cX12_slot 0 = .ok (.iconst 2, 1) := by decide +kernel
theorem dX12_slot_1 : decode cX12_slot 1 = .ok (.aload_n 0, 1) := by decide +kernel
theorem dX12_slot_2 : decode cX12_slot 2 = .ok (.getfield 174, 3) := by decide +kernel
theorem dX12_slot_5 : decode cX12_slot 5 = .ok (.iload_n 1, 1) := by decide +kernel
theorem dX12_slot_6 : decode cX12_slot 6 = .ok (.iadd, 1) := by decide +kernel
theorem dX12_slot_7 : decode cX12_slot 7 = .ok (.bipush 20, 2) := by decide +kernel
theorem dX12_slot_9 : decode cX12_slot 9 = .ok (.irem, 1) := by decide +kernel
theorem dX12_slot_10 : decode cX12_slot 10 = .ok (.iadd, 1) := by decide +kernel
theorem dX12_slot_11 : decode cX12_slot 11 = .ok (.ireturn, 1) := by decide +kernel
theorem dX12_keeps_0 : decode cX12_keeps 0 = .ok (.aload_n 0, 1) := by decide +kernel
theorem dX12_keeps_1 : decode cX12_keeps 1 = .ok (.getfield 177, 3) := by decide +kernel
theorem dX12_keeps_4 : decode cX12_keeps 4 = .ok (.bipush 20, 2) := by decide +kernel
theorem dX12_keeps_6 : decode cX12_keeps 6 = .ok (.if_icmp .ne 26, 3) := by decide +kernel
theorem dX12_keeps_9 : decode cX12_keeps 9 = .ok (.aload_n 0, 1) := by decide +kernel
theorem dX12_keeps_10 : decode cX12_keeps 10 = .ok (.aload_n 0, 1) := by decide +kernel
theorem dX12_keeps_11 : decode cX12_keeps 11 = .ok (.getfield 174, 3) := by decide +kernel
theorem dX12_keeps_14 : decode cX12_keeps 14 = .ok (.iconst 1, 1) := by decide +kernel
theorem dX12_keeps_15 : decode cX12_keeps 15 = .ok (.iadd, 1) := by decide +kernel
theorem dX12_keeps_16 : decode cX12_keeps 16 = .ok (.bipush 20, 2) := by decide +kernel
theorem dX12_keeps_18 : decode cX12_keeps 18 = .ok (.irem, 1) := by decide +kernel
theorem dX12_keeps_19 : decode cX12_keeps 19 = .ok (.putfield 174, 3) := by decide +kernel
theorem dX12_keeps_22 : decode cX12_keeps 22 = .ok (.aload_n 0, 1) := by decide +kernel
theorem dX12_keeps_23 : decode cX12_keeps 23 = .ok (.dup, 1) := by decide +kernel
theorem dX12_keeps_24 : decode cX12_keeps 24 = .ok (.getfield 177, 3) := by decide +kernel
theorem dX12_keeps_27 : decode cX12_keeps 27 = .ok (.iconst 1, 1) := by decide +kernel
theorem dX12_keeps_28 : decode cX12_keeps 28 = .ok (.isub, 1) := by decide +kernel
theorem dX12_keeps_29 : decode cX12_keeps 29 = .ok (.putfield 177, 3) := by decide +kernel
theorem dX12_keeps_32 : decode cX12_keeps 32 = .ok (.aload_n 0, 1) := by decide +kernel
theorem dX12_keeps_33 : decode cX12_keeps 33 = .ok (.aload_n 0, 1) := by decide +kernel
theorem dX12_keeps_34 : decode cX12_keeps 34 = .ok (.aload_n 0, 1) := by decide +kernel
theorem dX12_keeps_35 : decode cX12_keeps 35 = .ok (.getfield 177, 3) := by decide +kernel
theorem dX12_keeps_38 : decode cX12_keeps 38 = .ok (.invokevirtual 415, 3) := by decide +kernel
theorem dX12_keeps_41 : decode cX12_keeps 41 = .ok (.iconst 0, 1) := by decide +kernel
theorem dX12_keeps_42 : decode cX12_keeps 42 = .ok (.invokevirtual 418, 3) := by decide +kernel
theorem dX12_keeps_45 : decode cX12_keeps 45 = .ok (.aload_n 0, 1) := by decide +kernel
theorem dX12_keeps_46 : decode cX12_keeps 46 = .ok (.dup, 1) := by decide +kernel
theorem dX12_keeps_47 : decode cX12_keeps 47 = .ok (.getfield 177, 3) := by decide +kernel
theorem dX12_keeps_50 : decode cX12_keeps 50 = .ok (.iconst 1, 1) := by decide +kernel
theorem dX12_keeps_51 : decode cX12_keeps 51 = .ok (.iadd, 1) := by decide +kernel
theorem dX12_keeps_52 : decode cX12_keeps 52 = .ok (.putfield 177, 3) := by decide +kernel
theorem dX12_keeps_55 : decode cX12_keeps 55 = .ok (.return_, 1) := by decide +kernel
theorem dX12_undo_0 : decode cX12_undo 0 = .ok (.aload_n 0, 1) := by decide +kernel
theorem dX12_undo_1 : decode cX12_undo 1 = .ok (.getfield 177, 3) := by decide +kernel
theorem dX12_undo_4 : decode cX12_undo 4 = .ok (.ifCond .ne 17, 3) := by decide +kernel
theorem dX12_undo_7 : decode cX12_undo 7 = .ok (.aload_n 0, 1) := by decide +kernel
theorem dX12_undo_8 : decode cX12_undo 8 = .ok (.iconst 4, 1) := by decide +kernel
theorem dX12_undo_9 : decode cX12_undo 9 = .ok (.invokevirtual 219, 3) := by decide +kernel
theorem dX12_undo_12 : decode cX12_undo 12 = .ok (.ifCond .lt 7, 3) := by decide +kernel
theorem dX12_undo_15 : decode cX12_undo 15 = .ok (.iconst 1, 1) := by decide +kernel
theorem dX12_undo_16 : decode cX12_undo 16 = .ok (.goto 4, 3) := by decide +kernel
theorem dX12_undo_19 : decode cX12_undo 19 = .ok (.iconst 0, 1) := by decide +kernel
theorem dX12_undo_20 : decode cX12_undo 20 = .ok (.ireturn, 1) := by decide +kernel
theorem dX12_undo_21 : decode cX12_undo 21 = .ok (.aload_n 0, 1) := by decide +kernel
theorem dX12_undo_22 : decode cX12_undo 22 = .ok (.dup, 1) := by decide +kernel
theorem dX12_undo_23 : decode cX12_undo 23 = .ok (.getfield 177, 3) := by decide +kernel
theorem dX12_undo_26 : decode cX12_undo 26 = .ok (.iconst 1, 1) := by decide +kernel
theorem dX12_undo_27 : decode cX12_undo 27 = .ok (.isub, 1) := by decide +kernel
theorem dX12_undo_28 : decode cX12_undo 28 = .ok (.putfield 177, 3) := by decide +kernel
theorem dX12_undo_31 : decode cX12_undo 31 = .ok (.aload_n 0, 1) := by decide +kernel
theorem dX12_undo_32 : decode cX12_undo 32 = .ok (.iconst 0, 1) := by decide +kernel
theorem dX12_undo_33 : decode cX12_undo 33 = .ok (.aload_n 0, 1) := by decide +kernel
theorem dX12_undo_34 : decode cX12_undo 34 = .ok (.aload_n 0, 1) := by decide +kernel
theorem dX12_undo_35 : decode cX12_undo 35 = .ok (.getfield 177, 3) := by decide +kernel
theorem dX12_undo_38 : decode cX12_undo 38 = .ok (.invokevirtual 415, 3) := by decide +kernel
theorem dX12_undo_41 : decode cX12_undo 41 = .ok (.invokevirtual 418, 3) := by decide +kernel
theorem dX12_undo_44 : decode cX12_undo 44 = .ok (.iconst 1, 1) := by decide +kernel
theorem dX12_undo_45 : decode cX12_undo 45 = .ok (.ireturn, 1) := by decide +kernel
theorem dX12_within_0 : decode cX12_within 0 = .ok (.lload_n 0, 1) := by decide +kernel
theorem dX12_within_1 : decode cX12_within 1 = .ok (.ldc2_w 421, 3) := by decide +kernel
theorem dX12_within_4 : decode cX12_within 4 = .ok (.lcmp, 1) := by decide +kernel
theorem dX12_within_5 : decode cX12_within 5 = .ok (.ifCond .le 9, 3) := by decide +kernel
theorem dX12_within_8 : decode cX12_within 8 = .ok (.ldc2_w 421, 3) := by decide +kernel
theorem dX12_within_11 : decode cX12_within 11 = .ok (.goto 18, 3) := by decide +kernel
theorem dX12_within_14 : decode cX12_within 14 = .ok (.lload_n 0, 1) := by decide +kernel
theorem dX12_within_15 : decode cX12_within 15 = .ok (.ldc2_w 423, 3) := by decide +kernel
theorem dX12_within_18 : decode cX12_within 18 = .ok (.lcmp, 1) := by decide +kernel
theorem dX12_within_19 : decode cX12_within 19 = .ok (.ifCond .ge 9, 3) := by decide +kernel
theorem dX12_within_22 : decode cX12_within 22 = .ok (.ldc2_w 423, 3) := by decide +kernel
theorem dX12_within_25 : decode cX12_within 25 = .ok (.goto 4, 3) := by decide +kernel
theorem dX12_within_28 : decode cX12_within 28 = .ok (.lload_n 0, 1) := by decide +kernel
theorem dX12_within_29 : decode cX12_within 29 = .ok (.lreturn, 1) := by decide +kernel
theorem dX12_floor_0 : decode cX12_floor 0 = .ok (.lload_n 2, 1) := by decide +kernel
theorem dX12_floor_1 : decode cX12_floor 1 = .ok (.lconst 0, 1) := by decide +kernel
theorem dX12_floor_2 : decode cX12_floor 2 = .ok (.lcmp, 1) := by decide +kernel
theorem dX12_floor_3 : decode cX12_floor 3 = .ok (.ifCond .ne 5, 3) := by decide +kernel
theorem dX12_floor_6 : decode cX12_floor 6 = .ok (.lconst 0, 1) := by decide +kernel
theorem dX12_floor_7 : decode cX12_floor 7 = .ok (.lreturn, 1) := by decide +kernel
theorem dX12_floor_8 : decode cX12_floor 8 = .ok (.lload_n 0, 1) := by decide +kernel
theorem dX12_floor_9 : decode cX12_floor 9 = .ok (.lload_n 2, 1) := by decide +kernel
theorem dX12_floor_10 : decode cX12_floor 10 = .ok (.ldiv, 1) := by decide +kernel
theorem dX12_floor_11 : decode cX12_floor 11 = .ok (.lstore 4, 2) := by decide +kernel
theorem dX12_floor_13 : decode cX12_floor 13 = .ok (.lload_n 0, 1) := by decide +kernel
theorem dX12_floor_14 : decode cX12_floor 14 = .ok (.lload_n 2, 1) := by decide +kernel
theorem dX12_floor_15 : decode cX12_floor 15 = .ok (.lrem, 1) := by decide +kernel
theorem dX12_floor_16 : decode cX12_floor 16 = .ok (.lconst 0, 1) := by decide +kernel
theorem dX12_floor_17 : decode cX12_floor 17 = .ok (.lcmp, 1) := by decide +kernel
theorem dX12_floor_18 : decode cX12_floor 18 = .ok (.ifCond .eq 35, 3) := by decide +kernel
theorem dX12_floor_21 : decode cX12_floor 21 = .ok (.lload_n 0, 1) := by decide +kernel
theorem dX12_floor_22 : decode cX12_floor 22 = .ok (.lconst 0, 1) := by decide +kernel
theorem dX12_floor_23 : decode cX12_floor 23 = .ok (.lcmp, 1) := by decide +kernel
theorem dX12_floor_24 : decode cX12_floor 24 = .ok (.ifCond .ge 7, 3) := by decide +kernel
theorem dX12_floor_27 : decode cX12_floor 27 = .ok (.iconst 1, 1) := by decide +kernel
theorem dX12_floor_28 : decode cX12_floor 28 = .ok (.goto 4, 3) := by decide +kernel
theorem dX12_floor_31 : decode cX12_floor 31 = .ok (.iconst 0, 1) := by decide +kernel
theorem dX12_floor_32 : decode cX12_floor 32 = .ok (.lload_n 2, 1) := by decide +kernel
theorem dX12_floor_33 : decode cX12_floor 33 = .ok (.lconst 0, 1) := by decide +kernel
theorem dX12_floor_34 : decode cX12_floor 34 = .ok (.lcmp, 1) := by decide +kernel
theorem dX12_floor_35 : decode cX12_floor 35 = .ok (.ifCond .ge 7, 3) := by decide +kernel
theorem dX12_floor_38 : decode cX12_floor 38 = .ok (.iconst 1, 1) := by decide +kernel
theorem dX12_floor_39 : decode cX12_floor 39 = .ok (.goto 4, 3) := by decide +kernel
theorem dX12_floor_42 : decode cX12_floor 42 = .ok (.iconst 0, 1) := by decide +kernel
theorem dX12_floor_43 : decode cX12_floor 43 = .ok (.if_icmp .eq 10, 3) := by decide +kernel
theorem dX12_floor_46 : decode cX12_floor 46 = .ok (.lload 4, 2) := by decide +kernel
theorem dX12_floor_48 : decode cX12_floor 48 = .ok (.lconst 1, 1) := by decide +kernel
theorem dX12_floor_49 : decode cX12_floor 49 = .ok (.lsub, 1) := by decide +kernel
theorem dX12_floor_50 : decode cX12_floor 50 = .ok (.goto 5, 3) := by decide +kernel
theorem dX12_floor_53 : decode cX12_floor 53 = .ok (.lload 4, 2) := by decide +kernel
theorem dX12_floor_55 : decode cX12_floor 55 = .ok (.lreturn, 1) := by decide +kernel
theorem dX12_two_0 : decode cX12_two 0 = .ok (.iload_n 0, 1) := by decide +kernel
theorem dX12_two_1 : decode cX12_two 1 = .ok (.tableswitch 176 31 41 #[59, 66, 73, 80, 89, 112, 124, 136, 148, 160, 172], 59) := by decide +kernel
theorem dX12_two_60 : decode cX12_two 60 = .ok (.lload_n 1, 1) := by decide +kernel
theorem dX12_two_61 : decode cX12_two 61 = .ok (.lload_n 3, 1) := by decide +kernel
theorem dX12_two_62 : decode cX12_two 62 = .ok (.ladd, 1) := by decide +kernel
theorem dX12_two_63 : decode cX12_two 63 = .ok (.invokestatic 425, 3) := by decide +kernel
theorem dX12_two_66 : decode cX12_two 66 = .ok (.lreturn, 1) := by decide +kernel
theorem dX12_two_67 : decode cX12_two 67 = .ok (.lload_n 1, 1) := by decide +kernel
theorem dX12_two_68 : decode cX12_two 68 = .ok (.lload_n 3, 1) := by decide +kernel
theorem dX12_two_69 : decode cX12_two 69 = .ok (.lsub, 1) := by decide +kernel
theorem dX12_two_70 : decode cX12_two 70 = .ok (.invokestatic 425, 3) := by decide +kernel
theorem dX12_two_73 : decode cX12_two 73 = .ok (.lreturn, 1) := by decide +kernel
theorem dX12_two_74 : decode cX12_two 74 = .ok (.lload_n 1, 1) := by decide +kernel
theorem dX12_two_75 : decode cX12_two 75 = .ok (.lload_n 3, 1) := by decide +kernel
theorem dX12_two_76 : decode cX12_two 76 = .ok (.lmul, 1) := by decide +kernel
theorem dX12_two_77 : decode cX12_two 77 = .ok (.invokestatic 425, 3) := by decide +kernel
theorem dX12_two_80 : decode cX12_two 80 = .ok (.lreturn, 1) := by decide +kernel
theorem dX12_two_81 : decode cX12_two 81 = .ok (.lload_n 1, 1) := by decide +kernel
theorem dX12_two_82 : decode cX12_two 82 = .ok (.lload_n 3, 1) := by decide +kernel
theorem dX12_two_83 : decode cX12_two 83 = .ok (.invokestatic 429, 3) := by decide +kernel
theorem dX12_two_86 : decode cX12_two 86 = .ok (.invokestatic 425, 3) := by decide +kernel
theorem dX12_two_89 : decode cX12_two 89 = .ok (.lreturn, 1) := by decide +kernel
theorem dX12_two_90 : decode cX12_two 90 = .ok (.lload_n 3, 1) := by decide +kernel
theorem dX12_two_91 : decode cX12_two 91 = .ok (.lconst 0, 1) := by decide +kernel
theorem dX12_two_92 : decode cX12_two 92 = .ok (.lcmp, 1) := by decide +kernel
theorem dX12_two_93 : decode cX12_two 93 = .ok (.ifCond .ne 7, 3) := by decide +kernel
theorem dX12_two_96 : decode cX12_two 96 = .ok (.lconst 0, 1) := by decide +kernel
theorem dX12_two_97 : decode cX12_two 97 = .ok (.goto 15, 3) := by decide +kernel
theorem dX12_two_100 : decode cX12_two 100 = .ok (.lload_n 1, 1) := by decide +kernel
theorem dX12_two_101 : decode cX12_two 101 = .ok (.lload_n 3, 1) := by decide +kernel
theorem dX12_two_102 : decode cX12_two 102 = .ok (.lload_n 1, 1) := by decide +kernel
theorem dX12_two_103 : decode cX12_two 103 = .ok (.lload_n 3, 1) := by decide +kernel
theorem dX12_two_104 : decode cX12_two 104 = .ok (.invokestatic 429, 3) := by decide +kernel
theorem dX12_two_107 : decode cX12_two 107 = .ok (.lmul, 1) := by decide +kernel
theorem dX12_two_108 : decode cX12_two 108 = .ok (.lsub, 1) := by decide +kernel
theorem dX12_two_109 : decode cX12_two 109 = .ok (.invokestatic 425, 3) := by decide +kernel
theorem dX12_two_112 : decode cX12_two 112 = .ok (.lreturn, 1) := by decide +kernel
theorem dX12_two_113 : decode cX12_two 113 = .ok (.lload_n 1, 1) := by decide +kernel
theorem dX12_two_114 : decode cX12_two 114 = .ok (.lload_n 3, 1) := by decide +kernel
theorem dX12_two_115 : decode cX12_two 115 = .ok (.lcmp, 1) := by decide +kernel
theorem dX12_two_116 : decode cX12_two 116 = .ok (.ifCond .ge 7, 3) := by decide +kernel
theorem dX12_two_119 : decode cX12_two 119 = .ok (.lload_n 1, 1) := by decide +kernel
theorem dX12_two_120 : decode cX12_two 120 = .ok (.goto 4, 3) := by decide +kernel
theorem dX12_two_123 : decode cX12_two 123 = .ok (.lload_n 3, 1) := by decide +kernel
theorem dX12_two_124 : decode cX12_two 124 = .ok (.lreturn, 1) := by decide +kernel
theorem dX12_two_125 : decode cX12_two 125 = .ok (.lload_n 1, 1) := by decide +kernel
theorem dX12_two_126 : decode cX12_two 126 = .ok (.lload_n 3, 1) := by decide +kernel
theorem dX12_two_127 : decode cX12_two 127 = .ok (.lcmp, 1) := by decide +kernel
theorem dX12_two_128 : decode cX12_two 128 = .ok (.ifCond .le 7, 3) := by decide +kernel
theorem dX12_two_131 : decode cX12_two 131 = .ok (.lload_n 1, 1) := by decide +kernel
theorem dX12_two_132 : decode cX12_two 132 = .ok (.goto 4, 3) := by decide +kernel
theorem dX12_two_135 : decode cX12_two 135 = .ok (.lload_n 3, 1) := by decide +kernel
theorem dX12_two_136 : decode cX12_two 136 = .ok (.lreturn, 1) := by decide +kernel
theorem dX12_two_137 : decode cX12_two 137 = .ok (.lload_n 1, 1) := by decide +kernel
theorem dX12_two_138 : decode cX12_two 138 = .ok (.lload_n 3, 1) := by decide +kernel
theorem dX12_two_139 : decode cX12_two 139 = .ok (.lcmp, 1) := by decide +kernel
theorem dX12_two_140 : decode cX12_two 140 = .ok (.ifCond .ge 7, 3) := by decide +kernel
theorem dX12_two_143 : decode cX12_two 143 = .ok (.lconst 1, 1) := by decide +kernel
theorem dX12_two_144 : decode cX12_two 144 = .ok (.goto 4, 3) := by decide +kernel
theorem dX12_two_147 : decode cX12_two 147 = .ok (.lconst 0, 1) := by decide +kernel
theorem dX12_two_148 : decode cX12_two 148 = .ok (.lreturn, 1) := by decide +kernel
theorem dX12_two_149 : decode cX12_two 149 = .ok (.lload_n 1, 1) := by decide +kernel
theorem dX12_two_150 : decode cX12_two 150 = .ok (.lload_n 3, 1) := by decide +kernel
theorem dX12_two_151 : decode cX12_two 151 = .ok (.lcmp, 1) := by decide +kernel
theorem dX12_two_152 : decode cX12_two 152 = .ok (.ifCond .le 7, 3) := by decide +kernel
theorem dX12_two_155 : decode cX12_two 155 = .ok (.lconst 1, 1) := by decide +kernel
theorem dX12_two_156 : decode cX12_two 156 = .ok (.goto 4, 3) := by decide +kernel
theorem dX12_two_159 : decode cX12_two 159 = .ok (.lconst 0, 1) := by decide +kernel
theorem dX12_two_160 : decode cX12_two 160 = .ok (.lreturn, 1) := by decide +kernel
theorem dX12_two_161 : decode cX12_two 161 = .ok (.lload_n 1, 1) := by decide +kernel
theorem dX12_two_162 : decode cX12_two 162 = .ok (.lload_n 3, 1) := by decide +kernel
theorem dX12_two_163 : decode cX12_two 163 = .ok (.lcmp, 1) := by decide +kernel
theorem dX12_two_164 : decode cX12_two 164 = .ok (.ifCond .ne 7, 3) := by decide +kernel
theorem dX12_two_167 : decode cX12_two 167 = .ok (.lconst 1, 1) := by decide +kernel
theorem dX12_two_168 : decode cX12_two 168 = .ok (.goto 4, 3) := by decide +kernel
theorem dX12_two_171 : decode cX12_two 171 = .ok (.lconst 0, 1) := by decide +kernel
theorem dX12_two_172 : decode cX12_two 172 = .ok (.lreturn, 1) := by decide +kernel
theorem dX12_two_173 : decode cX12_two 173 = .ok (.lload_n 1, 1) := by decide +kernel
theorem dX12_two_174 : decode cX12_two 174 = .ok (.lload_n 3, 1) := by decide +kernel
theorem dX12_two_175 : decode cX12_two 175 = .ok (.land, 1) := by decide +kernel
theorem dX12_two_176 : decode cX12_two 176 = .ok (.lreturn, 1) := by decide +kernel
theorem dX12_two_177 : decode cX12_two 177 = .ok (.lload_n 1, 1) := by decide +kernel
theorem dX12_two_178 : decode cX12_two 178 = .ok (.lload_n 3, 1) := by decide +kernel
theorem dX12_two_179 : decode cX12_two 179 = .ok (.lor, 1) := by decide +kernel
theorem dX12_two_180 : decode cX12_two 180 = .ok (.lreturn, 1) := by decide +kernel
theorem dX12_reckons_0 : decode cX12_reckons 0 = .ok (.iconst 0, 1) := by decide +kernel
theorem dX12_reckons_1 : decode cX12_reckons 1 = .ok (.istore_n 2, 1) := by decide +kernel
theorem dX12_reckons_2 : decode cX12_reckons 2 = .ok (.sipush 1600, 3) := by decide +kernel
theorem dX12_reckons_5 : decode cX12_reckons 5 = .ok (.aload_n 0, 1) := by decide +kernel
theorem dX12_reckons_6 : decode cX12_reckons 6 = .ok (.getfield 51, 3) := by decide +kernel
theorem dX12_reckons_9 : decode cX12_reckons 9 = .ok (.imul, 1) := by decide +kernel
theorem dX12_reckons_10 : decode cX12_reckons 10 = .ok (.aload_n 0, 1) := by decide +kernel
theorem dX12_reckons_11 : decode cX12_reckons 11 = .ok (.getfield 90, 3) := by decide +kernel
theorem dX12_reckons_14 : decode cX12_reckons 14 = .ok (.iconst 2, 1) := by decide +kernel
theorem dX12_reckons_15 : decode cX12_reckons 15 = .ok (.aload_n 0, 1) := by decide +kernel
theorem dX12_reckons_16 : decode cX12_reckons 16 = .ok (.getfield 51, 3) := by decide +kernel
theorem dX12_reckons_19 : decode cX12_reckons 19 = .ok (.imul, 1) := by decide +kernel
theorem dX12_reckons_20 : decode cX12_reckons 20 = .ok (.iload_n 1, 1) := by decide +kernel
theorem dX12_reckons_21 : decode cX12_reckons 21 = .ok (.iadd, 1) := by decide +kernel
theorem dX12_reckons_22 : decode cX12_reckons 22 = .ok (.iaload, 1) := by decide +kernel
theorem dX12_reckons_23 : decode cX12_reckons 23 = .ok (.iadd, 1) := by decide +kernel
theorem dX12_reckons_24 : decode cX12_reckons 24 = .ok (.istore_n 3, 1) := by decide +kernel
theorem dX12_reckons_25 : decode cX12_reckons 25 = .ok (.iload_n 3, 1) := by decide +kernel
theorem dX12_reckons_26 : decode cX12_reckons 26 = .ok (.sipush 1600, 3) := by decide +kernel
theorem dX12_reckons_29 : decode cX12_reckons 29 = .ok (.aload_n 0, 1) := by decide +kernel
theorem dX12_reckons_30 : decode cX12_reckons 30 = .ok (.getfield 51, 3) := by decide +kernel
theorem dX12_reckons_33 : decode cX12_reckons 33 = .ok (.imul, 1) := by decide +kernel
theorem dX12_reckons_34 : decode cX12_reckons 34 = .ok (.aload_n 0, 1) := by decide +kernel
theorem dX12_reckons_35 : decode cX12_reckons 35 = .ok (.getfield 93, 3) := by decide +kernel
theorem dX12_reckons_38 : decode cX12_reckons 38 = .ok (.iconst 2, 1) := by decide +kernel
theorem dX12_reckons_39 : decode cX12_reckons 39 = .ok (.aload_n 0, 1) := by decide +kernel
theorem dX12_reckons_40 : decode cX12_reckons 40 = .ok (.getfield 51, 3) := by decide +kernel
theorem dX12_reckons_43 : decode cX12_reckons 43 = .ok (.imul, 1) := by decide +kernel
theorem dX12_reckons_44 : decode cX12_reckons 44 = .ok (.iload_n 1, 1) := by decide +kernel
theorem dX12_reckons_45 : decode cX12_reckons 45 = .ok (.iadd, 1) := by decide +kernel
theorem dX12_reckons_46 : decode cX12_reckons 46 = .ok (.iaload, 1) := by decide +kernel
theorem dX12_reckons_47 : decode cX12_reckons 47 = .ok (.iadd, 1) := by decide +kernel
theorem dX12_reckons_48 : decode cX12_reckons 48 = .ok (.if_icmp .ge 179, 3) := by decide +kernel
theorem dX12_reckons_51 : decode cX12_reckons 51 = .ok (.aload_n 0, 1) := by decide +kernel
theorem dX12_reckons_52 : decode cX12_reckons 52 = .ok (.getfield 96, 3) := by decide +kernel
theorem dX12_reckons_55 : decode cX12_reckons 55 = .ok (.iload_n 3, 1) := by decide +kernel
theorem dX12_reckons_56 : decode cX12_reckons 56 = .ok (.iaload, 1) := by decide +kernel
theorem dX12_reckons_57 : decode cX12_reckons 57 = .ok (.istore 4, 2) := by decide +kernel
theorem dX12_reckons_59 : decode cX12_reckons 59 = .ok (.iload 4, 2) := by decide +kernel
theorem dX12_reckons_61 : decode cX12_reckons 61 = .ok (.bipush 30, 2) := by decide +kernel
theorem dX12_reckons_63 : decode cX12_reckons 63 = .ok (.if_icmp .gt 49, 3) := by decide +kernel
theorem dX12_reckons_66 : decode cX12_reckons 66 = .ok (.aload_n 0, 1) := by decide +kernel
theorem dX12_reckons_67 : decode cX12_reckons 67 = .ok (.getfield 183, 3) := by decide +kernel
theorem dX12_reckons_70 : decode cX12_reckons 70 = .ok (.iload_n 2, 1) := by decide +kernel
theorem dX12_reckons_71 : decode cX12_reckons 71 = .ok (.iload 4, 2) := by decide +kernel
theorem dX12_reckons_73 : decode cX12_reckons 73 = .ok (.ifCond .ne 13, 3) := by decide +kernel
theorem dX12_reckons_76 : decode cX12_reckons 76 = .ok (.aload_n 0, 1) := by decide +kernel
theorem dX12_reckons_77 : decode cX12_reckons 77 = .ok (.getfield 99, 3) := by decide +kernel
theorem dX12_reckons_80 : decode cX12_reckons 80 = .ok (.iload_n 3, 1) := by decide +kernel
theorem dX12_reckons_81 : decode cX12_reckons 81 = .ok (.iaload, 1) := by decide +kernel
theorem dX12_reckons_82 : decode cX12_reckons 82 = .ok (.i2l, 1) := by decide +kernel
theorem dX12_reckons_83 : decode cX12_reckons 83 = .ok (.goto 22, 3) := by decide +kernel
theorem dX12_reckons_86 : decode cX12_reckons 86 = .ok (.iload 4, 2) := by decide +kernel
theorem dX12_reckons_88 : decode cX12_reckons 88 = .ok (.bipush 30, 2) := by decide +kernel
theorem dX12_reckons_90 : decode cX12_reckons 90 = .ok (.if_icmp .ne 7, 3) := by decide +kernel
theorem dX12_reckons_93 : decode cX12_reckons 93 = .ok (.lconst 1, 1) := by decide +kernel
theorem dX12_reckons_94 : decode cX12_reckons 94 = .ok (.goto 11, 3) := by decide +kernel
theorem dX12_reckons_97 : decode cX12_reckons 97 = .ok (.aload_n 0, 1) := by decide +kernel
theorem dX12_reckons_98 : decode cX12_reckons 98 = .ok (.getfield 186, 3) := by decide +kernel
theorem dX12_reckons_101 : decode cX12_reckons 101 = .ok (.iload 4, 2) := by decide +kernel
theorem dX12_reckons_103 : decode cX12_reckons 103 = .ok (.iaload, 1) := by decide +kernel
theorem dX12_reckons_104 : decode cX12_reckons 104 = .ok (.i2l, 1) := by decide +kernel
theorem dX12_reckons_105 : decode cX12_reckons 105 = .ok (.lastore, 1) := by decide +kernel
theorem dX12_reckons_106 : decode cX12_reckons 106 = .ok (.iinc 2 1, 3) := by decide +kernel
theorem dX12_reckons_109 : decode cX12_reckons 109 = .ok (.goto 112, 3) := by decide +kernel
theorem dX12_reckons_112 : decode cX12_reckons 112 = .ok (.iload 4, 2) := by decide +kernel
theorem dX12_reckons_114 : decode cX12_reckons 114 = .ok (.bipush 43, 2) := by decide +kernel
theorem dX12_reckons_116 : decode cX12_reckons 116 = .ok (.if_icmp .ne 24, 3) := by decide +kernel
theorem dX12_reckons_119 : decode cX12_reckons 119 = .ok (.aload_n 0, 1) := by decide +kernel
theorem dX12_reckons_120 : decode cX12_reckons 120 = .ok (.getfield 183, 3) := by decide +kernel
theorem dX12_reckons_123 : decode cX12_reckons 123 = .ok (.iload_n 2, 1) := by decide +kernel
theorem dX12_reckons_124 : decode cX12_reckons 124 = .ok (.iconst 1, 1) := by decide +kernel
theorem dX12_reckons_125 : decode cX12_reckons 125 = .ok (.isub, 1) := by decide +kernel
theorem dX12_reckons_126 : decode cX12_reckons 126 = .ok (.lconst 1, 1) := by decide +kernel
theorem dX12_reckons_127 : decode cX12_reckons 127 = .ok (.aload_n 0, 1) := by decide +kernel
theorem dX12_reckons_128 : decode cX12_reckons 128 = .ok (.getfield 183, 3) := by decide +kernel
theorem dX12_reckons_131 : decode cX12_reckons 131 = .ok (.iload_n 2, 1) := by decide +kernel
theorem dX12_reckons_132 : decode cX12_reckons 132 = .ok (.iconst 1, 1) := by decide +kernel
theorem dX12_reckons_133 : decode cX12_reckons 133 = .ok (.isub, 1) := by decide +kernel
theorem dX12_reckons_134 : decode cX12_reckons 134 = .ok (.laload, 1) := by decide +kernel
theorem dX12_reckons_135 : decode cX12_reckons 135 = .ok (.lsub, 1) := by decide +kernel
theorem dX12_reckons_136 : decode cX12_reckons 136 = .ok (.lastore, 1) := by decide +kernel
theorem dX12_reckons_137 : decode cX12_reckons 137 = .ok (.goto 84, 3) := by decide +kernel
theorem dX12_reckons_140 : decode cX12_reckons 140 = .ok (.iload 4, 2) := by decide +kernel
theorem dX12_reckons_142 : decode cX12_reckons 142 = .ok (.bipush 44, 2) := by decide +kernel
theorem dX12_reckons_144 : decode cX12_reckons 144 = .ok (.if_icmp .ne 47, 3) := by decide +kernel
theorem dX12_reckons_147 : decode cX12_reckons 147 = .ok (.iinc 2 (-2), 3) := by decide +kernel
theorem dX12_reckons_150 : decode cX12_reckons 150 = .ok (.aload_n 0, 1) := by decide +kernel
theorem dX12_reckons_151 : decode cX12_reckons 151 = .ok (.getfield 183, 3) := by decide +kernel
theorem dX12_reckons_154 : decode cX12_reckons 154 = .ok (.iload_n 2, 1) := by decide +kernel
theorem dX12_reckons_155 : decode cX12_reckons 155 = .ok (.iconst 1, 1) := by decide +kernel
theorem dX12_reckons_156 : decode cX12_reckons 156 = .ok (.isub, 1) := by decide +kernel
theorem dX12_reckons_157 : decode cX12_reckons 157 = .ok (.aload_n 0, 1) := by decide +kernel
theorem dX12_reckons_158 : decode cX12_reckons 158 = .ok (.getfield 183, 3) := by decide +kernel
theorem dX12_reckons_161 : decode cX12_reckons 161 = .ok (.iload_n 2, 1) := by decide +kernel
theorem dX12_reckons_162 : decode cX12_reckons 162 = .ok (.iconst 1, 1) := by decide +kernel
theorem dX12_reckons_163 : decode cX12_reckons 163 = .ok (.isub, 1) := by decide +kernel
theorem dX12_reckons_164 : decode cX12_reckons 164 = .ok (.laload, 1) := by decide +kernel
theorem dX12_reckons_165 : decode cX12_reckons 165 = .ok (.lconst 1, 1) := by decide +kernel
theorem dX12_reckons_166 : decode cX12_reckons 166 = .ok (.lcmp, 1) := by decide +kernel
theorem dX12_reckons_167 : decode cX12_reckons 167 = .ok (.ifCond .ne 12, 3) := by decide +kernel
theorem dX12_reckons_170 : decode cX12_reckons 170 = .ok (.aload_n 0, 1) := by decide +kernel
theorem dX12_reckons_171 : decode cX12_reckons 171 = .ok (.getfield 183, 3) := by decide +kernel
theorem dX12_reckons_174 : decode cX12_reckons 174 = .ok (.iload_n 2, 1) := by decide +kernel
theorem dX12_reckons_175 : decode cX12_reckons 175 = .ok (.laload, 1) := by decide +kernel
theorem dX12_reckons_176 : decode cX12_reckons 176 = .ok (.goto 11, 3) := by decide +kernel
theorem dX12_reckons_179 : decode cX12_reckons 179 = .ok (.aload_n 0, 1) := by decide +kernel
theorem dX12_reckons_180 : decode cX12_reckons 180 = .ok (.getfield 183, 3) := by decide +kernel
theorem dX12_reckons_183 : decode cX12_reckons 183 = .ok (.iload_n 2, 1) := by decide +kernel
theorem dX12_reckons_184 : decode cX12_reckons 184 = .ok (.iconst 1, 1) := by decide +kernel
theorem dX12_reckons_185 : decode cX12_reckons 185 = .ok (.iadd, 1) := by decide +kernel
theorem dX12_reckons_186 : decode cX12_reckons 186 = .ok (.laload, 1) := by decide +kernel
theorem dX12_reckons_187 : decode cX12_reckons 187 = .ok (.lastore, 1) := by decide +kernel
theorem dX12_reckons_188 : decode cX12_reckons 188 = .ok (.goto 33, 3) := by decide +kernel
theorem dX12_reckons_191 : decode cX12_reckons 191 = .ok (.iinc 2 (-1), 3) := by decide +kernel
theorem dX12_reckons_194 : decode cX12_reckons 194 = .ok (.aload_n 0, 1) := by decide +kernel
theorem dX12_reckons_195 : decode cX12_reckons 195 = .ok (.getfield 183, 3) := by decide +kernel
theorem dX12_reckons_198 : decode cX12_reckons 198 = .ok (.iload_n 2, 1) := by decide +kernel
theorem dX12_reckons_199 : decode cX12_reckons 199 = .ok (.iconst 1, 1) := by decide +kernel
theorem dX12_reckons_200 : decode cX12_reckons 200 = .ok (.isub, 1) := by decide +kernel
theorem dX12_reckons_201 : decode cX12_reckons 201 = .ok (.iload 4, 2) := by decide +kernel
theorem dX12_reckons_203 : decode cX12_reckons 203 = .ok (.aload_n 0, 1) := by decide +kernel
theorem dX12_reckons_204 : decode cX12_reckons 204 = .ok (.getfield 183, 3) := by decide +kernel
theorem dX12_reckons_207 : decode cX12_reckons 207 = .ok (.iload_n 2, 1) := by decide +kernel
theorem dX12_reckons_208 : decode cX12_reckons 208 = .ok (.iconst 1, 1) := by decide +kernel
theorem dX12_reckons_209 : decode cX12_reckons 209 = .ok (.isub, 1) := by decide +kernel
theorem dX12_reckons_210 : decode cX12_reckons 210 = .ok (.laload, 1) := by decide +kernel
theorem dX12_reckons_211 : decode cX12_reckons 211 = .ok (.aload_n 0, 1) := by decide +kernel
theorem dX12_reckons_212 : decode cX12_reckons 212 = .ok (.getfield 183, 3) := by decide +kernel
theorem dX12_reckons_215 : decode cX12_reckons 215 = .ok (.iload_n 2, 1) := by decide +kernel
theorem dX12_reckons_216 : decode cX12_reckons 216 = .ok (.laload, 1) := by decide +kernel
theorem dX12_reckons_217 : decode cX12_reckons 217 = .ok (.invokestatic 433, 3) := by decide +kernel
theorem dX12_reckons_220 : decode cX12_reckons 220 = .ok (.lastore, 1) := by decide +kernel
theorem dX12_reckons_221 : decode cX12_reckons 221 = .ok (.iinc 3 1, 3) := by decide +kernel
theorem dX12_reckons_224 : decode cX12_reckons 224 = .ok (.goto (-199), 3) := by decide +kernel
theorem dX12_reckons_227 : decode cX12_reckons 227 = .ok (.aload_n 0, 1) := by decide +kernel
theorem dX12_reckons_228 : decode cX12_reckons 228 = .ok (.getfield 183, 3) := by decide +kernel
theorem dX12_reckons_231 : decode cX12_reckons 231 = .ok (.iconst 0, 1) := by decide +kernel
theorem dX12_reckons_232 : decode cX12_reckons 232 = .ok (.laload, 1) := by decide +kernel
theorem dX12_reckons_233 : decode cX12_reckons 233 = .ok (.lreturn, 1) := by decide +kernel
theorem dX12_isTold_0 : decode cX12_isTold 0 = .ok (.aload_n 0, 1) := by decide +kernel
theorem dX12_isTold_1 : decode cX12_isTold 1 = .ok (.getfield 90, 3) := by decide +kernel
theorem dX12_isTold_4 : decode cX12_isTold 4 = .ok (.iconst 2, 1) := by decide +kernel
theorem dX12_isTold_5 : decode cX12_isTold 5 = .ok (.aload_n 0, 1) := by decide +kernel
theorem dX12_isTold_6 : decode cX12_isTold 6 = .ok (.getfield 51, 3) := by decide +kernel
theorem dX12_isTold_9 : decode cX12_isTold 9 = .ok (.imul, 1) := by decide +kernel
theorem dX12_isTold_10 : decode cX12_isTold 10 = .ok (.iload_n 1, 1) := by decide +kernel
theorem dX12_isTold_11 : decode cX12_isTold 11 = .ok (.iadd, 1) := by decide +kernel
theorem dX12_isTold_12 : decode cX12_isTold 12 = .ok (.iaload, 1) := by decide +kernel
theorem dX12_isTold_13 : decode cX12_isTold 13 = .ok (.iconst (-1), 1) := by decide +kernel
theorem dX12_isTold_14 : decode cX12_isTold 14 = .ok (.if_icmp .eq 7, 3) := by decide +kernel
theorem dX12_isTold_17 : decode cX12_isTold 17 = .ok (.iconst 1, 1) := by decide +kernel
theorem dX12_isTold_18 : decode cX12_isTold 18 = .ok (.goto 4, 3) := by decide +kernel
theorem dX12_isTold_21 : decode cX12_isTold 21 = .ok (.iconst 0, 1) := by decide +kernel
theorem dX12_isTold_22 : decode cX12_isTold 22 = .ok (.ireturn, 1) := by decide +kernel
theorem dX12_lays_0 : decode cX12_lays 0 = .ok (.aload_n 0, 1) := by decide +kernel
theorem dX12_lays_1 : decode cX12_lays 1 = .ok (.getfield 159, 3) := by decide +kernel
theorem dX12_lays_4 : decode cX12_lays 4 = .ok (.iconst 5, 1) := by decide +kernel
theorem dX12_lays_5 : decode cX12_lays 5 = .ok (.iload_n 1, 1) := by decide +kernel
theorem dX12_lays_6 : decode cX12_lays 6 = .ok (.imul, 1) := by decide +kernel
theorem dX12_lays_7 : decode cX12_lays 7 = .ok (.iload_n 2, 1) := by decide +kernel
theorem dX12_lays_8 : decode cX12_lays 8 = .ok (.iadd, 1) := by decide +kernel
theorem dX12_lays_9 : decode cX12_lays 9 = .ok (.iaload, 1) := by decide +kernel
theorem dX12_lays_10 : decode cX12_lays 10 = .ok (.istore_n 3, 1) := by decide +kernel
theorem dX12_lays_11 : decode cX12_lays 11 = .ok (.aload_n 0, 1) := by decide +kernel
theorem dX12_lays_12 : decode cX12_lays 12 = .ok (.getfield 186, 3) := by decide +kernel
theorem dX12_lays_15 : decode cX12_lays 15 = .ok (.iconst 1, 1) := by decide +kernel
theorem dX12_lays_16 : decode cX12_lays 16 = .ok (.iload_n 3, 1) := by decide +kernel
theorem dX12_lays_17 : decode cX12_lays 17 = .ok (.iconst (-1), 1) := by decide +kernel
theorem dX12_lays_18 : decode cX12_lays 18 = .ok (.if_icmp .ne 7, 3) := by decide +kernel
theorem dX12_lays_21 : decode cX12_lays 21 = .ok (.iconst 0, 1) := by decide +kernel
theorem dX12_lays_22 : decode cX12_lays 22 = .ok (.goto 17, 3) := by decide +kernel
theorem dX12_lays_25 : decode cX12_lays 25 = .ok (.aload_n 0, 1) := by decide +kernel
theorem dX12_lays_26 : decode cX12_lays 26 = .ok (.getfield 57, 3) := by decide +kernel
theorem dX12_lays_29 : decode cX12_lays 29 = .ok (.bipush 6, 2) := by decide +kernel
theorem dX12_lays_31 : decode cX12_lays 31 = .ok (.aload_n 0, 1) := by decide +kernel
theorem dX12_lays_32 : decode cX12_lays 32 = .ok (.getfield 51, 3) := by decide +kernel
theorem dX12_lays_35 : decode cX12_lays 35 = .ok (.imul, 1) := by decide +kernel
theorem dX12_lays_36 : decode cX12_lays 36 = .ok (.iload_n 3, 1) := by decide +kernel
theorem dX12_lays_37 : decode cX12_lays 37 = .ok (.iadd, 1) := by decide +kernel
theorem dX12_lays_38 : decode cX12_lays 38 = .ok (.iaload, 1) := by decide +kernel
theorem dX12_lays_39 : decode cX12_lays 39 = .ok (.iastore, 1) := by decide +kernel
theorem dX12_lays_40 : decode cX12_lays 40 = .ok (.aload_n 0, 1) := by decide +kernel
theorem dX12_lays_41 : decode cX12_lays 41 = .ok (.getfield 186, 3) := by decide +kernel
theorem dX12_lays_44 : decode cX12_lays 44 = .ok (.iconst 2, 1) := by decide +kernel
theorem dX12_lays_45 : decode cX12_lays 45 = .ok (.aload_n 0, 1) := by decide +kernel
theorem dX12_lays_46 : decode cX12_lays 46 = .ok (.getfield 162, 3) := by decide +kernel
theorem dX12_lays_49 : decode cX12_lays 49 = .ok (.iconst 5, 1) := by decide +kernel
theorem dX12_lays_50 : decode cX12_lays 50 = .ok (.iload_n 1, 1) := by decide +kernel
theorem dX12_lays_51 : decode cX12_lays 51 = .ok (.imul, 1) := by decide +kernel
theorem dX12_lays_52 : decode cX12_lays 52 = .ok (.iload_n 2, 1) := by decide +kernel
theorem dX12_lays_53 : decode cX12_lays 53 = .ok (.iadd, 1) := by decide +kernel
theorem dX12_lays_54 : decode cX12_lays 54 = .ok (.iaload, 1) := by decide +kernel
theorem dX12_lays_55 : decode cX12_lays 55 = .ok (.iastore, 1) := by decide +kernel
theorem dX12_lays_56 : decode cX12_lays 56 = .ok (.aload_n 0, 1) := by decide +kernel
theorem dX12_lays_57 : decode cX12_lays 57 = .ok (.getfield 186, 3) := by decide +kernel
theorem dX12_lays_60 : decode cX12_lays 60 = .ok (.iconst 3, 1) := by decide +kernel
theorem dX12_lays_61 : decode cX12_lays 61 = .ok (.iload_n 2, 1) := by decide +kernel
theorem dX12_lays_62 : decode cX12_lays 62 = .ok (.iastore, 1) := by decide +kernel
theorem dX12_lays_63 : decode cX12_lays 63 = .ok (.aload_n 0, 1) := by decide +kernel
theorem dX12_lays_64 : decode cX12_lays 64 = .ok (.getfield 186, 3) := by decide +kernel
theorem dX12_lays_67 : decode cX12_lays 67 = .ok (.iconst 4, 1) := by decide +kernel
theorem dX12_lays_68 : decode cX12_lays 68 = .ok (.aload_n 0, 1) := by decide +kernel
theorem dX12_lays_69 : decode cX12_lays 69 = .ok (.getfield 156, 3) := by decide +kernel
theorem dX12_lays_72 : decode cX12_lays 72 = .ok (.iload_n 1, 1) := by decide +kernel
theorem dX12_lays_73 : decode cX12_lays 73 = .ok (.iaload, 1) := by decide +kernel
theorem dX12_lays_74 : decode cX12_lays 74 = .ok (.iastore, 1) := by decide +kernel
theorem dX12_lays_75 : decode cX12_lays 75 = .ok (.aload_n 0, 1) := by decide +kernel
theorem dX12_lays_76 : decode cX12_lays 76 = .ok (.getfield 186, 3) := by decide +kernel
theorem dX12_lays_79 : decode cX12_lays 79 = .ok (.iconst 5, 1) := by decide +kernel
theorem dX12_lays_80 : decode cX12_lays 80 = .ok (.iload_n 3, 1) := by decide +kernel
theorem dX12_lays_81 : decode cX12_lays 81 = .ok (.iconst (-1), 1) := by decide +kernel
theorem dX12_lays_82 : decode cX12_lays 82 = .ok (.if_icmp .ne 7, 3) := by decide +kernel
theorem dX12_lays_85 : decode cX12_lays 85 = .ok (.iconst 1, 1) := by decide +kernel
theorem dX12_lays_86 : decode cX12_lays 86 = .ok (.goto 4, 3) := by decide +kernel
theorem dX12_lays_89 : decode cX12_lays 89 = .ok (.iconst 0, 1) := by decide +kernel
theorem dX12_lays_90 : decode cX12_lays 90 = .ok (.iastore, 1) := by decide +kernel
theorem dX12_lays_91 : decode cX12_lays 91 = .ok (.aload_n 0, 1) := by decide +kernel
theorem dX12_lays_92 : decode cX12_lays 92 = .ok (.getfield 186, 3) := by decide +kernel
theorem dX12_lays_95 : decode cX12_lays 95 = .ok (.bipush 6, 2) := by decide +kernel
theorem dX12_lays_97 : decode cX12_lays 97 = .ok (.iload_n 3, 1) := by decide +kernel
theorem dX12_lays_98 : decode cX12_lays 98 = .ok (.iconst (-1), 1) := by decide +kernel
theorem dX12_lays_99 : decode cX12_lays 99 = .ok (.if_icmp .ne 7, 3) := by decide +kernel
theorem dX12_lays_102 : decode cX12_lays 102 = .ok (.iconst 0, 1) := by decide +kernel
theorem dX12_lays_103 : decode cX12_lays 103 = .ok (.goto 17, 3) := by decide +kernel
theorem dX12_lays_106 : decode cX12_lays 106 = .ok (.aload_n 0, 1) := by decide +kernel
theorem dX12_lays_107 : decode cX12_lays 107 = .ok (.getfield 60, 3) := by decide +kernel
theorem dX12_lays_110 : decode cX12_lays 110 = .ok (.bipush 6, 2) := by decide +kernel
theorem dX12_lays_112 : decode cX12_lays 112 = .ok (.aload_n 0, 1) := by decide +kernel
theorem dX12_lays_113 : decode cX12_lays 113 = .ok (.getfield 51, 3) := by decide +kernel
theorem dX12_lays_116 : decode cX12_lays 116 = .ok (.imul, 1) := by decide +kernel
theorem dX12_lays_117 : decode cX12_lays 117 = .ok (.iload_n 3, 1) := by decide +kernel
theorem dX12_lays_118 : decode cX12_lays 118 = .ok (.iadd, 1) := by decide +kernel
theorem dX12_lays_119 : decode cX12_lays 119 = .ok (.iaload, 1) := by decide +kernel
theorem dX12_lays_120 : decode cX12_lays 120 = .ok (.iastore, 1) := by decide +kernel
theorem dX12_lays_121 : decode cX12_lays 121 = .ok (.return_, 1) := by decide +kernel
theorem dX12_hour_0 : decode cX12_hour 0 = .ok (.aload_n 0, 1) := by decide +kernel
theorem dX12_hour_1 : decode cX12_hour 1 = .ok (.iload_n 1, 1) := by decide +kernel
theorem dX12_hour_2 : decode cX12_hour 2 = .ok (.iload_n 2, 1) := by decide +kernel
theorem dX12_hour_3 : decode cX12_hour 3 = .ok (.invokevirtual 437, 3) := by decide +kernel
theorem dX12_hour_6 : decode cX12_hour 6 = .ok (.aload_n 0, 1) := by decide +kernel
theorem dX12_hour_7 : decode cX12_hour 7 = .ok (.iconst 0, 1) := by decide +kernel
theorem dX12_hour_8 : decode cX12_hour 8 = .ok (.invokevirtual 440, 3) := by decide +kernel
theorem dX12_hour_11 : decode cX12_hour 11 = .ok (.ifCond .eq 11, 3) := by decide +kernel
theorem dX12_hour_14 : decode cX12_hour 14 = .ok (.aload_n 0, 1) := by decide +kernel
theorem dX12_hour_15 : decode cX12_hour 15 = .ok (.iconst 0, 1) := by decide +kernel
theorem dX12_hour_16 : decode cX12_hour 16 = .ok (.invokevirtual 443, 3) := by decide +kernel
theorem dX12_hour_19 : decode cX12_hour 19 = .ok (.goto 10, 3) := by decide +kernel
theorem dX12_hour_22 : decode cX12_hour 22 = .ok (.aload_n 0, 1) := by decide +kernel
theorem dX12_hour_23 : decode cX12_hour 23 = .ok (.getfield 186, 3) := by decide +kernel
theorem dX12_hour_26 : decode cX12_hour 26 = .ok (.iconst 1, 1) := by decide +kernel
theorem dX12_hour_27 : decode cX12_hour 27 = .ok (.iaload, 1) := by decide +kernel
theorem dX12_hour_28 : decode cX12_hour 28 = .ok (.i2l, 1) := by decide +kernel
theorem dX12_hour_29 : decode cX12_hour 29 = .ok (.lstore_n 3, 1) := by decide +kernel
theorem dX12_hour_30 : decode cX12_hour 30 = .ok (.lload_n 3, 1) := by decide +kernel
theorem dX12_hour_31 : decode cX12_hour 31 = .ok (.lconst 0, 1) := by decide +kernel
theorem dX12_hour_32 : decode cX12_hour 32 = .ok (.lcmp, 1) := by decide +kernel
theorem dX12_hour_33 : decode cX12_hour 33 = .ok (.ifCond .ge 7, 3) := by decide +kernel
theorem dX12_hour_36 : decode cX12_hour 36 = .ok (.iconst 0, 1) := by decide +kernel
theorem dX12_hour_37 : decode cX12_hour 37 = .ok (.goto 18, 3) := by decide +kernel
theorem dX12_hour_40 : decode cX12_hour 40 = .ok (.lload_n 3, 1) := by decide +kernel
theorem dX12_hour_41 : decode cX12_hour 41 = .ok (.ldc2_w 447, 3) := by decide +kernel
theorem dX12_hour_44 : decode cX12_hour 44 = .ok (.lcmp, 1) := by decide +kernel
theorem dX12_hour_45 : decode cX12_hour 45 = .ok (.ifCond .le 8, 3) := by decide +kernel
theorem dX12_hour_48 : decode cX12_hour 48 = .ok (.bipush 23, 2) := by decide +kernel
theorem dX12_hour_50 : decode cX12_hour 50 = .ok (.goto 5, 3) := by decide +kernel
theorem dX12_hour_53 : decode cX12_hour 53 = .ok (.lload_n 3, 1) := by decide +kernel
theorem dX12_hour_54 : decode cX12_hour 54 = .ok (.l2i, 1) := by decide +kernel
theorem dX12_hour_55 : decode cX12_hour 55 = .ok (.ireturn, 1) := by decide +kernel
theorem dX12_writesDown_0 : decode cX12_writesDown 0 = .ok (.aload_n 0, 1) := by decide +kernel
theorem dX12_writesDown_1 : decode cX12_writesDown 1 = .ok (.getfield 168, 3) := by decide +kernel
theorem dX12_writesDown_4 : decode cX12_writesDown 4 = .ok (.iload_n 1, 1) := by decide +kernel
theorem dX12_writesDown_5 : decode cX12_writesDown 5 = .ok (.iaload, 1) := by decide +kernel
theorem dX12_writesDown_6 : decode cX12_writesDown 6 = .ok (.bipush 40, 2) := by decide +kernel
theorem dX12_writesDown_8 : decode cX12_writesDown 8 = .ok (.if_icmp .ne 51, 3) := by decide +kernel
theorem dX12_writesDown_11 : decode cX12_writesDown 11 = .ok (.bipush 80, 2) := by decide +kernel
theorem dX12_writesDown_13 : decode cX12_writesDown 13 = .ok (.iload_n 1, 1) := by decide +kernel
theorem dX12_writesDown_14 : decode cX12_writesDown 14 = .ok (.imul, 1) := by decide +kernel
theorem dX12_writesDown_15 : decode cX12_writesDown 15 = .ok (.istore_n 3, 1) := by decide +kernel
theorem dX12_writesDown_16 : decode cX12_writesDown 16 = .ok (.iload_n 3, 1) := by decide +kernel
theorem dX12_writesDown_17 : decode cX12_writesDown 17 = .ok (.bipush 80, 2) := by decide +kernel
theorem dX12_writesDown_19 : decode cX12_writesDown 19 = .ok (.iload_n 1, 1) := by decide +kernel
theorem dX12_writesDown_20 : decode cX12_writesDown 20 = .ok (.imul, 1) := by decide +kernel
theorem dX12_writesDown_21 : decode cX12_writesDown 21 = .ok (.bipush 80, 2) := by decide +kernel
theorem dX12_writesDown_23 : decode cX12_writesDown 23 = .ok (.iadd, 1) := by decide +kernel
theorem dX12_writesDown_24 : decode cX12_writesDown 24 = .ok (.iconst 2, 1) := by decide +kernel
theorem dX12_writesDown_25 : decode cX12_writesDown 25 = .ok (.isub, 1) := by decide +kernel
theorem dX12_writesDown_26 : decode cX12_writesDown 26 = .ok (.if_icmp .ge 23, 3) := by decide +kernel
theorem dX12_writesDown_29 : decode cX12_writesDown 29 = .ok (.aload_n 0, 1) := by decide +kernel
theorem dX12_writesDown_30 : decode cX12_writesDown 30 = .ok (.getfield 171, 3) := by decide +kernel
theorem dX12_writesDown_33 : decode cX12_writesDown 33 = .ok (.iload_n 3, 1) := by decide +kernel
theorem dX12_writesDown_34 : decode cX12_writesDown 34 = .ok (.aload_n 0, 1) := by decide +kernel
theorem dX12_writesDown_35 : decode cX12_writesDown 35 = .ok (.getfield 171, 3) := by decide +kernel
theorem dX12_writesDown_38 : decode cX12_writesDown 38 = .ok (.iload_n 3, 1) := by decide +kernel
theorem dX12_writesDown_39 : decode cX12_writesDown 39 = .ok (.iconst 2, 1) := by decide +kernel
theorem dX12_writesDown_40 : decode cX12_writesDown 40 = .ok (.iadd, 1) := by decide +kernel
theorem dX12_writesDown_41 : decode cX12_writesDown 41 = .ok (.iaload, 1) := by decide +kernel
theorem dX12_writesDown_42 : decode cX12_writesDown 42 = .ok (.iastore, 1) := by decide +kernel
theorem dX12_writesDown_43 : decode cX12_writesDown 43 = .ok (.iinc 3 1, 3) := by decide +kernel
theorem dX12_writesDown_46 : decode cX12_writesDown 46 = .ok (.goto (-30), 3) := by decide +kernel
theorem dX12_writesDown_49 : decode cX12_writesDown 49 = .ok (.aload_n 0, 1) := by decide +kernel
theorem dX12_writesDown_50 : decode cX12_writesDown 50 = .ok (.getfield 168, 3) := by decide +kernel
theorem dX12_writesDown_53 : decode cX12_writesDown 53 = .ok (.iload_n 1, 1) := by decide +kernel
theorem dX12_writesDown_54 : decode cX12_writesDown 54 = .ok (.dup2, 1) := by decide +kernel
theorem dX12_writesDown_55 : decode cX12_writesDown 55 = .ok (.iaload, 1) := by decide +kernel
theorem dX12_writesDown_56 : decode cX12_writesDown 56 = .ok (.iconst 1, 1) := by decide +kernel
theorem dX12_writesDown_57 : decode cX12_writesDown 57 = .ok (.isub, 1) := by decide +kernel
theorem dX12_writesDown_58 : decode cX12_writesDown 58 = .ok (.iastore, 1) := by decide +kernel
theorem dX12_writesDown_59 : decode cX12_writesDown 59 = .ok (.iconst 2, 1) := by decide +kernel
theorem dX12_writesDown_60 : decode cX12_writesDown 60 = .ok (.bipush 40, 2) := by decide +kernel
theorem dX12_writesDown_62 : decode cX12_writesDown 62 = .ok (.iload_n 1, 1) := by decide +kernel
theorem dX12_writesDown_63 : decode cX12_writesDown 63 = .ok (.imul, 1) := by decide +kernel
theorem dX12_writesDown_64 : decode cX12_writesDown 64 = .ok (.aload_n 0, 1) := by decide +kernel
theorem dX12_writesDown_65 : decode cX12_writesDown 65 = .ok (.getfield 168, 3) := by decide +kernel
theorem dX12_writesDown_68 : decode cX12_writesDown 68 = .ok (.iload_n 1, 1) := by decide +kernel
theorem dX12_writesDown_69 : decode cX12_writesDown 69 = .ok (.iaload, 1) := by decide +kernel
theorem dX12_writesDown_70 : decode cX12_writesDown 70 = .ok (.iadd, 1) := by decide +kernel
theorem dX12_writesDown_71 : decode cX12_writesDown 71 = .ok (.imul, 1) := by decide +kernel
theorem dX12_writesDown_72 : decode cX12_writesDown 72 = .ok (.istore_n 3, 1) := by decide +kernel
theorem dX12_writesDown_73 : decode cX12_writesDown 73 = .ok (.aload_n 0, 1) := by decide +kernel
theorem dX12_writesDown_74 : decode cX12_writesDown 74 = .ok (.getfield 171, 3) := by decide +kernel
theorem dX12_writesDown_77 : decode cX12_writesDown 77 = .ok (.iload_n 3, 1) := by decide +kernel
theorem dX12_writesDown_78 : decode cX12_writesDown 78 = .ok (.aload_n 0, 1) := by decide +kernel
theorem dX12_writesDown_79 : decode cX12_writesDown 79 = .ok (.getfield 156, 3) := by decide +kernel
theorem dX12_writesDown_82 : decode cX12_writesDown 82 = .ok (.iload_n 1, 1) := by decide +kernel
theorem dX12_writesDown_83 : decode cX12_writesDown 83 = .ok (.iaload, 1) := by decide +kernel
theorem dX12_writesDown_84 : decode cX12_writesDown 84 = .ok (.iastore, 1) := by decide +kernel
theorem dX12_writesDown_85 : decode cX12_writesDown 85 = .ok (.aload_n 0, 1) := by decide +kernel
theorem dX12_writesDown_86 : decode cX12_writesDown 86 = .ok (.getfield 171, 3) := by decide +kernel
theorem dX12_writesDown_89 : decode cX12_writesDown 89 = .ok (.iload_n 3, 1) := by decide +kernel
theorem dX12_writesDown_90 : decode cX12_writesDown 90 = .ok (.iconst 1, 1) := by decide +kernel
theorem dX12_writesDown_91 : decode cX12_writesDown 91 = .ok (.iadd, 1) := by decide +kernel
theorem dX12_writesDown_92 : decode cX12_writesDown 92 = .ok (.iload_n 2, 1) := by decide +kernel
theorem dX12_writesDown_93 : decode cX12_writesDown 93 = .ok (.iastore, 1) := by decide +kernel
theorem dX12_writesDown_94 : decode cX12_writesDown 94 = .ok (.aload_n 0, 1) := by decide +kernel
theorem dX12_writesDown_95 : decode cX12_writesDown 95 = .ok (.getfield 168, 3) := by decide +kernel
theorem dX12_writesDown_98 : decode cX12_writesDown 98 = .ok (.iload_n 1, 1) := by decide +kernel
theorem dX12_writesDown_99 : decode cX12_writesDown 99 = .ok (.dup2, 1) := by decide +kernel
theorem dX12_writesDown_100 : decode cX12_writesDown 100 = .ok (.iaload, 1) := by decide +kernel
theorem dX12_writesDown_101 : decode cX12_writesDown 101 = .ok (.iconst 1, 1) := by decide +kernel
theorem dX12_writesDown_102 : decode cX12_writesDown 102 = .ok (.iadd, 1) := by decide +kernel
theorem dX12_writesDown_103 : decode cX12_writesDown 103 = .ok (.iastore, 1) := by decide +kernel
theorem dX12_writesDown_104 : decode cX12_writesDown 104 = .ok (.return_, 1) := by decide +kernel
theorem dX12_finishesDoings_0 : decode cX12_finishesDoings 0 = .ok (.iconst 0, 1) := by decide +kernel
theorem dX12_finishesDoings_1 : decode cX12_finishesDoings 1 = .ok (.istore_n 2, 1) := by decide +kernel
theorem dX12_finishesDoings_2 : decode cX12_finishesDoings 2 = .ok (.iconst 0, 1) := by decide +kernel
theorem dX12_finishesDoings_3 : decode cX12_finishesDoings 3 = .ok (.istore_n 3, 1) := by decide +kernel
theorem dX12_finishesDoings_4 : decode cX12_finishesDoings 4 = .ok (.iload_n 3, 1) := by decide +kernel
theorem dX12_finishesDoings_5 : decode cX12_finishesDoings 5 = .ok (.aload_n 0, 1) := by decide +kernel
theorem dX12_finishesDoings_6 : decode cX12_finishesDoings 6 = .ok (.getfield 78, 3) := by decide +kernel
theorem dX12_finishesDoings_9 : decode cX12_finishesDoings 9 = .ok (.aload_n 0, 1) := by decide +kernel
theorem dX12_finishesDoings_10 : decode cX12_finishesDoings 10 = .ok (.getfield 51, 3) := by decide +kernel
theorem dX12_finishesDoings_13 : decode cX12_finishesDoings 13 = .ok (.iaload, 1) := by decide +kernel
theorem dX12_finishesDoings_14 : decode cX12_finishesDoings 14 = .ok (.if_icmp .ge 82, 3) := by decide +kernel
theorem dX12_finishesDoings_17 : decode cX12_finishesDoings 17 = .ok (.aload_n 0, 1) := by decide +kernel
theorem dX12_finishesDoings_18 : decode cX12_finishesDoings 18 = .ok (.getfield 165, 3) := by decide +kernel
theorem dX12_finishesDoings_21 : decode cX12_finishesDoings 21 = .ok (.iload_n 1, 1) := by decide +kernel
theorem dX12_finishesDoings_22 : decode cX12_finishesDoings 22 = .ok (.iaload, 1) := by decide +kernel
theorem dX12_finishesDoings_23 : decode cX12_finishesDoings 23 = .ok (.iload_n 3, 1) := by decide +kernel
theorem dX12_finishesDoings_24 : decode cX12_finishesDoings 24 = .ok (.invokestatic 347, 3) := by decide +kernel
theorem dX12_finishesDoings_27 : decode cX12_finishesDoings 27 = .ok (.ifCond .ne 63, 3) := by decide +kernel
theorem dX12_finishesDoings_30 : decode cX12_finishesDoings 30 = .ok (.aload_n 0, 1) := by decide +kernel
theorem dX12_finishesDoings_31 : decode cX12_finishesDoings 31 = .ok (.iload_n 1, 1) := by decide +kernel
theorem dX12_finishesDoings_32 : decode cX12_finishesDoings 32 = .ok (.aload_n 0, 1) := by decide +kernel
theorem dX12_finishesDoings_33 : decode cX12_finishesDoings 33 = .ok (.getfield 81, 3) := by decide +kernel
theorem dX12_finishesDoings_36 : decode cX12_finishesDoings 36 = .ok (.bipush 6, 2) := by decide +kernel
theorem dX12_finishesDoings_38 : decode cX12_finishesDoings 38 = .ok (.aload_n 0, 1) := by decide +kernel
theorem dX12_finishesDoings_39 : decode cX12_finishesDoings 39 = .ok (.getfield 51, 3) := by decide +kernel
theorem dX12_finishesDoings_42 : decode cX12_finishesDoings 42 = .ok (.imul, 1) := by decide +kernel
theorem dX12_finishesDoings_43 : decode cX12_finishesDoings 43 = .ok (.iload_n 3, 1) := by decide +kernel
theorem dX12_finishesDoings_44 : decode cX12_finishesDoings 44 = .ok (.iadd, 1) := by decide +kernel
theorem dX12_finishesDoings_45 : decode cX12_finishesDoings 45 = .ok (.iaload, 1) := by decide +kernel
theorem dX12_finishesDoings_46 : decode cX12_finishesDoings 46 = .ok (.invokevirtual 449, 3) := by decide +kernel
theorem dX12_finishesDoings_49 : decode cX12_finishesDoings 49 = .ok (.aload_n 0, 1) := by decide +kernel
theorem dX12_finishesDoings_50 : decode cX12_finishesDoings 50 = .ok (.getfield 84, 3) := by decide +kernel
theorem dX12_finishesDoings_53 : decode cX12_finishesDoings 53 = .ok (.bipush 6, 2) := by decide +kernel
theorem dX12_finishesDoings_55 : decode cX12_finishesDoings 55 = .ok (.aload_n 0, 1) := by decide +kernel
theorem dX12_finishesDoings_56 : decode cX12_finishesDoings 56 = .ok (.getfield 51, 3) := by decide +kernel
theorem dX12_finishesDoings_59 : decode cX12_finishesDoings 59 = .ok (.imul, 1) := by decide +kernel
theorem dX12_finishesDoings_60 : decode cX12_finishesDoings 60 = .ok (.iload_n 3, 1) := by decide +kernel
theorem dX12_finishesDoings_61 : decode cX12_finishesDoings 61 = .ok (.iadd, 1) := by decide +kernel
theorem dX12_finishesDoings_62 : decode cX12_finishesDoings 62 = .ok (.iaload, 1) := by decide +kernel
theorem dX12_finishesDoings_63 : decode cX12_finishesDoings 63 = .ok (.if_icmp .eq 6, 3) := by decide +kernel
theorem dX12_finishesDoings_66 : decode cX12_finishesDoings 66 = .ok (.goto 24, 3) := by decide +kernel
theorem dX12_finishesDoings_69 : decode cX12_finishesDoings 69 = .ok (.aload_n 0, 1) := by decide +kernel
theorem dX12_finishesDoings_70 : decode cX12_finishesDoings 70 = .ok (.getfield 165, 3) := by decide +kernel
theorem dX12_finishesDoings_73 : decode cX12_finishesDoings 73 = .ok (.iload_n 1, 1) := by decide +kernel
theorem dX12_finishesDoings_74 : decode cX12_finishesDoings 74 = .ok (.dup2, 1) := by decide +kernel
theorem dX12_finishesDoings_75 : decode cX12_finishesDoings 75 = .ok (.iaload, 1) := by decide +kernel
theorem dX12_finishesDoings_76 : decode cX12_finishesDoings 76 = .ok (.iconst 1, 1) := by decide +kernel
theorem dX12_finishesDoings_77 : decode cX12_finishesDoings 77 = .ok (.iload_n 3, 1) := by decide +kernel
theorem dX12_finishesDoings_78 : decode cX12_finishesDoings 78 = .ok (.ishl, 1) := by decide +kernel
theorem dX12_finishesDoings_79 : decode cX12_finishesDoings 79 = .ok (.ior, 1) := by decide +kernel
theorem dX12_finishesDoings_80 : decode cX12_finishesDoings 80 = .ok (.iastore, 1) := by decide +kernel
theorem dX12_finishesDoings_81 : decode cX12_finishesDoings 81 = .ok (.aload_n 0, 1) := by decide +kernel
theorem dX12_finishesDoings_82 : decode cX12_finishesDoings 82 = .ok (.iload_n 1, 1) := by decide +kernel
theorem dX12_finishesDoings_83 : decode cX12_finishesDoings 83 = .ok (.iload_n 3, 1) := by decide +kernel
theorem dX12_finishesDoings_84 : decode cX12_finishesDoings 84 = .ok (.invokevirtual 452, 3) := by decide +kernel
theorem dX12_finishesDoings_87 : decode cX12_finishesDoings 87 = .ok (.iinc 2 1, 3) := by decide +kernel
theorem dX12_finishesDoings_90 : decode cX12_finishesDoings 90 = .ok (.iinc 3 1, 3) := by decide +kernel
theorem dX12_finishesDoings_93 : decode cX12_finishesDoings 93 = .ok (.goto (-89), 3) := by decide +kernel
theorem dX12_finishesDoings_96 : decode cX12_finishesDoings 96 = .ok (.iload_n 2, 1) := by decide +kernel
theorem dX12_finishesDoings_97 : decode cX12_finishesDoings 97 = .ok (.ireturn, 1) := by decide +kernel
theorem dX12_puts_0 : decode cX12_puts 0 = .ok (.aload_n 0, 1) := by decide +kernel
theorem dX12_puts_1 : decode cX12_puts 1 = .ok (.getfield 159, 3) := by decide +kernel
theorem dX12_puts_4 : decode cX12_puts 4 = .ok (.iconst 5, 1) := by decide +kernel
theorem dX12_puts_5 : decode cX12_puts 5 = .ok (.iload_n 1, 1) := by decide +kernel
theorem dX12_puts_6 : decode cX12_puts 6 = .ok (.imul, 1) := by decide +kernel
theorem dX12_puts_7 : decode cX12_puts 7 = .ok (.iload_n 2, 1) := by decide +kernel
theorem dX12_puts_8 : decode cX12_puts 8 = .ok (.iadd, 1) := by decide +kernel
theorem dX12_puts_9 : decode cX12_puts 9 = .ok (.iload_n 3, 1) := by decide +kernel
theorem dX12_puts_10 : decode cX12_puts 10 = .ok (.iastore, 1) := by decide +kernel
theorem dX12_puts_11 : decode cX12_puts 11 = .ok (.aload_n 0, 1) := by decide +kernel
theorem dX12_puts_12 : decode cX12_puts 12 = .ok (.getfield 162, 3) := by decide +kernel
theorem dX12_puts_15 : decode cX12_puts 15 = .ok (.iconst 5, 1) := by decide +kernel
theorem dX12_puts_16 : decode cX12_puts 16 = .ok (.iload_n 1, 1) := by decide +kernel
theorem dX12_puts_17 : decode cX12_puts 17 = .ok (.imul, 1) := by decide +kernel
theorem dX12_puts_18 : decode cX12_puts 18 = .ok (.iload_n 2, 1) := by decide +kernel
theorem dX12_puts_19 : decode cX12_puts 19 = .ok (.iadd, 1) := by decide +kernel
theorem dX12_puts_20 : decode cX12_puts 20 = .ok (.iconst 0, 1) := by decide +kernel
theorem dX12_puts_21 : decode cX12_puts 21 = .ok (.iastore, 1) := by decide +kernel
theorem dX12_puts_22 : decode cX12_puts 22 = .ok (.return_, 1) := by decide +kernel
theorem dX12_isGone_0 : decode cX12_isGone 0 = .ok (.aload_n 0, 1) := by decide +kernel
theorem dX12_isGone_1 : decode cX12_isGone 1 = .ok (.iload_n 1, 1) := by decide +kernel
theorem dX12_isGone_2 : decode cX12_isGone 2 = .ok (.iload_n 2, 1) := by decide +kernel
theorem dX12_isGone_3 : decode cX12_isGone 3 = .ok (.invokevirtual 437, 3) := by decide +kernel
theorem dX12_isGone_6 : decode cX12_isGone 6 = .ok (.aload_n 0, 1) := by decide +kernel
theorem dX12_isGone_7 : decode cX12_isGone 7 = .ok (.getfield 159, 3) := by decide +kernel
theorem dX12_isGone_10 : decode cX12_isGone 10 = .ok (.iconst 5, 1) := by decide +kernel
theorem dX12_isGone_11 : decode cX12_isGone 11 = .ok (.iload_n 1, 1) := by decide +kernel
theorem dX12_isGone_12 : decode cX12_isGone 12 = .ok (.imul, 1) := by decide +kernel
theorem dX12_isGone_13 : decode cX12_isGone 13 = .ok (.iload_n 2, 1) := by decide +kernel
theorem dX12_isGone_14 : decode cX12_isGone 14 = .ok (.iadd, 1) := by decide +kernel
theorem dX12_isGone_15 : decode cX12_isGone 15 = .ok (.iaload, 1) := by decide +kernel
theorem dX12_isGone_16 : decode cX12_isGone 16 = .ok (.iconst (-1), 1) := by decide +kernel
theorem dX12_isGone_17 : decode cX12_isGone 17 = .ok (.if_icmp .eq 44, 3) := by decide +kernel
theorem dX12_isGone_20 : decode cX12_isGone 20 = .ok (.aload_n 0, 1) := by decide +kernel
theorem dX12_isGone_21 : decode cX12_isGone 21 = .ok (.iconst 1, 1) := by decide +kernel
theorem dX12_isGone_22 : decode cX12_isGone 22 = .ok (.invokevirtual 440, 3) := by decide +kernel
theorem dX12_isGone_25 : decode cX12_isGone 25 = .ok (.ifCond .eq 16, 3) := by decide +kernel
theorem dX12_isGone_28 : decode cX12_isGone 28 = .ok (.aload_n 0, 1) := by decide +kernel
theorem dX12_isGone_29 : decode cX12_isGone 29 = .ok (.iconst 1, 1) := by decide +kernel
theorem dX12_isGone_30 : decode cX12_isGone 30 = .ok (.invokevirtual 443, 3) := by decide +kernel
theorem dX12_isGone_33 : decode cX12_isGone 33 = .ok (.lconst 1, 1) := by decide +kernel
theorem dX12_isGone_34 : decode cX12_isGone 34 = .ok (.lcmp, 1) := by decide +kernel
theorem dX12_isGone_35 : decode cX12_isGone 35 = .ok (.ifCond .ne 26, 3) := by decide +kernel
theorem dX12_isGone_38 : decode cX12_isGone 38 = .ok (.goto 19, 3) := by decide +kernel
theorem dX12_isGone_41 : decode cX12_isGone 41 = .ok (.aload_n 0, 1) := by decide +kernel
theorem dX12_isGone_42 : decode cX12_isGone 42 = .ok (.getfield 186, 3) := by decide +kernel
theorem dX12_isGone_45 : decode cX12_isGone 45 = .ok (.iconst 2, 1) := by decide +kernel
theorem dX12_isGone_46 : decode cX12_isGone 46 = .ok (.iaload, 1) := by decide +kernel
theorem dX12_isGone_47 : decode cX12_isGone 47 = .ok (.aload_n 0, 1) := by decide +kernel
theorem dX12_isGone_48 : decode cX12_isGone 48 = .ok (.getfield 186, 3) := by decide +kernel
theorem dX12_isGone_51 : decode cX12_isGone 51 = .ok (.bipush 6, 2) := by decide +kernel
theorem dX12_isGone_53 : decode cX12_isGone 53 = .ok (.iaload, 1) := by decide +kernel
theorem dX12_isGone_54 : decode cX12_isGone 54 = .ok (.if_icmp .lt 7, 3) := by decide +kernel
theorem dX12_isGone_57 : decode cX12_isGone 57 = .ok (.iconst 1, 1) := by decide +kernel
theorem dX12_isGone_58 : decode cX12_isGone 58 = .ok (.goto 4, 3) := by decide +kernel
theorem dX12_isGone_61 : decode cX12_isGone 61 = .ok (.iconst 0, 1) := by decide +kernel
theorem dX12_isGone_62 : decode cX12_isGone 62 = .ok (.ireturn, 1) := by decide +kernel
theorem dX12_ticks_0 : decode cX12_ticks 0 = .ok (.aload_n 0, 1) := by decide +kernel
theorem dX12_ticks_1 : decode cX12_ticks 1 = .ok (.getfield 156, 3) := by decide +kernel
theorem dX12_ticks_4 : decode cX12_ticks 4 = .ok (.iload_n 1, 1) := by decide +kernel
theorem dX12_ticks_5 : decode cX12_ticks 5 = .ok (.dup2, 1) := by decide +kernel
theorem dX12_ticks_6 : decode cX12_ticks 6 = .ok (.iaload, 1) := by decide +kernel
theorem dX12_ticks_7 : decode cX12_ticks 7 = .ok (.iconst 1, 1) := by decide +kernel
theorem dX12_ticks_8 : decode cX12_ticks 8 = .ok (.iadd, 1) := by decide +kernel
theorem dX12_ticks_9 : decode cX12_ticks 9 = .ok (.iastore, 1) := by decide +kernel
theorem dX12_ticks_10 : decode cX12_ticks 10 = .ok (.iconst 0, 1) := by decide +kernel
theorem dX12_ticks_11 : decode cX12_ticks 11 = .ok (.istore_n 2, 1) := by decide +kernel
theorem dX12_ticks_12 : decode cX12_ticks 12 = .ok (.iload_n 2, 1) := by decide +kernel
theorem dX12_ticks_13 : decode cX12_ticks 13 = .ok (.aload_n 0, 1) := by decide +kernel
theorem dX12_ticks_14 : decode cX12_ticks 14 = .ok (.getfield 63, 3) := by decide +kernel
theorem dX12_ticks_17 : decode cX12_ticks 17 = .ok (.aload_n 0, 1) := by decide +kernel
theorem dX12_ticks_18 : decode cX12_ticks 18 = .ok (.getfield 51, 3) := by decide +kernel
theorem dX12_ticks_21 : decode cX12_ticks 21 = .ok (.iaload, 1) := by decide +kernel
theorem dX12_ticks_22 : decode cX12_ticks 22 = .ok (.if_icmp .ge 55, 3) := by decide +kernel
theorem dX12_ticks_25 : decode cX12_ticks 25 = .ok (.aload_n 0, 1) := by decide +kernel
theorem dX12_ticks_26 : decode cX12_ticks 26 = .ok (.getfield 162, 3) := by decide +kernel
theorem dX12_ticks_29 : decode cX12_ticks 29 = .ok (.iconst 5, 1) := by decide +kernel
theorem dX12_ticks_30 : decode cX12_ticks 30 = .ok (.iload_n 1, 1) := by decide +kernel
theorem dX12_ticks_31 : decode cX12_ticks 31 = .ok (.imul, 1) := by decide +kernel
theorem dX12_ticks_32 : decode cX12_ticks 32 = .ok (.iload_n 2, 1) := by decide +kernel
theorem dX12_ticks_33 : decode cX12_ticks 33 = .ok (.iadd, 1) := by decide +kernel
theorem dX12_ticks_34 : decode cX12_ticks 34 = .ok (.iaload, 1) := by decide +kernel
theorem dX12_ticks_35 : decode cX12_ticks 35 = .ok (.sipush 999, 3) := by decide +kernel
theorem dX12_ticks_38 : decode cX12_ticks 38 = .ok (.if_icmp .ge 17, 3) := by decide +kernel
theorem dX12_ticks_41 : decode cX12_ticks 41 = .ok (.aload_n 0, 1) := by decide +kernel
theorem dX12_ticks_42 : decode cX12_ticks 42 = .ok (.getfield 162, 3) := by decide +kernel
theorem dX12_ticks_45 : decode cX12_ticks 45 = .ok (.iconst 5, 1) := by decide +kernel
theorem dX12_ticks_46 : decode cX12_ticks 46 = .ok (.iload_n 1, 1) := by decide +kernel
theorem dX12_ticks_47 : decode cX12_ticks 47 = .ok (.imul, 1) := by decide +kernel
theorem dX12_ticks_48 : decode cX12_ticks 48 = .ok (.iload_n 2, 1) := by decide +kernel
theorem dX12_ticks_49 : decode cX12_ticks 49 = .ok (.iadd, 1) := by decide +kernel
theorem dX12_ticks_50 : decode cX12_ticks 50 = .ok (.dup2, 1) := by decide +kernel
theorem dX12_ticks_51 : decode cX12_ticks 51 = .ok (.iaload, 1) := by decide +kernel
theorem dX12_ticks_52 : decode cX12_ticks 52 = .ok (.iconst 1, 1) := by decide +kernel
theorem dX12_ticks_53 : decode cX12_ticks 53 = .ok (.iadd, 1) := by decide +kernel
theorem dX12_ticks_54 : decode cX12_ticks 54 = .ok (.iastore, 1) := by decide +kernel
theorem dX12_ticks_55 : decode cX12_ticks 55 = .ok (.aload_n 0, 1) := by decide +kernel
theorem dX12_ticks_56 : decode cX12_ticks 56 = .ok (.iload_n 1, 1) := by decide +kernel
theorem dX12_ticks_57 : decode cX12_ticks 57 = .ok (.iload_n 2, 1) := by decide +kernel
theorem dX12_ticks_58 : decode cX12_ticks 58 = .ok (.invokevirtual 455, 3) := by decide +kernel
theorem dX12_ticks_61 : decode cX12_ticks 61 = .ok (.ifCond .eq 10, 3) := by decide +kernel
theorem dX12_ticks_64 : decode cX12_ticks 64 = .ok (.aload_n 0, 1) := by decide +kernel
theorem dX12_ticks_65 : decode cX12_ticks 65 = .ok (.iload_n 1, 1) := by decide +kernel
theorem dX12_ticks_66 : decode cX12_ticks 66 = .ok (.iload_n 2, 1) := by decide +kernel
theorem dX12_ticks_67 : decode cX12_ticks 67 = .ok (.iconst (-1), 1) := by decide +kernel
theorem dX12_ticks_68 : decode cX12_ticks 68 = .ok (.invokevirtual 457, 3) := by decide +kernel
theorem dX12_ticks_71 : decode cX12_ticks 71 = .ok (.iinc 2 1, 3) := by decide +kernel
theorem dX12_ticks_74 : decode cX12_ticks 74 = .ok (.goto (-62), 3) := by decide +kernel
theorem dX12_ticks_77 : decode cX12_ticks 77 = .ok (.return_, 1) := by decide +kernel
theorem dX12_passes_0 : decode cX12_passes 0 = .ok (.aload_n 0, 1) := by decide +kernel
theorem dX12_passes_1 : decode cX12_passes 1 = .ok (.iload_n 1, 1) := by decide +kernel
theorem dX12_passes_2 : decode cX12_passes 2 = .ok (.invokevirtual 461, 3) := by decide +kernel
theorem dX12_passes_5 : decode cX12_passes 5 = .ok (.aload_n 0, 1) := by decide +kernel
theorem dX12_passes_6 : decode cX12_passes 6 = .ok (.iload_n 1, 1) := by decide +kernel
theorem dX12_passes_7 : decode cX12_passes 7 = .ok (.invokevirtual 412, 3) := by decide +kernel
theorem dX12_passes_10 : decode cX12_passes 10 = .ok (.ireturn, 1) := by decide +kernel
theorem dX12_bits_0 : decode cX12_bits 0 = .ok (.iconst 0, 1) := by decide +kernel
theorem dX12_bits_1 : decode cX12_bits 1 = .ok (.istore_n 1, 1) := by decide +kernel
theorem dX12_bits_2 : decode cX12_bits 2 = .ok (.iload_n 0, 1) := by decide +kernel
theorem dX12_bits_3 : decode cX12_bits 3 = .ok (.istore_n 2, 1) := by decide +kernel
theorem dX12_bits_4 : decode cX12_bits 4 = .ok (.iload_n 2, 1) := by decide +kernel
theorem dX12_bits_5 : decode cX12_bits 5 = .ok (.ifCond .eq 15, 3) := by decide +kernel
theorem dX12_bits_8 : decode cX12_bits 8 = .ok (.iinc 1 1, 3) := by decide +kernel
theorem dX12_bits_11 : decode cX12_bits 11 = .ok (.iload_n 2, 1) := by decide +kernel
theorem dX12_bits_12 : decode cX12_bits 12 = .ok (.iload_n 2, 1) := by decide +kernel
theorem dX12_bits_13 : decode cX12_bits 13 = .ok (.iconst 1, 1) := by decide +kernel
theorem dX12_bits_14 : decode cX12_bits 14 = .ok (.isub, 1) := by decide +kernel
theorem dX12_bits_15 : decode cX12_bits 15 = .ok (.iand, 1) := by decide +kernel
theorem dX12_bits_16 : decode cX12_bits 16 = .ok (.istore_n 2, 1) := by decide +kernel
theorem dX12_bits_17 : decode cX12_bits 17 = .ok (.goto (-13), 3) := by decide +kernel
theorem dX12_bits_20 : decode cX12_bits 20 = .ok (.iload_n 1, 1) := by decide +kernel
theorem dX12_bits_21 : decode cX12_bits 21 = .ok (.ireturn, 1) := by decide +kernel
theorem dX12_isThing_0 : decode cX12_isThing 0 = .ok (.iload_n 1, 1) := by decide +kernel
theorem dX12_isThing_1 : decode cX12_isThing 1 = .ok (.ifCond .lt 20, 3) := by decide +kernel
theorem dX12_isThing_4 : decode cX12_isThing 4 = .ok (.iload_n 1, 1) := by decide +kernel
theorem dX12_isThing_5 : decode cX12_isThing 5 = .ok (.aload_n 0, 1) := by decide +kernel
theorem dX12_isThing_6 : decode cX12_isThing 6 = .ok (.getfield 54, 3) := by decide +kernel
theorem dX12_isThing_9 : decode cX12_isThing 9 = .ok (.aload_n 0, 1) := by decide +kernel
theorem dX12_isThing_10 : decode cX12_isThing 10 = .ok (.getfield 51, 3) := by decide +kernel
theorem dX12_isThing_13 : decode cX12_isThing 13 = .ok (.iaload, 1) := by decide +kernel
theorem dX12_isThing_14 : decode cX12_isThing 14 = .ok (.if_icmp .ge 7, 3) := by decide +kernel
theorem dX12_isThing_17 : decode cX12_isThing 17 = .ok (.iconst 1, 1) := by decide +kernel
theorem dX12_isThing_18 : decode cX12_isThing 18 = .ok (.goto 4, 3) := by decide +kernel
theorem dX12_isThing_21 : decode cX12_isThing 21 = .ok (.iconst 0, 1) := by decide +kernel
theorem dX12_isThing_22 : decode cX12_isThing 22 = .ok (.ireturn, 1) := by decide +kernel
theorem dX12_isCorner_0 : decode cX12_isCorner 0 = .ok (.iload_n 1, 1) := by decide +kernel
theorem dX12_isCorner_1 : decode cX12_isCorner 1 = .ok (.ifCond .lt 20, 3) := by decide +kernel
theorem dX12_isCorner_4 : decode cX12_isCorner 4 = .ok (.iload_n 1, 1) := by decide +kernel
theorem dX12_isCorner_5 : decode cX12_isCorner 5 = .ok (.aload_n 0, 1) := by decide +kernel
theorem dX12_isCorner_6 : decode cX12_isCorner 6 = .ok (.getfield 63, 3) := by decide +kernel
theorem dX12_isCorner_9 : decode cX12_isCorner 9 = .ok (.aload_n 0, 1) := by decide +kernel
theorem dX12_isCorner_10 : decode cX12_isCorner 10 = .ok (.getfield 51, 3) := by decide +kernel
theorem dX12_isCorner_13 : decode cX12_isCorner 13 = .ok (.iaload, 1) := by decide +kernel
theorem dX12_isCorner_14 : decode cX12_isCorner 14 = .ok (.if_icmp .ge 7, 3) := by decide +kernel
theorem dX12_isCorner_17 : decode cX12_isCorner 17 = .ok (.iconst 1, 1) := by decide +kernel
theorem dX12_isCorner_18 : decode cX12_isCorner 18 = .ok (.goto 4, 3) := by decide +kernel
theorem dX12_isCorner_21 : decode cX12_isCorner 21 = .ok (.iconst 0, 1) := by decide +kernel
theorem dX12_isCorner_22 : decode cX12_isCorner 22 = .ok (.ireturn, 1) := by decide +kernel
theorem dX12_isDoing_0 : decode cX12_isDoing 0 = .ok (.iload_n 1, 1) := by decide +kernel
theorem dX12_isDoing_1 : decode cX12_isDoing 1 = .ok (.ifCond .lt 20, 3) := by decide +kernel
theorem dX12_isDoing_4 : decode cX12_isDoing 4 = .ok (.iload_n 1, 1) := by decide +kernel
theorem dX12_isDoing_5 : decode cX12_isDoing 5 = .ok (.aload_n 0, 1) := by decide +kernel
theorem dX12_isDoing_6 : decode cX12_isDoing 6 = .ok (.getfield 78, 3) := by decide +kernel
theorem dX12_isDoing_9 : decode cX12_isDoing 9 = .ok (.aload_n 0, 1) := by decide +kernel
theorem dX12_isDoing_10 : decode cX12_isDoing 10 = .ok (.getfield 51, 3) := by decide +kernel
theorem dX12_isDoing_13 : decode cX12_isDoing 13 = .ok (.iaload, 1) := by decide +kernel
theorem dX12_isDoing_14 : decode cX12_isDoing 14 = .ok (.if_icmp .ge 7, 3) := by decide +kernel
theorem dX12_isDoing_17 : decode cX12_isDoing 17 = .ok (.iconst 1, 1) := by decide +kernel
theorem dX12_isDoing_18 : decode cX12_isDoing 18 = .ok (.goto 4, 3) := by decide +kernel
theorem dX12_isDoing_21 : decode cX12_isDoing 21 = .ok (.iconst 0, 1) := by decide +kernel
theorem dX12_isDoing_22 : decode cX12_isDoing 22 = .ok (.ireturn, 1) := by decide +kernel
theorem dX12_has_0 : decode cX12_has 0 = .ok (.iconst 0, 1) := by decide +kernel
theorem dX12_has_1 : decode cX12_has 1 = .ok (.istore_n 2, 1) := by decide +kernel
theorem dX12_has_2 : decode cX12_has 2 = .ok (.iload_n 1, 1) := by decide +kernel
theorem dX12_has_3 : decode cX12_has 3 = .ok (.tableswitch 178 0 10 #[57, 67, 77, 87, 97, 104, 114, 155, 162, 167, 172], 57) := by decide +kernel
theorem dX12_has_60 : decode cX12_has 60 = .ok (.aload_n 0, 1) := by decide +kernel
theorem dX12_has_61 : decode cX12_has 61 = .ok (.getfield 54, 3) := by decide +kernel
theorem dX12_has_64 : decode cX12_has 64 = .ok (.aload_n 0, 1) := by decide +kernel
theorem dX12_has_65 : decode cX12_has 65 = .ok (.getfield 51, 3) := by decide +kernel
theorem dX12_has_68 : decode cX12_has 68 = .ok (.iaload, 1) := by decide +kernel
theorem dX12_has_69 : decode cX12_has 69 = .ok (.ireturn, 1) := by decide +kernel
theorem dX12_has_70 : decode cX12_has 70 = .ok (.aload_n 0, 1) := by decide +kernel
theorem dX12_has_71 : decode cX12_has 71 = .ok (.getfield 63, 3) := by decide +kernel
theorem dX12_has_74 : decode cX12_has 74 = .ok (.aload_n 0, 1) := by decide +kernel
theorem dX12_has_75 : decode cX12_has 75 = .ok (.getfield 51, 3) := by decide +kernel
theorem dX12_has_78 : decode cX12_has 78 = .ok (.iaload, 1) := by decide +kernel
theorem dX12_has_79 : decode cX12_has 79 = .ok (.ireturn, 1) := by decide +kernel
theorem dX12_has_80 : decode cX12_has 80 = .ok (.aload_n 0, 1) := by decide +kernel
theorem dX12_has_81 : decode cX12_has 81 = .ok (.getfield 69, 3) := by decide +kernel
theorem dX12_has_84 : decode cX12_has 84 = .ok (.aload_n 0, 1) := by decide +kernel
theorem dX12_has_85 : decode cX12_has 85 = .ok (.getfield 51, 3) := by decide +kernel
theorem dX12_has_88 : decode cX12_has 88 = .ok (.iaload, 1) := by decide +kernel
theorem dX12_has_89 : decode cX12_has 89 = .ok (.ireturn, 1) := by decide +kernel
theorem dX12_has_90 : decode cX12_has 90 = .ok (.aload_n 0, 1) := by decide +kernel
theorem dX12_has_91 : decode cX12_has 91 = .ok (.getfield 78, 3) := by decide +kernel
theorem dX12_has_94 : decode cX12_has 94 = .ok (.aload_n 0, 1) := by decide +kernel
theorem dX12_has_95 : decode cX12_has 95 = .ok (.getfield 51, 3) := by decide +kernel
theorem dX12_has_98 : decode cX12_has 98 = .ok (.iaload, 1) := by decide +kernel
theorem dX12_has_99 : decode cX12_has 99 = .ok (.ireturn, 1) := by decide +kernel
theorem dX12_has_100 : decode cX12_has 100 = .ok (.aload_n 0, 1) := by decide +kernel
theorem dX12_has_101 : decode cX12_has 101 = .ok (.getfield 156, 3) := by decide +kernel
theorem dX12_has_104 : decode cX12_has 104 = .ok (.iconst 0, 1) := by decide +kernel
theorem dX12_has_105 : decode cX12_has 105 = .ok (.iaload, 1) := by decide +kernel
theorem dX12_has_106 : decode cX12_has 106 = .ok (.ireturn, 1) := by decide +kernel
theorem dX12_has_107 : decode cX12_has 107 = .ok (.aload_n 0, 1) := by decide +kernel
theorem dX12_has_108 : decode cX12_has 108 = .ok (.getfield 165, 3) := by decide +kernel
theorem dX12_has_111 : decode cX12_has 111 = .ok (.iconst 0, 1) := by decide +kernel
theorem dX12_has_112 : decode cX12_has 112 = .ok (.iaload, 1) := by decide +kernel
theorem dX12_has_113 : decode cX12_has 113 = .ok (.invokestatic 464, 3) := by decide +kernel
theorem dX12_has_116 : decode cX12_has 116 = .ok (.ireturn, 1) := by decide +kernel
theorem dX12_has_117 : decode cX12_has 117 = .ok (.iconst 0, 1) := by decide +kernel
theorem dX12_has_118 : decode cX12_has 118 = .ok (.istore_n 3, 1) := by decide +kernel
theorem dX12_has_119 : decode cX12_has 119 = .ok (.iload_n 3, 1) := by decide +kernel
theorem dX12_has_120 : decode cX12_has 120 = .ok (.aload_n 0, 1) := by decide +kernel
theorem dX12_has_121 : decode cX12_has 121 = .ok (.getfield 63, 3) := by decide +kernel
theorem dX12_has_124 : decode cX12_has 124 = .ok (.aload_n 0, 1) := by decide +kernel
theorem dX12_has_125 : decode cX12_has 125 = .ok (.getfield 51, 3) := by decide +kernel
theorem dX12_has_128 : decode cX12_has 128 = .ok (.iaload, 1) := by decide +kernel
theorem dX12_has_129 : decode cX12_has 129 = .ok (.if_icmp .ge 27, 3) := by decide +kernel
theorem dX12_has_132 : decode cX12_has 132 = .ok (.iload_n 2, 1) := by decide +kernel
theorem dX12_has_133 : decode cX12_has 133 = .ok (.aload_n 0, 1) := by decide +kernel
theorem dX12_has_134 : decode cX12_has 134 = .ok (.getfield 159, 3) := by decide +kernel
theorem dX12_has_137 : decode cX12_has 137 = .ok (.iload_n 3, 1) := by decide +kernel
theorem dX12_has_138 : decode cX12_has 138 = .ok (.iaload, 1) := by decide +kernel
theorem dX12_has_139 : decode cX12_has 139 = .ok (.iconst (-1), 1) := by decide +kernel
theorem dX12_has_140 : decode cX12_has 140 = .ok (.if_icmp .ne 7, 3) := by decide +kernel
theorem dX12_has_143 : decode cX12_has 143 = .ok (.iconst 1, 1) := by decide +kernel
theorem dX12_has_144 : decode cX12_has 144 = .ok (.goto 4, 3) := by decide +kernel
theorem dX12_has_147 : decode cX12_has 147 = .ok (.iconst 0, 1) := by decide +kernel
theorem dX12_has_148 : decode cX12_has 148 = .ok (.iadd, 1) := by decide +kernel
theorem dX12_has_149 : decode cX12_has 149 = .ok (.istore_n 2, 1) := by decide +kernel
theorem dX12_has_150 : decode cX12_has 150 = .ok (.iinc 3 1, 3) := by decide +kernel
theorem dX12_has_153 : decode cX12_has 153 = .ok (.goto (-34), 3) := by decide +kernel
theorem dX12_has_156 : decode cX12_has 156 = .ok (.iload_n 2, 1) := by decide +kernel
theorem dX12_has_157 : decode cX12_has 157 = .ok (.ireturn, 1) := by decide +kernel
theorem dX12_has_158 : decode cX12_has 158 = .ok (.aload_n 0, 1) := by decide +kernel
theorem dX12_has_159 : decode cX12_has 159 = .ok (.getfield 168, 3) := by decide +kernel
theorem dX12_has_162 : decode cX12_has 162 = .ok (.iconst 0, 1) := by decide +kernel
theorem dX12_has_163 : decode cX12_has 163 = .ok (.iaload, 1) := by decide +kernel
theorem dX12_has_164 : decode cX12_has 164 = .ok (.ireturn, 1) := by decide +kernel
theorem dX12_has_165 : decode cX12_has 165 = .ok (.aload_n 0, 1) := by decide +kernel
theorem dX12_has_166 : decode cX12_has 166 = .ok (.getfield 198, 3) := by decide +kernel
theorem dX12_has_169 : decode cX12_has 169 = .ok (.ireturn, 1) := by decide +kernel
theorem dX12_has_170 : decode cX12_has 170 = .ok (.aload_n 0, 1) := by decide +kernel
theorem dX12_has_171 : decode cX12_has 171 = .ok (.getfield 177, 3) := by decide +kernel
theorem dX12_has_174 : decode cX12_has 174 = .ok (.ireturn, 1) := by decide +kernel
theorem dX12_has_175 : decode cX12_has 175 = .ok (.aload_n 0, 1) := by decide +kernel
theorem dX12_has_176 : decode cX12_has 176 = .ok (.getfield 180, 3) := by decide +kernel
theorem dX12_has_179 : decode cX12_has 179 = .ok (.l2i, 1) := by decide +kernel
theorem dX12_has_180 : decode cX12_has 180 = .ok (.ireturn, 1) := by decide +kernel
theorem dX12_has_181 : decode cX12_has 181 = .ok (.iconst (-1), 1) := by decide +kernel
theorem dX12_has_182 : decode cX12_has 182 = .ok (.ireturn, 1) := by decide +kernel
theorem dX12_letter_0 : decode cX12_letter 0 = .ok (.iload_n 1, 1) := by decide +kernel
theorem dX12_letter_1 : decode cX12_letter 1 = .ok (.iconst 0, 1) := by decide +kernel
theorem dX12_letter_2 : decode cX12_letter 2 = .ok (.iconst 2, 1) := by decide +kernel
theorem dX12_letter_3 : decode cX12_letter 3 = .ok (.invokestatic 305, 3) := by decide +kernel
theorem dX12_letter_6 : decode cX12_letter 6 = .ok (.ifCond .eq 31, 3) := by decide +kernel
theorem dX12_letter_9 : decode cX12_letter 9 = .ok (.iload_n 2, 1) := by decide +kernel
theorem dX12_letter_10 : decode cX12_letter 10 = .ok (.iconst 0, 1) := by decide +kernel
theorem dX12_letter_11 : decode cX12_letter 11 = .ok (.aload_n 0, 1) := by decide +kernel
theorem dX12_letter_12 : decode cX12_letter 12 = .ok (.aload_n 0, 1) := by decide +kernel
theorem dX12_letter_13 : decode cX12_letter 13 = .ok (.getfield 51, 3) := by decide +kernel
theorem dX12_letter_16 : decode cX12_letter 16 = .ok (.iload_n 1, 1) := by decide +kernel
theorem dX12_letter_17 : decode cX12_letter 17 = .ok (.invokevirtual 297, 3) := by decide +kernel
theorem dX12_letter_20 : decode cX12_letter 20 = .ok (.iconst 1, 1) := by decide +kernel
theorem dX12_letter_21 : decode cX12_letter 21 = .ok (.isub, 1) := by decide +kernel
theorem dX12_letter_22 : decode cX12_letter 22 = .ok (.invokestatic 305, 3) := by decide +kernel
theorem dX12_letter_25 : decode cX12_letter 25 = .ok (.ifCond .eq 12, 3) := by decide +kernel
theorem dX12_letter_28 : decode cX12_letter 28 = .ok (.iload_n 3, 1) := by decide +kernel
theorem dX12_letter_29 : decode cX12_letter 29 = .ok (.iconst 0, 1) := by decide +kernel
theorem dX12_letter_30 : decode cX12_letter 30 = .ok (.iconst 5, 1) := by decide +kernel
theorem dX12_letter_31 : decode cX12_letter 31 = .ok (.invokestatic 305, 3) := by decide +kernel
theorem dX12_letter_34 : decode cX12_letter 34 = .ok (.ifCond .ne 5, 3) := by decide +kernel
theorem dX12_letter_37 : decode cX12_letter 37 = .ok (.iconst (-1), 1) := by decide +kernel
theorem dX12_letter_38 : decode cX12_letter 38 = .ok (.ireturn, 1) := by decide +kernel
theorem dX12_letter_39 : decode cX12_letter 39 = .ok (.aload_n 0, 1) := by decide +kernel
theorem dX12_letter_40 : decode cX12_letter 40 = .ok (.aload_n 0, 1) := by decide +kernel
theorem dX12_letter_41 : decode cX12_letter 41 = .ok (.getfield 51, 3) := by decide +kernel
theorem dX12_letter_44 : decode cX12_letter 44 = .ok (.iload_n 1, 1) := by decide +kernel
theorem dX12_letter_45 : decode cX12_letter 45 = .ok (.iload_n 2, 1) := by decide +kernel
theorem dX12_letter_46 : decode cX12_letter 46 = .ok (.invokevirtual 301, 3) := by decide +kernel
theorem dX12_letter_49 : decode cX12_letter 49 = .ok (.lstore 4, 2) := by decide +kernel
theorem dX12_letter_51 : decode cX12_letter 51 = .ok (.iconst 0, 1) := by decide +kernel
theorem dX12_letter_52 : decode cX12_letter 52 = .ok (.istore 6, 2) := by decide +kernel
theorem dX12_letter_54 : decode cX12_letter 54 = .ok (.lload 4, 2) := by decide +kernel
theorem dX12_letter_56 : decode cX12_letter 56 = .ok (.lstore 7, 2) := by decide +kernel
theorem dX12_letter_58 : decode cX12_letter 58 = .ok (.lload 7, 2) := by decide +kernel
theorem dX12_letter_60 : decode cX12_letter 60 = .ok (.lconst 0, 1) := by decide +kernel
theorem dX12_letter_61 : decode cX12_letter 61 = .ok (.lcmp, 1) := by decide +kernel
theorem dX12_letter_62 : decode cX12_letter 62 = .ok (.ifCond .le 16, 3) := by decide +kernel
theorem dX12_letter_65 : decode cX12_letter 65 = .ok (.iinc 6 1, 3) := by decide +kernel
theorem dX12_letter_68 : decode cX12_letter 68 = .ok (.lload 7, 2) := by decide +kernel
theorem dX12_letter_70 : decode cX12_letter 70 = .ok (.bipush 8, 2) := by decide +kernel
theorem dX12_letter_72 : decode cX12_letter 72 = .ok (.lshr, 1) := by decide +kernel
theorem dX12_letter_73 : decode cX12_letter 73 = .ok (.lstore 7, 2) := by decide +kernel
theorem dX12_letter_75 : decode cX12_letter 75 = .ok (.goto (-17), 3) := by decide +kernel
theorem dX12_letter_78 : decode cX12_letter 78 = .ok (.iload_n 3, 1) := by decide +kernel
theorem dX12_letter_79 : decode cX12_letter 79 = .ok (.iload 6, 2) := by decide +kernel
theorem dX12_letter_81 : decode cX12_letter 81 = .ok (.if_icmp .lt 7, 3) := by decide +kernel
theorem dX12_letter_84 : decode cX12_letter 84 = .ok (.iconst 0, 1) := by decide +kernel
theorem dX12_letter_85 : decode cX12_letter 85 = .ok (.goto 25, 3) := by decide +kernel
theorem dX12_letter_88 : decode cX12_letter 88 = .ok (.lload 4, 2) := by decide +kernel
theorem dX12_letter_90 : decode cX12_letter 90 = .ok (.bipush 8, 2) := by decide +kernel
theorem dX12_letter_92 : decode cX12_letter 92 = .ok (.iload 6, 2) := by decide +kernel
theorem dX12_letter_94 : decode cX12_letter 94 = .ok (.iconst 1, 1) := by decide +kernel
theorem dX12_letter_95 : decode cX12_letter 95 = .ok (.isub, 1) := by decide +kernel
theorem dX12_letter_96 : decode cX12_letter 96 = .ok (.iload_n 3, 1) := by decide +kernel
theorem dX12_letter_97 : decode cX12_letter 97 = .ok (.isub, 1) := by decide +kernel
theorem dX12_letter_98 : decode cX12_letter 98 = .ok (.imul, 1) := by decide +kernel
theorem dX12_letter_99 : decode cX12_letter 99 = .ok (.lshr, 1) := by decide +kernel
theorem dX12_letter_100 : decode cX12_letter 100 = .ok (.ldc2_w 467, 3) := by decide +kernel
theorem dX12_letter_103 : decode cX12_letter 103 = .ok (.land, 1) := by decide +kernel
theorem dX12_letter_104 : decode cX12_letter 104 = .ok (.l2i, 1) := by decide +kernel
theorem dX12_letter_105 : decode cX12_letter 105 = .ok (.bipush 97, 2) := by decide +kernel
theorem dX12_letter_107 : decode cX12_letter 107 = .ok (.isub, 1) := by decide +kernel
theorem dX12_letter_108 : decode cX12_letter 108 = .ok (.iconst 1, 1) := by decide +kernel
theorem dX12_letter_109 : decode cX12_letter 109 = .ok (.iadd, 1) := by decide +kernel
theorem dX12_letter_110 : decode cX12_letter 110 = .ok (.ireturn, 1) := by decide +kernel
theorem dX12_thing_0 : decode cX12_thing 0 = .ok (.aload_n 0, 1) := by decide +kernel
theorem dX12_thing_1 : decode cX12_thing 1 = .ok (.iload_n 1, 1) := by decide +kernel
theorem dX12_thing_2 : decode cX12_thing 2 = .ok (.invokevirtual 469, 3) := by decide +kernel
theorem dX12_thing_5 : decode cX12_thing 5 = .ok (.ifCond .ne 7, 3) := by decide +kernel
theorem dX12_thing_8 : decode cX12_thing 8 = .ok (.iconst (-1), 1) := by decide +kernel
theorem dX12_thing_9 : decode cX12_thing 9 = .ok (.goto 47, 3) := by decide +kernel
theorem dX12_thing_12 : decode cX12_thing 12 = .ok (.iload_n 2, 1) := by decide +kernel
theorem dX12_thing_13 : decode cX12_thing 13 = .ok (.ifCond .ne 20, 3) := by decide +kernel
theorem dX12_thing_16 : decode cX12_thing 16 = .ok (.aload_n 0, 1) := by decide +kernel
theorem dX12_thing_17 : decode cX12_thing 17 = .ok (.getfield 57, 3) := by decide +kernel
theorem dX12_thing_20 : decode cX12_thing 20 = .ok (.bipush 6, 2) := by decide +kernel
theorem dX12_thing_22 : decode cX12_thing 22 = .ok (.aload_n 0, 1) := by decide +kernel
theorem dX12_thing_23 : decode cX12_thing 23 = .ok (.getfield 51, 3) := by decide +kernel
theorem dX12_thing_26 : decode cX12_thing 26 = .ok (.imul, 1) := by decide +kernel
theorem dX12_thing_27 : decode cX12_thing 27 = .ok (.iload_n 1, 1) := by decide +kernel
theorem dX12_thing_28 : decode cX12_thing 28 = .ok (.iadd, 1) := by decide +kernel
theorem dX12_thing_29 : decode cX12_thing 29 = .ok (.iaload, 1) := by decide +kernel
theorem dX12_thing_30 : decode cX12_thing 30 = .ok (.goto 26, 3) := by decide +kernel
theorem dX12_thing_33 : decode cX12_thing 33 = .ok (.iload_n 2, 1) := by decide +kernel
theorem dX12_thing_34 : decode cX12_thing 34 = .ok (.iconst 1, 1) := by decide +kernel
theorem dX12_thing_35 : decode cX12_thing 35 = .ok (.if_icmp .ne 20, 3) := by decide +kernel
theorem dX12_thing_38 : decode cX12_thing 38 = .ok (.aload_n 0, 1) := by decide +kernel
theorem dX12_thing_39 : decode cX12_thing 39 = .ok (.getfield 60, 3) := by decide +kernel
theorem dX12_thing_42 : decode cX12_thing 42 = .ok (.bipush 6, 2) := by decide +kernel
theorem dX12_thing_44 : decode cX12_thing 44 = .ok (.aload_n 0, 1) := by decide +kernel
theorem dX12_thing_45 : decode cX12_thing 45 = .ok (.getfield 51, 3) := by decide +kernel
theorem dX12_thing_48 : decode cX12_thing 48 = .ok (.imul, 1) := by decide +kernel
theorem dX12_thing_49 : decode cX12_thing 49 = .ok (.iload_n 1, 1) := by decide +kernel
theorem dX12_thing_50 : decode cX12_thing 50 = .ok (.iadd, 1) := by decide +kernel
theorem dX12_thing_51 : decode cX12_thing 51 = .ok (.iaload, 1) := by decide +kernel
theorem dX12_thing_52 : decode cX12_thing 52 = .ok (.goto 4, 3) := by decide +kernel
theorem dX12_thing_55 : decode cX12_thing 55 = .ok (.iconst (-1), 1) := by decide +kernel
theorem dX12_thing_56 : decode cX12_thing 56 = .ok (.ireturn, 1) := by decide +kernel
theorem dX12_corner_0 : decode cX12_corner 0 = .ok (.aload_n 0, 1) := by decide +kernel
theorem dX12_corner_1 : decode cX12_corner 1 = .ok (.iload_n 1, 1) := by decide +kernel
theorem dX12_corner_2 : decode cX12_corner 2 = .ok (.invokevirtual 472, 3) := by decide +kernel
theorem dX12_corner_5 : decode cX12_corner 5 = .ok (.ifCond .ne 7, 3) := by decide +kernel
theorem dX12_corner_8 : decode cX12_corner 8 = .ok (.iconst (-1), 1) := by decide +kernel
theorem dX12_corner_9 : decode cX12_corner 9 = .ok (.goto 45, 3) := by decide +kernel
theorem dX12_corner_12 : decode cX12_corner 12 = .ok (.iload_n 2, 1) := by decide +kernel
theorem dX12_corner_13 : decode cX12_corner 13 = .ok (.ifCond .ne 12, 3) := by decide +kernel
theorem dX12_corner_16 : decode cX12_corner 16 = .ok (.aload_n 0, 1) := by decide +kernel
theorem dX12_corner_17 : decode cX12_corner 17 = .ok (.getfield 159, 3) := by decide +kernel
theorem dX12_corner_20 : decode cX12_corner 20 = .ok (.iload_n 1, 1) := by decide +kernel
theorem dX12_corner_21 : decode cX12_corner 21 = .ok (.iaload, 1) := by decide +kernel
theorem dX12_corner_22 : decode cX12_corner 22 = .ok (.goto 32, 3) := by decide +kernel
theorem dX12_corner_25 : decode cX12_corner 25 = .ok (.iload_n 2, 1) := by decide +kernel
theorem dX12_corner_26 : decode cX12_corner 26 = .ok (.iconst 1, 1) := by decide +kernel
theorem dX12_corner_27 : decode cX12_corner 27 = .ok (.if_icmp .ne 12, 3) := by decide +kernel
theorem dX12_corner_30 : decode cX12_corner 30 = .ok (.aload_n 0, 1) := by decide +kernel
theorem dX12_corner_31 : decode cX12_corner 31 = .ok (.getfield 162, 3) := by decide +kernel
theorem dX12_corner_34 : decode cX12_corner 34 = .ok (.iload_n 1, 1) := by decide +kernel
theorem dX12_corner_35 : decode cX12_corner 35 = .ok (.iaload, 1) := by decide +kernel
theorem dX12_corner_36 : decode cX12_corner 36 = .ok (.goto 18, 3) := by decide +kernel
theorem dX12_corner_39 : decode cX12_corner 39 = .ok (.iload_n 2, 1) := by decide +kernel
theorem dX12_corner_40 : decode cX12_corner 40 = .ok (.iconst 2, 1) := by decide +kernel
theorem dX12_corner_41 : decode cX12_corner 41 = .ok (.if_icmp .ne 12, 3) := by decide +kernel
theorem dX12_corner_44 : decode cX12_corner 44 = .ok (.aload_n 0, 1) := by decide +kernel
theorem dX12_corner_45 : decode cX12_corner 45 = .ok (.iconst 0, 1) := by decide +kernel
theorem dX12_corner_46 : decode cX12_corner 46 = .ok (.iload_n 1, 1) := by decide +kernel
theorem dX12_corner_47 : decode cX12_corner 47 = .ok (.invokevirtual 449, 3) := by decide +kernel
theorem dX12_corner_50 : decode cX12_corner 50 = .ok (.goto 4, 3) := by decide +kernel
theorem dX12_corner_53 : decode cX12_corner 53 = .ok (.iconst (-1), 1) := by decide +kernel
theorem dX12_corner_54 : decode cX12_corner 54 = .ok (.ireturn, 1) := by decide +kernel
theorem dX12_doing_0 : decode cX12_doing 0 = .ok (.aload_n 0, 1) := by decide +kernel
theorem dX12_doing_1 : decode cX12_doing 1 = .ok (.iload_n 1, 1) := by decide +kernel
theorem dX12_doing_2 : decode cX12_doing 2 = .ok (.invokevirtual 475, 3) := by decide +kernel
theorem dX12_doing_5 : decode cX12_doing 5 = .ok (.ifCond .ne 7, 3) := by decide +kernel
theorem dX12_doing_8 : decode cX12_doing 8 = .ok (.iconst (-1), 1) := by decide +kernel
theorem dX12_doing_9 : decode cX12_doing 9 = .ok (.goto 73, 3) := by decide +kernel
theorem dX12_doing_12 : decode cX12_doing 12 = .ok (.iload_n 2, 1) := by decide +kernel
theorem dX12_doing_13 : decode cX12_doing 13 = .ok (.ifCond .ne 20, 3) := by decide +kernel
theorem dX12_doing_16 : decode cX12_doing 16 = .ok (.aload_n 0, 1) := by decide +kernel
theorem dX12_doing_17 : decode cX12_doing 17 = .ok (.getfield 81, 3) := by decide +kernel
theorem dX12_doing_20 : decode cX12_doing 20 = .ok (.bipush 6, 2) := by decide +kernel
theorem dX12_doing_22 : decode cX12_doing 22 = .ok (.aload_n 0, 1) := by decide +kernel
theorem dX12_doing_23 : decode cX12_doing 23 = .ok (.getfield 51, 3) := by decide +kernel
theorem dX12_doing_26 : decode cX12_doing 26 = .ok (.imul, 1) := by decide +kernel
theorem dX12_doing_27 : decode cX12_doing 27 = .ok (.iload_n 1, 1) := by decide +kernel
theorem dX12_doing_28 : decode cX12_doing 28 = .ok (.iadd, 1) := by decide +kernel
theorem dX12_doing_29 : decode cX12_doing 29 = .ok (.iaload, 1) := by decide +kernel
theorem dX12_doing_30 : decode cX12_doing 30 = .ok (.goto 52, 3) := by decide +kernel
theorem dX12_doing_33 : decode cX12_doing 33 = .ok (.iload_n 2, 1) := by decide +kernel
theorem dX12_doing_34 : decode cX12_doing 34 = .ok (.iconst 1, 1) := by decide +kernel
theorem dX12_doing_35 : decode cX12_doing 35 = .ok (.if_icmp .ne 20, 3) := by decide +kernel
theorem dX12_doing_38 : decode cX12_doing 38 = .ok (.aload_n 0, 1) := by decide +kernel
theorem dX12_doing_39 : decode cX12_doing 39 = .ok (.getfield 84, 3) := by decide +kernel
theorem dX12_doing_42 : decode cX12_doing 42 = .ok (.bipush 6, 2) := by decide +kernel
theorem dX12_doing_44 : decode cX12_doing 44 = .ok (.aload_n 0, 1) := by decide +kernel
theorem dX12_doing_45 : decode cX12_doing 45 = .ok (.getfield 51, 3) := by decide +kernel
theorem dX12_doing_48 : decode cX12_doing 48 = .ok (.imul, 1) := by decide +kernel
theorem dX12_doing_49 : decode cX12_doing 49 = .ok (.iload_n 1, 1) := by decide +kernel
theorem dX12_doing_50 : decode cX12_doing 50 = .ok (.iadd, 1) := by decide +kernel
theorem dX12_doing_51 : decode cX12_doing 51 = .ok (.iaload, 1) := by decide +kernel
theorem dX12_doing_52 : decode cX12_doing 52 = .ok (.goto 30, 3) := by decide +kernel
theorem dX12_doing_55 : decode cX12_doing 55 = .ok (.iload_n 2, 1) := by decide +kernel
theorem dX12_doing_56 : decode cX12_doing 56 = .ok (.iconst 2, 1) := by decide +kernel
theorem dX12_doing_57 : decode cX12_doing 57 = .ok (.if_icmp .ne 24, 3) := by decide +kernel
theorem dX12_doing_60 : decode cX12_doing 60 = .ok (.aload_n 0, 1) := by decide +kernel
theorem dX12_doing_61 : decode cX12_doing 61 = .ok (.getfield 165, 3) := by decide +kernel
theorem dX12_doing_64 : decode cX12_doing 64 = .ok (.iconst 0, 1) := by decide +kernel
theorem dX12_doing_65 : decode cX12_doing 65 = .ok (.iaload, 1) := by decide +kernel
theorem dX12_doing_66 : decode cX12_doing 66 = .ok (.iload_n 1, 1) := by decide +kernel
theorem dX12_doing_67 : decode cX12_doing 67 = .ok (.invokestatic 347, 3) := by decide +kernel
theorem dX12_doing_70 : decode cX12_doing 70 = .ok (.ifCond .eq 7, 3) := by decide +kernel
theorem dX12_doing_73 : decode cX12_doing 73 = .ok (.iconst 1, 1) := by decide +kernel
theorem dX12_doing_74 : decode cX12_doing 74 = .ok (.goto 8, 3) := by decide +kernel
theorem dX12_doing_77 : decode cX12_doing 77 = .ok (.iconst 0, 1) := by decide +kernel
theorem dX12_doing_78 : decode cX12_doing 78 = .ok (.goto 4, 3) := by decide +kernel
theorem dX12_doing_81 : decode cX12_doing 81 = .ok (.iconst (-1), 1) := by decide +kernel
theorem dX12_doing_82 : decode cX12_doing 82 = .ok (.ireturn, 1) := by decide +kernel
theorem dX12_isAhead_0 : decode cX12_isAhead 0 = .ok (.iload_n 1, 1) := by decide +kernel
theorem dX12_isAhead_1 : decode cX12_isAhead 1 = .ok (.iload_n 2, 1) := by decide +kernel
theorem dX12_isAhead_2 : decode cX12_isAhead 2 = .ok (.iload_n 3, 1) := by decide +kernel
theorem dX12_isAhead_3 : decode cX12_isAhead 3 = .ok (.invokestatic 305, 3) := by decide +kernel
theorem dX12_isAhead_6 : decode cX12_isAhead 6 = .ok (.ifCond .eq 21, 3) := by decide +kernel
theorem dX12_isAhead_9 : decode cX12_isAhead 9 = .ok (.aload_n 0, 1) := by decide +kernel
theorem dX12_isAhead_10 : decode cX12_isAhead 10 = .ok (.getfield 156, 3) := by decide +kernel
theorem dX12_isAhead_13 : decode cX12_isAhead 13 = .ok (.iconst 0, 1) := by decide +kernel
theorem dX12_isAhead_14 : decode cX12_isAhead 14 = .ok (.iaload, 1) := by decide +kernel
theorem dX12_isAhead_15 : decode cX12_isAhead 15 = .ok (.sipush 9999, 3) := by decide +kernel
theorem dX12_isAhead_18 : decode cX12_isAhead 18 = .ok (.iload_n 1, 1) := by decide +kernel
theorem dX12_isAhead_19 : decode cX12_isAhead 19 = .ok (.isub, 1) := by decide +kernel
theorem dX12_isAhead_20 : decode cX12_isAhead 20 = .ok (.if_icmp .gt 7, 3) := by decide +kernel
theorem dX12_isAhead_23 : decode cX12_isAhead 23 = .ok (.iconst 1, 1) := by decide +kernel
theorem dX12_isAhead_24 : decode cX12_isAhead 24 = .ok (.goto 4, 3) := by decide +kernel
theorem dX12_isAhead_27 : decode cX12_isAhead 27 = .ok (.iconst 0, 1) := by decide +kernel
theorem dX12_isAhead_28 : decode cX12_isAhead 28 = .ok (.ireturn, 1) := by decide +kernel
theorem dX12_later_0 : decode cX12_later 0 = .ok (.aload_n 0, 1) := by decide +kernel
theorem dX12_later_1 : decode cX12_later 1 = .ok (.iload_n 1, 1) := by decide +kernel
theorem dX12_later_2 : decode cX12_later 2 = .ok (.invokevirtual 472, 3) := by decide +kernel
theorem dX12_later_5 : decode cX12_later 5 = .ok (.ifCond .eq 14, 3) := by decide +kernel
theorem dX12_later_8 : decode cX12_later 8 = .ok (.aload_n 0, 1) := by decide +kernel
theorem dX12_later_9 : decode cX12_later 9 = .ok (.iload_n 2, 1) := by decide +kernel
theorem dX12_later_10 : decode cX12_later 10 = .ok (.iconst 0, 1) := by decide +kernel
theorem dX12_later_11 : decode cX12_later 11 = .ok (.bipush 60, 2) := by decide +kernel
theorem dX12_later_13 : decode cX12_later 13 = .ok (.invokevirtual 478, 3) := by decide +kernel
theorem dX12_later_16 : decode cX12_later 16 = .ok (.ifCond .ne 5, 3) := by decide +kernel
theorem dX12_later_19 : decode cX12_later 19 = .ok (.iconst (-1), 1) := by decide +kernel
theorem dX12_later_20 : decode cX12_later 20 = .ok (.ireturn, 1) := by decide +kernel
theorem dX12_later_21 : decode cX12_later 21 = .ok (.aload_n 0, 1) := by decide +kernel
theorem dX12_later_22 : decode cX12_later 22 = .ok (.iconst 1, 1) := by decide +kernel
theorem dX12_later_23 : decode cX12_later 23 = .ok (.iconst 0, 1) := by decide +kernel
theorem dX12_later_24 : decode cX12_later 24 = .ok (.invokevirtual 418, 3) := by decide +kernel
theorem dX12_later_27 : decode cX12_later 27 = .ok (.iconst 0, 1) := by decide +kernel
theorem dX12_later_28 : decode cX12_later 28 = .ok (.istore_n 3, 1) := by decide +kernel
theorem dX12_later_29 : decode cX12_later 29 = .ok (.iload_n 3, 1) := by decide +kernel
theorem dX12_later_30 : decode cX12_later 30 = .ok (.iload_n 2, 1) := by decide +kernel
theorem dX12_later_31 : decode cX12_later 31 = .ok (.if_icmp .ge 15, 3) := by decide +kernel
theorem dX12_later_34 : decode cX12_later 34 = .ok (.aload_n 0, 1) := by decide +kernel
theorem dX12_later_35 : decode cX12_later 35 = .ok (.iconst 1, 1) := by decide +kernel
theorem dX12_later_36 : decode cX12_later 36 = .ok (.invokevirtual 481, 3) := by decide +kernel
theorem dX12_later_39 : decode cX12_later 39 = .ok (.pop, 1) := by decide +kernel
theorem dX12_later_40 : decode cX12_later 40 = .ok (.iinc 3 1, 3) := by decide +kernel
theorem dX12_later_43 : decode cX12_later 43 = .ok (.goto (-14), 3) := by decide +kernel
theorem dX12_later_46 : decode cX12_later 46 = .ok (.aload_n 0, 1) := by decide +kernel
theorem dX12_later_47 : decode cX12_later 47 = .ok (.iconst 1, 1) := by decide +kernel
theorem dX12_later_48 : decode cX12_later 48 = .ok (.iload_n 1, 1) := by decide +kernel
theorem dX12_later_49 : decode cX12_later 49 = .ok (.invokevirtual 449, 3) := by decide +kernel
theorem dX12_later_52 : decode cX12_later 52 = .ok (.ireturn, 1) := by decide +kernel
theorem dX12_when_0 : decode cX12_when 0 = .ok (.aload_n 0, 1) := by decide +kernel
theorem dX12_when_1 : decode cX12_when 1 = .ok (.iload_n 1, 1) := by decide +kernel
theorem dX12_when_2 : decode cX12_when 2 = .ok (.invokevirtual 475, 3) := by decide +kernel
theorem dX12_when_5 : decode cX12_when 5 = .ok (.ifCond .ne 5, 3) := by decide +kernel
theorem dX12_when_8 : decode cX12_when 8 = .ok (.iconst (-1), 1) := by decide +kernel
theorem dX12_when_9 : decode cX12_when 9 = .ok (.ireturn, 1) := by decide +kernel
theorem dX12_when_10 : decode cX12_when 10 = .ok (.aload_n 0, 1) := by decide +kernel
theorem dX12_when_11 : decode cX12_when 11 = .ok (.iconst 1, 1) := by decide +kernel
theorem dX12_when_12 : decode cX12_when 12 = .ok (.iconst 0, 1) := by decide +kernel
theorem dX12_when_13 : decode cX12_when 13 = .ok (.invokevirtual 418, 3) := by decide +kernel
theorem dX12_when_16 : decode cX12_when 16 = .ok (.iconst 0, 1) := by decide +kernel
theorem dX12_when_17 : decode cX12_when 17 = .ok (.istore_n 2, 1) := by decide +kernel
theorem dX12_when_18 : decode cX12_when 18 = .ok (.aload_n 0, 1) := by decide +kernel
theorem dX12_when_19 : decode cX12_when 19 = .ok (.iload_n 2, 1) := by decide +kernel
theorem dX12_when_20 : decode cX12_when 20 = .ok (.iconst 0, 1) := by decide +kernel
theorem dX12_when_21 : decode cX12_when 21 = .ok (.bipush 60, 2) := by decide +kernel
theorem dX12_when_23 : decode cX12_when 23 = .ok (.invokevirtual 478, 3) := by decide +kernel
theorem dX12_when_26 : decode cX12_when 26 = .ok (.ifCond .eq 30, 3) := by decide +kernel
theorem dX12_when_29 : decode cX12_when 29 = .ok (.aload_n 0, 1) := by decide +kernel
theorem dX12_when_30 : decode cX12_when 30 = .ok (.getfield 165, 3) := by decide +kernel
theorem dX12_when_33 : decode cX12_when 33 = .ok (.iconst 1, 1) := by decide +kernel
theorem dX12_when_34 : decode cX12_when 34 = .ok (.iaload, 1) := by decide +kernel
theorem dX12_when_35 : decode cX12_when 35 = .ok (.iload_n 1, 1) := by decide +kernel
theorem dX12_when_36 : decode cX12_when 36 = .ok (.invokestatic 347, 3) := by decide +kernel
theorem dX12_when_39 : decode cX12_when 39 = .ok (.ifCond .eq 5, 3) := by decide +kernel
theorem dX12_when_42 : decode cX12_when 42 = .ok (.iload_n 2, 1) := by decide +kernel
theorem dX12_when_43 : decode cX12_when 43 = .ok (.ireturn, 1) := by decide +kernel
theorem dX12_when_44 : decode cX12_when 44 = .ok (.aload_n 0, 1) := by decide +kernel
theorem dX12_when_45 : decode cX12_when 45 = .ok (.iconst 1, 1) := by decide +kernel
theorem dX12_when_46 : decode cX12_when 46 = .ok (.invokevirtual 481, 3) := by decide +kernel
theorem dX12_when_49 : decode cX12_when 49 = .ok (.pop, 1) := by decide +kernel
theorem dX12_when_50 : decode cX12_when 50 = .ok (.iinc 2 1, 3) := by decide +kernel
theorem dX12_when_53 : decode cX12_when 53 = .ok (.goto (-35), 3) := by decide +kernel
theorem dX12_when_56 : decode cX12_when 56 = .ok (.iconst (-1), 1) := by decide +kernel
theorem dX12_when_57 : decode cX12_when 57 = .ok (.ireturn, 1) := by decide +kernel
theorem dX12_alike_0 : decode cX12_alike 0 = .ok (.aload_n 0, 1) := by decide +kernel
theorem dX12_alike_1 : decode cX12_alike 1 = .ok (.iload_n 1, 1) := by decide +kernel
theorem dX12_alike_2 : decode cX12_alike 2 = .ok (.invokevirtual 472, 3) := by decide +kernel
theorem dX12_alike_5 : decode cX12_alike 5 = .ok (.ifCond .eq 16, 3) := by decide +kernel
theorem dX12_alike_8 : decode cX12_alike 8 = .ok (.aload_n 0, 1) := by decide +kernel
theorem dX12_alike_9 : decode cX12_alike 9 = .ok (.iload_n 2, 1) := by decide +kernel
theorem dX12_alike_10 : decode cX12_alike 10 = .ok (.invokevirtual 472, 3) := by decide +kernel
theorem dX12_alike_13 : decode cX12_alike 13 = .ok (.ifCond .eq 8, 3) := by decide +kernel
theorem dX12_alike_16 : decode cX12_alike 16 = .ok (.iload_n 1, 1) := by decide +kernel
theorem dX12_alike_17 : decode cX12_alike 17 = .ok (.iload_n 2, 1) := by decide +kernel
theorem dX12_alike_18 : decode cX12_alike 18 = .ok (.if_icmp .ne 5, 3) := by decide +kernel
theorem dX12_alike_21 : decode cX12_alike 21 = .ok (.iconst (-1), 1) := by decide +kernel
theorem dX12_alike_22 : decode cX12_alike 22 = .ok (.ireturn, 1) := by decide +kernel
theorem dX12_alike_23 : decode cX12_alike 23 = .ok (.aload_n 0, 1) := by decide +kernel
theorem dX12_alike_24 : decode cX12_alike 24 = .ok (.iconst 1, 1) := by decide +kernel
theorem dX12_alike_25 : decode cX12_alike 25 = .ok (.iconst 0, 1) := by decide +kernel
theorem dX12_alike_26 : decode cX12_alike 26 = .ok (.invokevirtual 418, 3) := by decide +kernel
theorem dX12_alike_29 : decode cX12_alike 29 = .ok (.iconst 0, 1) := by decide +kernel
theorem dX12_alike_30 : decode cX12_alike 30 = .ok (.istore_n 3, 1) := by decide +kernel
theorem dX12_alike_31 : decode cX12_alike 31 = .ok (.aload_n 0, 1) := by decide +kernel
theorem dX12_alike_32 : decode cX12_alike 32 = .ok (.iload_n 3, 1) := by decide +kernel
theorem dX12_alike_33 : decode cX12_alike 33 = .ok (.iconst 0, 1) := by decide +kernel
theorem dX12_alike_34 : decode cX12_alike 34 = .ok (.bipush 60, 2) := by decide +kernel
theorem dX12_alike_36 : decode cX12_alike 36 = .ok (.invokevirtual 478, 3) := by decide +kernel
theorem dX12_alike_39 : decode cX12_alike 39 = .ok (.ifCond .eq 32, 3) := by decide +kernel
theorem dX12_alike_42 : decode cX12_alike 42 = .ok (.aload_n 0, 1) := by decide +kernel
theorem dX12_alike_43 : decode cX12_alike 43 = .ok (.iconst 1, 1) := by decide +kernel
theorem dX12_alike_44 : decode cX12_alike 44 = .ok (.iload_n 1, 1) := by decide +kernel
theorem dX12_alike_45 : decode cX12_alike 45 = .ok (.invokevirtual 449, 3) := by decide +kernel
theorem dX12_alike_48 : decode cX12_alike 48 = .ok (.aload_n 0, 1) := by decide +kernel
theorem dX12_alike_49 : decode cX12_alike 49 = .ok (.iconst 1, 1) := by decide +kernel
theorem dX12_alike_50 : decode cX12_alike 50 = .ok (.iload_n 2, 1) := by decide +kernel
theorem dX12_alike_51 : decode cX12_alike 51 = .ok (.invokevirtual 449, 3) := by decide +kernel
theorem dX12_alike_54 : decode cX12_alike 54 = .ok (.if_icmp .ne 5, 3) := by decide +kernel
theorem dX12_alike_57 : decode cX12_alike 57 = .ok (.iload_n 3, 1) := by decide +kernel
theorem dX12_alike_58 : decode cX12_alike 58 = .ok (.ireturn, 1) := by decide +kernel
theorem dX12_alike_59 : decode cX12_alike 59 = .ok (.aload_n 0, 1) := by decide +kernel
theorem dX12_alike_60 : decode cX12_alike 60 = .ok (.iconst 1, 1) := by decide +kernel
theorem dX12_alike_61 : decode cX12_alike 61 = .ok (.invokevirtual 481, 3) := by decide +kernel
theorem dX12_alike_64 : decode cX12_alike 64 = .ok (.pop, 1) := by decide +kernel
theorem dX12_alike_65 : decode cX12_alike 65 = .ok (.iinc 3 1, 3) := by decide +kernel
theorem dX12_alike_68 : decode cX12_alike 68 = .ok (.goto (-37), 3) := by decide +kernel
theorem dX12_alike_71 : decode cX12_alike 71 = .ok (.iconst (-1), 1) := by decide +kernel
theorem dX12_alike_72 : decode cX12_alike 72 = .ok (.ireturn, 1) := by decide +kernel
theorem dX12_isDoneBy_0 : decode cX12_isDoneBy 0 = .ok (.aload_n 0, 1) := by decide +kernel
theorem dX12_isDoneBy_1 : decode cX12_isDoneBy 1 = .ok (.iconst 1, 1) := by decide +kernel
theorem dX12_isDoneBy_2 : decode cX12_isDoneBy 2 = .ok (.iconst 0, 1) := by decide +kernel
theorem dX12_isDoneBy_3 : decode cX12_isDoneBy 3 = .ok (.invokevirtual 418, 3) := by decide +kernel
theorem dX12_isDoneBy_6 : decode cX12_isDoneBy 6 = .ok (.iconst 0, 1) := by decide +kernel
theorem dX12_isDoneBy_7 : decode cX12_isDoneBy 7 = .ok (.istore_n 3, 1) := by decide +kernel
theorem dX12_isDoneBy_8 : decode cX12_isDoneBy 8 = .ok (.iload_n 3, 1) := by decide +kernel
theorem dX12_isDoneBy_9 : decode cX12_isDoneBy 9 = .ok (.aload_n 0, 1) := by decide +kernel
theorem dX12_isDoneBy_10 : decode cX12_isDoneBy 10 = .ok (.getfield 63, 3) := by decide +kernel
theorem dX12_isDoneBy_13 : decode cX12_isDoneBy 13 = .ok (.aload_n 0, 1) := by decide +kernel
theorem dX12_isDoneBy_14 : decode cX12_isDoneBy 14 = .ok (.getfield 51, 3) := by decide +kernel
theorem dX12_isDoneBy_17 : decode cX12_isDoneBy 17 = .ok (.iaload, 1) := by decide +kernel
theorem dX12_isDoneBy_18 : decode cX12_isDoneBy 18 = .ok (.if_icmp .ge 31, 3) := by decide +kernel
theorem dX12_isDoneBy_21 : decode cX12_isDoneBy 21 = .ok (.aload_n 0, 1) := by decide +kernel
theorem dX12_isDoneBy_22 : decode cX12_isDoneBy 22 = .ok (.getfield 189, 3) := by decide +kernel
theorem dX12_isDoneBy_25 : decode cX12_isDoneBy 25 = .ok (.iload_n 3, 1) := by decide +kernel
theorem dX12_isDoneBy_26 : decode cX12_isDoneBy 26 = .ok (.iaload, 1) := by decide +kernel
theorem dX12_isDoneBy_27 : decode cX12_isDoneBy 27 = .ok (.iconst (-1), 1) := by decide +kernel
theorem dX12_isDoneBy_28 : decode cX12_isDoneBy 28 = .ok (.if_icmp .eq 15, 3) := by decide +kernel
theorem dX12_isDoneBy_31 : decode cX12_isDoneBy 31 = .ok (.aload_n 0, 1) := by decide +kernel
theorem dX12_isDoneBy_32 : decode cX12_isDoneBy 32 = .ok (.iconst 1, 1) := by decide +kernel
theorem dX12_isDoneBy_33 : decode cX12_isDoneBy 33 = .ok (.iload_n 3, 1) := by decide +kernel
theorem dX12_isDoneBy_34 : decode cX12_isDoneBy 34 = .ok (.aload_n 0, 1) := by decide +kernel
theorem dX12_isDoneBy_35 : decode cX12_isDoneBy 35 = .ok (.getfield 189, 3) := by decide +kernel
theorem dX12_isDoneBy_38 : decode cX12_isDoneBy 38 = .ok (.iload_n 3, 1) := by decide +kernel
theorem dX12_isDoneBy_39 : decode cX12_isDoneBy 39 = .ok (.iaload, 1) := by decide +kernel
theorem dX12_isDoneBy_40 : decode cX12_isDoneBy 40 = .ok (.invokevirtual 457, 3) := by decide +kernel
theorem dX12_isDoneBy_43 : decode cX12_isDoneBy 43 = .ok (.iinc 3 1, 3) := by decide +kernel
theorem dX12_isDoneBy_46 : decode cX12_isDoneBy 46 = .ok (.goto (-38), 3) := by decide +kernel
theorem dX12_isDoneBy_49 : decode cX12_isDoneBy 49 = .ok (.aload_n 0, 1) := by decide +kernel
theorem dX12_isDoneBy_50 : decode cX12_isDoneBy 50 = .ok (.iconst 1, 1) := by decide +kernel
theorem dX12_isDoneBy_51 : decode cX12_isDoneBy 51 = .ok (.invokevirtual 412, 3) := by decide +kernel
theorem dX12_isDoneBy_54 : decode cX12_isDoneBy 54 = .ok (.pop, 1) := by decide +kernel
theorem dX12_isDoneBy_55 : decode cX12_isDoneBy 55 = .ok (.iconst 0, 1) := by decide +kernel
theorem dX12_isDoneBy_56 : decode cX12_isDoneBy 56 = .ok (.istore_n 3, 1) := by decide +kernel
theorem dX12_isDoneBy_57 : decode cX12_isDoneBy 57 = .ok (.iload_n 3, 1) := by decide +kernel
theorem dX12_isDoneBy_58 : decode cX12_isDoneBy 58 = .ok (.iload_n 2, 1) := by decide +kernel
theorem dX12_isDoneBy_59 : decode cX12_isDoneBy 59 = .ok (.if_icmp .ge 15, 3) := by decide +kernel
theorem dX12_isDoneBy_62 : decode cX12_isDoneBy 62 = .ok (.aload_n 0, 1) := by decide +kernel
theorem dX12_isDoneBy_63 : decode cX12_isDoneBy 63 = .ok (.iconst 1, 1) := by decide +kernel
theorem dX12_isDoneBy_64 : decode cX12_isDoneBy 64 = .ok (.invokevirtual 481, 3) := by decide +kernel
theorem dX12_isDoneBy_67 : decode cX12_isDoneBy 67 = .ok (.pop, 1) := by decide +kernel
theorem dX12_isDoneBy_68 : decode cX12_isDoneBy 68 = .ok (.iinc 3 1, 3) := by decide +kernel
theorem dX12_isDoneBy_71 : decode cX12_isDoneBy 71 = .ok (.goto (-14), 3) := by decide +kernel
theorem dX12_isDoneBy_74 : decode cX12_isDoneBy 74 = .ok (.iload_n 1, 1) := by decide +kernel
theorem dX12_isDoneBy_75 : decode cX12_isDoneBy 75 = .ok (.aload_n 0, 1) := by decide +kernel
theorem dX12_isDoneBy_76 : decode cX12_isDoneBy 76 = .ok (.getfield 165, 3) := by decide +kernel
theorem dX12_isDoneBy_79 : decode cX12_isDoneBy 79 = .ok (.iconst 1, 1) := by decide +kernel
theorem dX12_isDoneBy_80 : decode cX12_isDoneBy 80 = .ok (.iaload, 1) := by decide +kernel
theorem dX12_isDoneBy_81 : decode cX12_isDoneBy 81 = .ok (.iconst (-1), 1) := by decide +kernel
theorem dX12_isDoneBy_82 : decode cX12_isDoneBy 82 = .ok (.ixor, 1) := by decide +kernel
theorem dX12_isDoneBy_83 : decode cX12_isDoneBy 83 = .ok (.iand, 1) := by decide +kernel
theorem dX12_isDoneBy_84 : decode cX12_isDoneBy 84 = .ok (.ifCond .ne 7, 3) := by decide +kernel
theorem dX12_isDoneBy_87 : decode cX12_isDoneBy 87 = .ok (.iconst 1, 1) := by decide +kernel
theorem dX12_isDoneBy_88 : decode cX12_isDoneBy 88 = .ok (.goto 4, 3) := by decide +kernel
theorem dX12_isDoneBy_91 : decode cX12_isDoneBy 91 = .ok (.iconst 0, 1) := by decide +kernel
theorem dX12_isDoneBy_92 : decode cX12_isDoneBy 92 = .ok (.ireturn, 1) := by decide +kernel
theorem dX12_plan_0 : decode cX12_plan 0 = .ok (.iload_n 1, 1) := by decide +kernel
theorem dX12_plan_1 : decode cX12_plan 1 = .ok (.iconst 0, 1) := by decide +kernel
theorem dX12_plan_2 : decode cX12_plan 2 = .ok (.iconst 1, 1) := by decide +kernel
theorem dX12_plan_3 : decode cX12_plan 3 = .ok (.aload_n 0, 1) := by decide +kernel
theorem dX12_plan_4 : decode cX12_plan 4 = .ok (.getfield 78, 3) := by decide +kernel
theorem dX12_plan_7 : decode cX12_plan 7 = .ok (.aload_n 0, 1) := by decide +kernel
theorem dX12_plan_8 : decode cX12_plan 8 = .ok (.getfield 51, 3) := by decide +kernel
theorem dX12_plan_11 : decode cX12_plan 11 = .ok (.iaload, 1) := by decide +kernel
theorem dX12_plan_12 : decode cX12_plan 12 = .ok (.ishl, 1) := by decide +kernel
theorem dX12_plan_13 : decode cX12_plan 13 = .ok (.iconst 1, 1) := by decide +kernel
theorem dX12_plan_14 : decode cX12_plan 14 = .ok (.isub, 1) := by decide +kernel
theorem dX12_plan_15 : decode cX12_plan 15 = .ok (.invokestatic 305, 3) := by decide +kernel
theorem dX12_plan_18 : decode cX12_plan 18 = .ok (.ifCond .eq 27, 3) := by decide +kernel
theorem dX12_plan_21 : decode cX12_plan 21 = .ok (.aload_n 0, 1) := by decide +kernel
theorem dX12_plan_22 : decode cX12_plan 22 = .ok (.iload_n 2, 1) := by decide +kernel
theorem dX12_plan_23 : decode cX12_plan 23 = .ok (.iconst 0, 1) := by decide +kernel
theorem dX12_plan_24 : decode cX12_plan 24 = .ok (.bipush 20, 2) := by decide +kernel
theorem dX12_plan_26 : decode cX12_plan 26 = .ok (.invokevirtual 478, 3) := by decide +kernel
theorem dX12_plan_29 : decode cX12_plan 29 = .ok (.ifCond .eq 16, 3) := by decide +kernel
theorem dX12_plan_32 : decode cX12_plan 32 = .ok (.iload_n 3, 1) := by decide +kernel
theorem dX12_plan_33 : decode cX12_plan 33 = .ok (.iconst (-1), 1) := by decide +kernel
theorem dX12_plan_34 : decode cX12_plan 34 = .ok (.if_icmp .eq 13, 3) := by decide +kernel
theorem dX12_plan_37 : decode cX12_plan 37 = .ok (.aload_n 0, 1) := by decide +kernel
theorem dX12_plan_38 : decode cX12_plan 38 = .ok (.iload_n 3, 1) := by decide +kernel
theorem dX12_plan_39 : decode cX12_plan 39 = .ok (.invokevirtual 472, 3) := by decide +kernel
theorem dX12_plan_42 : decode cX12_plan 42 = .ok (.ifCond .ne 5, 3) := by decide +kernel
theorem dX12_plan_45 : decode cX12_plan 45 = .ok (.iconst (-1), 1) := by decide +kernel
theorem dX12_plan_46 : decode cX12_plan 46 = .ok (.ireturn, 1) := by decide +kernel
theorem dX12_plan_47 : decode cX12_plan 47 = .ok (.iconst 1, 1) := by decide +kernel
theorem dX12_plan_48 : decode cX12_plan 48 = .ok (.istore 4, 2) := by decide +kernel
theorem dX12_plan_50 : decode cX12_plan 50 = .ok (.iconst 0, 1) := by decide +kernel
theorem dX12_plan_51 : decode cX12_plan 51 = .ok (.istore 5, 2) := by decide +kernel
theorem dX12_plan_53 : decode cX12_plan 53 = .ok (.iload 5, 2) := by decide +kernel
theorem dX12_plan_55 : decode cX12_plan 55 = .ok (.aload_n 0, 1) := by decide +kernel
theorem dX12_plan_56 : decode cX12_plan 56 = .ok (.getfield 63, 3) := by decide +kernel
theorem dX12_plan_59 : decode cX12_plan 59 = .ok (.aload_n 0, 1) := by decide +kernel
theorem dX12_plan_60 : decode cX12_plan 60 = .ok (.getfield 51, 3) := by decide +kernel
theorem dX12_plan_63 : decode cX12_plan 63 = .ok (.iaload, 1) := by decide +kernel
theorem dX12_plan_64 : decode cX12_plan 64 = .ok (.if_icmp .ge 25, 3) := by decide +kernel
theorem dX12_plan_67 : decode cX12_plan 67 = .ok (.iload 4, 2) := by decide +kernel
theorem dX12_plan_69 : decode cX12_plan 69 = .ok (.aload_n 0, 1) := by decide +kernel
theorem dX12_plan_70 : decode cX12_plan 70 = .ok (.getfield 54, 3) := by decide +kernel
theorem dX12_plan_73 : decode cX12_plan 73 = .ok (.aload_n 0, 1) := by decide +kernel
theorem dX12_plan_74 : decode cX12_plan 74 = .ok (.getfield 51, 3) := by decide +kernel
theorem dX12_plan_77 : decode cX12_plan 77 = .ok (.iaload, 1) := by decide +kernel
theorem dX12_plan_78 : decode cX12_plan 78 = .ok (.iconst 1, 1) := by decide +kernel
theorem dX12_plan_79 : decode cX12_plan 79 = .ok (.iadd, 1) := by decide +kernel
theorem dX12_plan_80 : decode cX12_plan 80 = .ok (.imul, 1) := by decide +kernel
theorem dX12_plan_81 : decode cX12_plan 81 = .ok (.istore 4, 2) := by decide +kernel
theorem dX12_plan_83 : decode cX12_plan 83 = .ok (.iinc 5 1, 3) := by decide +kernel
theorem dX12_plan_86 : decode cX12_plan 86 = .ok (.goto (-33), 3) := by decide +kernel
theorem dX12_plan_89 : decode cX12_plan 89 = .ok (.iconst (-1), 1) := by decide +kernel
theorem dX12_plan_90 : decode cX12_plan 90 = .ok (.istore 5, 2) := by decide +kernel
theorem dX12_plan_92 : decode cX12_plan 92 = .ok (.iconst 0, 1) := by decide +kernel
theorem dX12_plan_93 : decode cX12_plan 93 = .ok (.istore 6, 2) := by decide +kernel
theorem dX12_plan_95 : decode cX12_plan 95 = .ok (.iload 6, 2) := by decide +kernel
theorem dX12_plan_97 : decode cX12_plan 97 = .ok (.iload 4, 2) := by decide +kernel
theorem dX12_plan_99 : decode cX12_plan 99 = .ok (.if_icmp .ge 166, 3) := by decide +kernel
theorem dX12_plan_102 : decode cX12_plan 102 = .ok (.iload 6, 2) := by decide +kernel
theorem dX12_plan_104 : decode cX12_plan 104 = .ok (.istore 7, 2) := by decide +kernel
theorem dX12_plan_106 : decode cX12_plan 106 = .ok (.iconst 0, 1) := by decide +kernel
theorem dX12_plan_107 : decode cX12_plan 107 = .ok (.istore 8, 2) := by decide +kernel
theorem dX12_plan_109 : decode cX12_plan 109 = .ok (.aload_n 0, 1) := by decide +kernel
theorem dX12_plan_110 : decode cX12_plan 110 = .ok (.getfield 63, 3) := by decide +kernel
theorem dX12_plan_113 : decode cX12_plan 113 = .ok (.aload_n 0, 1) := by decide +kernel
theorem dX12_plan_114 : decode cX12_plan 114 = .ok (.getfield 51, 3) := by decide +kernel
theorem dX12_plan_117 : decode cX12_plan 117 = .ok (.iaload, 1) := by decide +kernel
theorem dX12_plan_118 : decode cX12_plan 118 = .ok (.iconst 1, 1) := by decide +kernel
theorem dX12_plan_119 : decode cX12_plan 119 = .ok (.isub, 1) := by decide +kernel
theorem dX12_plan_120 : decode cX12_plan 120 = .ok (.istore 9, 2) := by decide +kernel
theorem dX12_plan_122 : decode cX12_plan 122 = .ok (.iload 9, 2) := by decide +kernel
theorem dX12_plan_124 : decode cX12_plan 124 = .ok (.ifCond .lt 69, 3) := by decide +kernel
theorem dX12_plan_127 : decode cX12_plan 127 = .ok (.aload_n 0, 1) := by decide +kernel
theorem dX12_plan_128 : decode cX12_plan 128 = .ok (.getfield 189, 3) := by decide +kernel
theorem dX12_plan_131 : decode cX12_plan 131 = .ok (.iload 9, 2) := by decide +kernel
theorem dX12_plan_133 : decode cX12_plan 133 = .ok (.iload 7, 2) := by decide +kernel
theorem dX12_plan_135 : decode cX12_plan 135 = .ok (.aload_n 0, 1) := by decide +kernel
theorem dX12_plan_136 : decode cX12_plan 136 = .ok (.getfield 54, 3) := by decide +kernel
theorem dX12_plan_139 : decode cX12_plan 139 = .ok (.aload_n 0, 1) := by decide +kernel
theorem dX12_plan_140 : decode cX12_plan 140 = .ok (.getfield 51, 3) := by decide +kernel
theorem dX12_plan_143 : decode cX12_plan 143 = .ok (.iaload, 1) := by decide +kernel
theorem dX12_plan_144 : decode cX12_plan 144 = .ok (.iconst 1, 1) := by decide +kernel
theorem dX12_plan_145 : decode cX12_plan 145 = .ok (.iadd, 1) := by decide +kernel
theorem dX12_plan_146 : decode cX12_plan 146 = .ok (.irem, 1) := by decide +kernel
theorem dX12_plan_147 : decode cX12_plan 147 = .ok (.iconst 1, 1) := by decide +kernel
theorem dX12_plan_148 : decode cX12_plan 148 = .ok (.isub, 1) := by decide +kernel
theorem dX12_plan_149 : decode cX12_plan 149 = .ok (.iastore, 1) := by decide +kernel
theorem dX12_plan_150 : decode cX12_plan 150 = .ok (.iload 7, 2) := by decide +kernel
theorem dX12_plan_152 : decode cX12_plan 152 = .ok (.aload_n 0, 1) := by decide +kernel
theorem dX12_plan_153 : decode cX12_plan 153 = .ok (.getfield 54, 3) := by decide +kernel
theorem dX12_plan_156 : decode cX12_plan 156 = .ok (.aload_n 0, 1) := by decide +kernel
theorem dX12_plan_157 : decode cX12_plan 157 = .ok (.getfield 51, 3) := by decide +kernel
theorem dX12_plan_160 : decode cX12_plan 160 = .ok (.iaload, 1) := by decide +kernel
theorem dX12_plan_161 : decode cX12_plan 161 = .ok (.iconst 1, 1) := by decide +kernel
theorem dX12_plan_162 : decode cX12_plan 162 = .ok (.iadd, 1) := by decide +kernel
theorem dX12_plan_163 : decode cX12_plan 163 = .ok (.idiv, 1) := by decide +kernel
theorem dX12_plan_164 : decode cX12_plan 164 = .ok (.istore 7, 2) := by decide +kernel
theorem dX12_plan_166 : decode cX12_plan 166 = .ok (.iload 8, 2) := by decide +kernel
theorem dX12_plan_168 : decode cX12_plan 168 = .ok (.aload_n 0, 1) := by decide +kernel
theorem dX12_plan_169 : decode cX12_plan 169 = .ok (.getfield 189, 3) := by decide +kernel
theorem dX12_plan_172 : decode cX12_plan 172 = .ok (.iload 9, 2) := by decide +kernel
theorem dX12_plan_174 : decode cX12_plan 174 = .ok (.iaload, 1) := by decide +kernel
theorem dX12_plan_175 : decode cX12_plan 175 = .ok (.iconst (-1), 1) := by decide +kernel
theorem dX12_plan_176 : decode cX12_plan 176 = .ok (.if_icmp .eq 7, 3) := by decide +kernel
theorem dX12_plan_179 : decode cX12_plan 179 = .ok (.iconst 1, 1) := by decide +kernel
theorem dX12_plan_180 : decode cX12_plan 180 = .ok (.goto 4, 3) := by decide +kernel
theorem dX12_plan_183 : decode cX12_plan 183 = .ok (.iconst 0, 1) := by decide +kernel
theorem dX12_plan_184 : decode cX12_plan 184 = .ok (.iadd, 1) := by decide +kernel
theorem dX12_plan_185 : decode cX12_plan 185 = .ok (.istore 8, 2) := by decide +kernel
theorem dX12_plan_187 : decode cX12_plan 187 = .ok (.iinc 9 (-1), 3) := by decide +kernel
theorem dX12_plan_190 : decode cX12_plan 190 = .ok (.goto (-68), 3) := by decide +kernel
theorem dX12_plan_193 : decode cX12_plan 193 = .ok (.iload 5, 2) := by decide +kernel
theorem dX12_plan_195 : decode cX12_plan 195 = .ok (.iconst (-1), 1) := by decide +kernel
theorem dX12_plan_196 : decode cX12_plan 196 = .ok (.if_icmp .eq 10, 3) := by decide +kernel
theorem dX12_plan_199 : decode cX12_plan 199 = .ok (.iload 8, 2) := by decide +kernel
theorem dX12_plan_201 : decode cX12_plan 201 = .ok (.iload 5, 2) := by decide +kernel
theorem dX12_plan_203 : decode cX12_plan 203 = .ok (.if_icmp .ge 56, 3) := by decide +kernel
theorem dX12_plan_206 : decode cX12_plan 206 = .ok (.aload_n 0, 1) := by decide +kernel
theorem dX12_plan_207 : decode cX12_plan 207 = .ok (.iload_n 1, 1) := by decide +kernel
theorem dX12_plan_208 : decode cX12_plan 208 = .ok (.iload_n 2, 1) := by decide +kernel
theorem dX12_plan_209 : decode cX12_plan 209 = .ok (.invokevirtual 484, 3) := by decide +kernel
theorem dX12_plan_212 : decode cX12_plan 212 = .ok (.ifCond .ne 6, 3) := by decide +kernel
theorem dX12_plan_215 : decode cX12_plan 215 = .ok (.goto 44, 3) := by decide +kernel
theorem dX12_plan_218 : decode cX12_plan 218 = .ok (.iload 8, 2) := by decide +kernel
theorem dX12_plan_220 : decode cX12_plan 220 = .ok (.istore 5, 2) := by decide +kernel
theorem dX12_plan_222 : decode cX12_plan 222 = .ok (.iconst 0, 1) := by decide +kernel
theorem dX12_plan_223 : decode cX12_plan 223 = .ok (.istore 9, 2) := by decide +kernel
theorem dX12_plan_225 : decode cX12_plan 225 = .ok (.iload 9, 2) := by decide +kernel
theorem dX12_plan_227 : decode cX12_plan 227 = .ok (.aload_n 0, 1) := by decide +kernel
theorem dX12_plan_228 : decode cX12_plan 228 = .ok (.getfield 63, 3) := by decide +kernel
theorem dX12_plan_231 : decode cX12_plan 231 = .ok (.aload_n 0, 1) := by decide +kernel
theorem dX12_plan_232 : decode cX12_plan 232 = .ok (.getfield 51, 3) := by decide +kernel
theorem dX12_plan_235 : decode cX12_plan 235 = .ok (.iaload, 1) := by decide +kernel
theorem dX12_plan_236 : decode cX12_plan 236 = .ok (.if_icmp .ge 23, 3) := by decide +kernel
theorem dX12_plan_239 : decode cX12_plan 239 = .ok (.aload_n 0, 1) := by decide +kernel
theorem dX12_plan_240 : decode cX12_plan 240 = .ok (.getfield 192, 3) := by decide +kernel
theorem dX12_plan_243 : decode cX12_plan 243 = .ok (.iload 9, 2) := by decide +kernel
theorem dX12_plan_245 : decode cX12_plan 245 = .ok (.aload_n 0, 1) := by decide +kernel
theorem dX12_plan_246 : decode cX12_plan 246 = .ok (.getfield 189, 3) := by decide +kernel
theorem dX12_plan_249 : decode cX12_plan 249 = .ok (.iload 9, 2) := by decide +kernel
theorem dX12_plan_251 : decode cX12_plan 251 = .ok (.iaload, 1) := by decide +kernel
theorem dX12_plan_252 : decode cX12_plan 252 = .ok (.iastore, 1) := by decide +kernel
theorem dX12_plan_253 : decode cX12_plan 253 = .ok (.iinc 9 1, 3) := by decide +kernel
theorem dX12_plan_256 : decode cX12_plan 256 = .ok (.goto (-31), 3) := by decide +kernel
theorem dX12_plan_259 : decode cX12_plan 259 = .ok (.iinc 6 1, 3) := by decide +kernel
theorem dX12_plan_262 : decode cX12_plan 262 = .ok (.goto (-167), 3) := by decide +kernel
theorem dX12_plan_265 : decode cX12_plan 265 = .ok (.iload 5, 2) := by decide +kernel
theorem dX12_plan_267 : decode cX12_plan 267 = .ok (.iconst (-1), 1) := by decide +kernel
theorem dX12_plan_268 : decode cX12_plan 268 = .ok (.if_icmp .eq 8, 3) := by decide +kernel
theorem dX12_plan_271 : decode cX12_plan 271 = .ok (.iload_n 3, 1) := by decide +kernel
theorem dX12_plan_272 : decode cX12_plan 272 = .ok (.iconst (-1), 1) := by decide +kernel
theorem dX12_plan_273 : decode cX12_plan 273 = .ok (.if_icmp .ne 8, 3) := by decide +kernel
theorem dX12_plan_276 : decode cX12_plan 276 = .ok (.iload 5, 2) := by decide +kernel
theorem dX12_plan_278 : decode cX12_plan 278 = .ok (.goto 9, 3) := by decide +kernel
theorem dX12_plan_281 : decode cX12_plan 281 = .ok (.aload_n 0, 1) := by decide +kernel
theorem dX12_plan_282 : decode cX12_plan 282 = .ok (.getfield 192, 3) := by decide +kernel
theorem dX12_plan_285 : decode cX12_plan 285 = .ok (.iload_n 3, 1) := by decide +kernel
theorem dX12_plan_286 : decode cX12_plan 286 = .ok (.iaload, 1) := by decide +kernel
theorem dX12_plan_287 : decode cX12_plan 287 = .ok (.ireturn, 1) := by decide +kernel
theorem dX12_evening_0 : decode cX12_evening 0 = .ok (.aload_n 0, 1) := by decide +kernel
theorem dX12_evening_1 : decode cX12_evening 1 = .ok (.iload_n 1, 1) := by decide +kernel
theorem dX12_evening_2 : decode cX12_evening 2 = .ok (.invokevirtual 472, 3) := by decide +kernel
theorem dX12_evening_5 : decode cX12_evening 5 = .ok (.ifCond .eq 12, 3) := by decide +kernel
theorem dX12_evening_8 : decode cX12_evening 8 = .ok (.iload_n 2, 1) := by decide +kernel
theorem dX12_evening_9 : decode cX12_evening 9 = .ok (.iconst 0, 1) := by decide +kernel
theorem dX12_evening_10 : decode cX12_evening 10 = .ok (.iconst 1, 1) := by decide +kernel
theorem dX12_evening_11 : decode cX12_evening 11 = .ok (.invokestatic 305, 3) := by decide +kernel
theorem dX12_evening_14 : decode cX12_evening 14 = .ok (.ifCond .ne 5, 3) := by decide +kernel
theorem dX12_evening_17 : decode cX12_evening 17 = .ok (.iconst (-1), 1) := by decide +kernel
theorem dX12_evening_18 : decode cX12_evening 18 = .ok (.ireturn, 1) := by decide +kernel
theorem dX12_evening_19 : decode cX12_evening 19 = .ok (.iconst (-1), 1) := by decide +kernel
theorem dX12_evening_20 : decode cX12_evening 20 = .ok (.istore_n 3, 1) := by decide +kernel
theorem dX12_evening_21 : decode cX12_evening 21 = .ok (.iconst (-1), 1) := by decide +kernel
theorem dX12_evening_22 : decode cX12_evening 22 = .ok (.istore 4, 2) := by decide +kernel
theorem dX12_evening_24 : decode cX12_evening 24 = .ok (.iconst 0, 1) := by decide +kernel
theorem dX12_evening_25 : decode cX12_evening 25 = .ok (.istore 5, 2) := by decide +kernel
theorem dX12_evening_27 : decode cX12_evening 27 = .ok (.iload 5, 2) := by decide +kernel
theorem dX12_evening_29 : decode cX12_evening 29 = .ok (.aload_n 0, 1) := by decide +kernel
