theorem dX3_init_0 : decode cX3_init 0 = .ok (.aload_n 0, 1) := by decide +kernel
theorem dX3_init_1 : decode cX3_init 1 = .ok (.invokespecial 3, 3) := by decide +kernel
theorem dX3_init_4 : decode cX3_init 4 = .ok (.aload_n 0, 1) := by decide +kernel
theorem dX3_init_5 : decode cX3_init 5 = .ok (.iconst 0, 1) := by decide +kernel
theorem dX3_init_6 : decode cX3_init 6 = .ok (.putfield 9, 3) := by decide +kernel
theorem dX3_init_9 : decode cX3_init 9 = .ok (.aload_n 0, 1) := by decide +kernel
theorem dX3_init_10 : decode cX3_init 10 = .ok (.aload_n 1, 1) := by decide +kernel
theorem dX3_init_11 : decode cX3_init 11 = .ok (.putfield 15, 3) := by decide +kernel
theorem dX3_init_14 : decode cX3_init 14 = .ok (.aload_n 0, 1) := by decide +kernel
theorem dX3_init_15 : decode cX3_init 15 = .ok (.aload_n 2, 1) := by decide +kernel
theorem dX3_init_16 : decode cX3_init 16 = .ok (.putfield 19, 3) := by decide +kernel
theorem dX3_init_19 : decode cX3_init 19 = .ok (.return_, 1) := by decide +kernel
theorem dX3_readSays_0 : decode cX3_readSays 0 = .ok (.aload_n 0, 1) := by decide +kernel
theorem dX3_readSays_1 : decode cX3_readSays 1 = .ok (.aload_n 1, 1) := by decide +kernel
theorem dX3_readSays_2 : decode cX3_readSays 2 = .ok (.putfield 19, 3) := by decide +kernel
theorem dX3_readSays_5 : decode cX3_readSays 5 = .ok (.aload_n 0, 1) := by decide +kernel
theorem dX3_readSays_6 : decode cX3_readSays 6 = .ok (.iconst 0, 1) := by decide +kernel
theorem dX3_readSays_7 : decode cX3_readSays 7 = .ok (.putfield 9, 3) := by decide +kernel
theorem dX3_readSays_10 : decode cX3_readSays 10 = .ok (.aload_n 0, 1) := by decide +kernel
theorem dX3_readSays_11 : decode cX3_readSays 11 = .ok (.iconst 0, 1) := by decide +kernel
theorem dX3_readSays_12 : decode cX3_readSays 12 = .ok (.invokevirtual 23, 3) := by decide +kernel
theorem dX3_readSays_15 : decode cX3_readSays 15 = .ok (.ireturn, 1) := by decide +kernel
theorem dX3_readGone_0 : decode cX3_readGone 0 = .ok (.aload_n 0, 1) := by decide +kernel
theorem dX3_readGone_1 : decode cX3_readGone 1 = .ok (.aload_n 1, 1) := by decide +kernel
theorem dX3_readGone_2 : decode cX3_readGone 2 = .ok (.putfield 19, 3) := by decide +kernel
theorem dX3_readGone_5 : decode cX3_readGone 5 = .ok (.aload_n 0, 1) := by decide +kernel
theorem dX3_readGone_6 : decode cX3_readGone 6 = .ok (.iconst 1, 1) := by decide +kernel
theorem dX3_readGone_7 : decode cX3_readGone 7 = .ok (.putfield 9, 3) := by decide +kernel
theorem dX3_readGone_10 : decode cX3_readGone 10 = .ok (.aload_n 0, 1) := by decide +kernel
theorem dX3_readGone_11 : decode cX3_readGone 11 = .ok (.iconst 0, 1) := by decide +kernel
theorem dX3_readGone_12 : decode cX3_readGone 12 = .ok (.invokevirtual 27, 3) := by decide +kernel
theorem dX3_readGone_15 : decode cX3_readGone 15 = .ok (.ireturn, 1) := by decide +kernel
theorem dX3_goIn_0 : decode cX3_goIn 0 = .ok (.aload_n 0, 1) := by decide +kernel
theorem dX3_goIn_1 : decode cX3_goIn 1 = .ok (.getfield 15, 3) := by decide +kernel
theorem dX3_goIn_4 : decode cX3_goIn 4 = .ok (.getfield 30, 3) := by decide +kernel
theorem dX3_goIn_7 : decode cX3_goIn 7 = .ok (.iload_n 1, 1) := by decide +kernel
theorem dX3_goIn_8 : decode cX3_goIn 8 = .ok (.if_icmp .eq 11, 3) := by decide +kernel
theorem dX3_goIn_11 : decode cX3_goIn 11 = .ok (.aload_n 0, 1) := by decide +kernel
theorem dX3_goIn_12 : decode cX3_goIn 12 = .ok (.getfield 15, 3) := by decide +kernel
theorem dX3_goIn_15 : decode cX3_goIn 15 = .ok (.invokevirtual 36, 3) := by decide +kernel
theorem dX3_goIn_18 : decode cX3_goIn 18 = .ok (.ireturn, 1) := by decide +kernel
theorem dX3_goIn_19 : decode cX3_goIn 19 = .ok (.iload_n 2, 1) := by decide +kernel
theorem dX3_goIn_20 : decode cX3_goIn 20 = .ok (.bipush 7, 2) := by decide +kernel
theorem dX3_goIn_22 : decode cX3_goIn 22 = .ok (.if_icmp .lt 19, 3) := by decide +kernel
theorem dX3_goIn_25 : decode cX3_goIn 25 = .ok (.aload_n 0, 1) := by decide +kernel
theorem dX3_goIn_26 : decode cX3_goIn 26 = .ok (.getfield 15, 3) := by decide +kernel
theorem dX3_goIn_29 : decode cX3_goIn 29 = .ok (.iconst 5, 1) := by decide +kernel
theorem dX3_goIn_30 : decode cX3_goIn 30 = .ok (.aload_n 0, 1) := by decide +kernel
theorem dX3_goIn_31 : decode cX3_goIn 31 = .ok (.getfield 15, 3) := by decide +kernel
theorem dX3_goIn_34 : decode cX3_goIn 34 = .ok (.getfield 40, 3) := by decide +kernel
theorem dX3_goIn_37 : decode cX3_goIn 37 = .ok (.invokevirtual 43, 3) := by decide +kernel
theorem dX3_goIn_40 : decode cX3_goIn 40 = .ok (.ireturn, 1) := by decide +kernel
theorem dX3_goIn_41 : decode cX3_goIn 41 = .ok (.aload_n 0, 1) := by decide +kernel
theorem dX3_goIn_42 : decode cX3_goIn 42 = .ok (.getfield 15, 3) := by decide +kernel
theorem dX3_goIn_45 : decode cX3_goIn 45 = .ok (.invokevirtual 47, 3) := by decide +kernel
theorem dX3_goIn_48 : decode cX3_goIn 48 = .ok (.iconst 1, 1) := by decide +kernel
theorem dX3_goIn_49 : decode cX3_goIn 49 = .ok (.ireturn, 1) := by decide +kernel
theorem dX3_add_0 : decode cX3_add 0 = .ok (.aload_n 0, 1) := by decide +kernel
theorem dX3_add_1 : decode cX3_add 1 = .ok (.getfield 19, 3) := by decide +kernel
theorem dX3_add_4 : decode cX3_add 4 = .ok (.iload_n 1, 1) := by decide +kernel
theorem dX3_add_5 : decode cX3_add 5 = .ok (.invokevirtual 50, 3) := by decide +kernel
theorem dX3_add_8 : decode cX3_add 8 = .ok (.iconst 1, 1) := by decide +kernel
theorem dX3_add_9 : decode cX3_add 9 = .ok (.ireturn, 1) := by decide +kernel
theorem dX3_readSum_0 : decode cX3_readSum 0 = .ok (.aload_n 0, 1) := by decide +kernel
theorem dX3_readSum_1 : decode cX3_readSum 1 = .ok (.iload_n 1, 1) := by decide +kernel
theorem dX3_readSum_2 : decode cX3_readSum 2 = .ok (.invokevirtual 56, 3) := by decide +kernel
theorem dX3_readSum_5 : decode cX3_readSum 5 = .ok (.ifCond .ne 5, 3) := by decide +kernel
theorem dX3_readSum_8 : decode cX3_readSum 8 = .ok (.iconst 0, 1) := by decide +kernel
theorem dX3_readSum_9 : decode cX3_readSum 9 = .ok (.ireturn, 1) := by decide +kernel
theorem dX3_readSum_10 : decode cX3_readSum 10 = .ok (.iconst 0, 1) := by decide +kernel
theorem dX3_readSum_11 : decode cX3_readSum 11 = .ok (.istore_n 2, 1) := by decide +kernel
theorem dX3_readSum_12 : decode cX3_readSum 12 = .ok (.iload_n 2, 1) := by decide +kernel
theorem dX3_readSum_13 : decode cX3_readSum 13 = .ok (.sipush 1600, 3) := by decide +kernel
theorem dX3_readSum_16 : decode cX3_readSum 16 = .ok (.if_icmp .ge 46, 3) := by decide +kernel
theorem dX3_readSum_19 : decode cX3_readSum 19 = .ok (.aload_n 0, 1) := by decide +kernel
theorem dX3_readSum_20 : decode cX3_readSum 20 = .ok (.invokevirtual 59, 3) := by decide +kernel
theorem dX3_readSum_23 : decode cX3_readSum 23 = .ok (.ifCond .eq 39, 3) := by decide +kernel
theorem dX3_readSum_26 : decode cX3_readSum 26 = .ok (.aload_n 0, 1) := by decide +kernel
theorem dX3_readSum_27 : decode cX3_readSum 27 = .ok (.invokevirtual 59, 3) := by decide +kernel
theorem dX3_readSum_30 : decode cX3_readSum 30 = .ok (.istore_n 3, 1) := by decide +kernel
theorem dX3_readSum_31 : decode cX3_readSum 31 = .ok (.aload_n 0, 1) := by decide +kernel
theorem dX3_readSum_32 : decode cX3_readSum 32 = .ok (.getfield 15, 3) := by decide +kernel
theorem dX3_readSum_35 : decode cX3_readSum 35 = .ok (.invokevirtual 47, 3) := by decide +kernel
theorem dX3_readSum_38 : decode cX3_readSum 38 = .ok (.aload_n 0, 1) := by decide +kernel
theorem dX3_readSum_39 : decode cX3_readSum 39 = .ok (.iload_n 1, 1) := by decide +kernel
theorem dX3_readSum_40 : decode cX3_readSum 40 = .ok (.invokevirtual 56, 3) := by decide +kernel
theorem dX3_readSum_43 : decode cX3_readSum 43 = .ok (.ifCond .ne 5, 3) := by decide +kernel
theorem dX3_readSum_46 : decode cX3_readSum 46 = .ok (.iconst 0, 1) := by decide +kernel
theorem dX3_readSum_47 : decode cX3_readSum 47 = .ok (.ireturn, 1) := by decide +kernel
theorem dX3_readSum_48 : decode cX3_readSum 48 = .ok (.aload_n 0, 1) := by decide +kernel
theorem dX3_readSum_49 : decode cX3_readSum 49 = .ok (.getfield 19, 3) := by decide +kernel
theorem dX3_readSum_52 : decode cX3_readSum 52 = .ok (.iload_n 3, 1) := by decide +kernel
theorem dX3_readSum_53 : decode cX3_readSum 53 = .ok (.invokevirtual 50, 3) := by decide +kernel
theorem dX3_readSum_56 : decode cX3_readSum 56 = .ok (.iinc 2 1, 3) := by decide +kernel
theorem dX3_readSum_59 : decode cX3_readSum 59 = .ok (.goto (-47), 3) := by decide +kernel
theorem dX3_readSum_62 : decode cX3_readSum 62 = .ok (.iconst 1, 1) := by decide +kernel
theorem dX3_readSum_63 : decode cX3_readSum 63 = .ok (.ireturn, 1) := by decide +kernel
theorem dX3_sumStep_0 : decode cX3_sumStep 0 = .ok (.aload_n 0, 1) := by decide +kernel
theorem dX3_sumStep_1 : decode cX3_sumStep 1 = .ok (.getfield 15, 3) := by decide +kernel
theorem dX3_sumStep_4 : decode cX3_sumStep 4 = .ok (.getfield 30, 3) := by decide +kernel
theorem dX3_sumStep_7 : decode cX3_sumStep 7 = .ok (.lookupswitch 31 #[(43, 25), (45, 28)], 25) := by decide +kernel
theorem dX3_sumStep_32 : decode cX3_sumStep 32 = .ok (.bipush (-7), 2) := by decide +kernel
theorem dX3_sumStep_34 : decode cX3_sumStep 34 = .ok (.ireturn, 1) := by decide +kernel
theorem dX3_sumStep_35 : decode cX3_sumStep 35 = .ok (.bipush (-8), 2) := by decide +kernel
theorem dX3_sumStep_37 : decode cX3_sumStep 37 = .ok (.ireturn, 1) := by decide +kernel
theorem dX3_sumStep_38 : decode cX3_sumStep 38 = .ok (.iconst 0, 1) := by decide +kernel
theorem dX3_sumStep_39 : decode cX3_sumStep 39 = .ok (.ireturn, 1) := by decide +kernel
theorem dX3_readProduct_0 : decode cX3_readProduct 0 = .ok (.aload_n 0, 1) := by decide +kernel
theorem dX3_readProduct_1 : decode cX3_readProduct 1 = .ok (.iload_n 1, 1) := by decide +kernel
theorem dX3_readProduct_2 : decode cX3_readProduct 2 = .ok (.invokevirtual 63, 3) := by decide +kernel
theorem dX3_readProduct_5 : decode cX3_readProduct 5 = .ok (.ifCond .ne 5, 3) := by decide +kernel
theorem dX3_readProduct_8 : decode cX3_readProduct 8 = .ok (.iconst 0, 1) := by decide +kernel
theorem dX3_readProduct_9 : decode cX3_readProduct 9 = .ok (.ireturn, 1) := by decide +kernel
theorem dX3_readProduct_10 : decode cX3_readProduct 10 = .ok (.iconst 0, 1) := by decide +kernel
theorem dX3_readProduct_11 : decode cX3_readProduct 11 = .ok (.istore_n 2, 1) := by decide +kernel
theorem dX3_readProduct_12 : decode cX3_readProduct 12 = .ok (.iload_n 2, 1) := by decide +kernel
theorem dX3_readProduct_13 : decode cX3_readProduct 13 = .ok (.sipush 1600, 3) := by decide +kernel
theorem dX3_readProduct_16 : decode cX3_readProduct 16 = .ok (.if_icmp .ge 46, 3) := by decide +kernel
theorem dX3_readProduct_19 : decode cX3_readProduct 19 = .ok (.aload_n 0, 1) := by decide +kernel
theorem dX3_readProduct_20 : decode cX3_readProduct 20 = .ok (.invokevirtual 66, 3) := by decide +kernel
theorem dX3_readProduct_23 : decode cX3_readProduct 23 = .ok (.ifCond .eq 39, 3) := by decide +kernel
theorem dX3_readProduct_26 : decode cX3_readProduct 26 = .ok (.aload_n 0, 1) := by decide +kernel
theorem dX3_readProduct_27 : decode cX3_readProduct 27 = .ok (.invokevirtual 66, 3) := by decide +kernel
theorem dX3_readProduct_30 : decode cX3_readProduct 30 = .ok (.istore_n 3, 1) := by decide +kernel
theorem dX3_readProduct_31 : decode cX3_readProduct 31 = .ok (.aload_n 0, 1) := by decide +kernel
theorem dX3_readProduct_32 : decode cX3_readProduct 32 = .ok (.getfield 15, 3) := by decide +kernel
theorem dX3_readProduct_35 : decode cX3_readProduct 35 = .ok (.invokevirtual 47, 3) := by decide +kernel
theorem dX3_readProduct_38 : decode cX3_readProduct 38 = .ok (.aload_n 0, 1) := by decide +kernel
theorem dX3_readProduct_39 : decode cX3_readProduct 39 = .ok (.iload_n 1, 1) := by decide +kernel
theorem dX3_readProduct_40 : decode cX3_readProduct 40 = .ok (.invokevirtual 63, 3) := by decide +kernel
theorem dX3_readProduct_43 : decode cX3_readProduct 43 = .ok (.ifCond .ne 5, 3) := by decide +kernel
theorem dX3_readProduct_46 : decode cX3_readProduct 46 = .ok (.iconst 0, 1) := by decide +kernel
theorem dX3_readProduct_47 : decode cX3_readProduct 47 = .ok (.ireturn, 1) := by decide +kernel
theorem dX3_readProduct_48 : decode cX3_readProduct 48 = .ok (.aload_n 0, 1) := by decide +kernel
theorem dX3_readProduct_49 : decode cX3_readProduct 49 = .ok (.getfield 19, 3) := by decide +kernel
theorem dX3_readProduct_52 : decode cX3_readProduct 52 = .ok (.iload_n 3, 1) := by decide +kernel
theorem dX3_readProduct_53 : decode cX3_readProduct 53 = .ok (.invokevirtual 50, 3) := by decide +kernel
theorem dX3_readProduct_56 : decode cX3_readProduct 56 = .ok (.iinc 2 1, 3) := by decide +kernel
theorem dX3_readProduct_59 : decode cX3_readProduct 59 = .ok (.goto (-47), 3) := by decide +kernel
theorem dX3_readProduct_62 : decode cX3_readProduct 62 = .ok (.iconst 1, 1) := by decide +kernel
theorem dX3_readProduct_63 : decode cX3_readProduct 63 = .ok (.ireturn, 1) := by decide +kernel
theorem dX3_productStep_0 : decode cX3_productStep 0 = .ok (.aload_n 0, 1) := by decide +kernel
theorem dX3_productStep_1 : decode cX3_productStep 1 = .ok (.getfield 15, 3) := by decide +kernel
theorem dX3_productStep_4 : decode cX3_productStep 4 = .ok (.getfield 30, 3) := by decide +kernel
theorem dX3_productStep_7 : decode cX3_productStep 7 = .ok (.lookupswitch 42 #[(37, 39), (42, 33), (47, 36)], 33) := by decide +kernel
theorem dX3_productStep_40 : decode cX3_productStep 40 = .ok (.bipush (-9), 2) := by decide +kernel
theorem dX3_productStep_42 : decode cX3_productStep 42 = .ok (.ireturn, 1) := by decide +kernel
theorem dX3_productStep_43 : decode cX3_productStep 43 = .ok (.bipush (-10), 2) := by decide +kernel
theorem dX3_productStep_45 : decode cX3_productStep 45 = .ok (.ireturn, 1) := by decide +kernel
theorem dX3_productStep_46 : decode cX3_productStep 46 = .ok (.bipush (-11), 2) := by decide +kernel
theorem dX3_productStep_48 : decode cX3_productStep 48 = .ok (.ireturn, 1) := by decide +kernel
theorem dX3_productStep_49 : decode cX3_productStep 49 = .ok (.iconst 0, 1) := by decide +kernel
theorem dX3_productStep_50 : decode cX3_productStep 50 = .ok (.ireturn, 1) := by decide +kernel
theorem dX3_readPart_0 : decode cX3_readPart 0 = .ok (.aload_n 0, 1) := by decide +kernel
theorem dX3_readPart_1 : decode cX3_readPart 1 = .ok (.getfield 15, 3) := by decide +kernel
theorem dX3_readPart_4 : decode cX3_readPart 4 = .ok (.getfield 30, 3) := by decide +kernel
theorem dX3_readPart_7 : decode cX3_readPart 7 = .ok (.lookupswitch 244 #[(40, 206), (256, 97), (261, 109), (262, 160), (263, 122), (275, 115), (276, 129), (277, 136), (278, 200), (283, 184), (284, 192)], 97) := by decide +kernel
theorem dX3_readPart_104 : decode cX3_readPart 104 = .ok (.aload_n 0, 1) := by decide +kernel
theorem dX3_readPart_105 : decode cX3_readPart 105 = .ok (.aload_n 0, 1) := by decide +kernel
theorem dX3_readPart_106 : decode cX3_readPart 106 = .ok (.getfield 15, 3) := by decide +kernel
theorem dX3_readPart_109 : decode cX3_readPart 109 = .ok (.getfield 69, 3) := by decide +kernel
theorem dX3_readPart_112 : decode cX3_readPart 112 = .ok (.invokevirtual 72, 3) := by decide +kernel
theorem dX3_readPart_115 : decode cX3_readPart 115 = .ok (.ireturn, 1) := by decide +kernel
theorem dX3_readPart_116 : decode cX3_readPart 116 = .ok (.aload_n 0, 1) := by decide +kernel
theorem dX3_readPart_117 : decode cX3_readPart 117 = .ok (.iconst (-1), 1) := by decide +kernel
theorem dX3_readPart_118 : decode cX3_readPart 118 = .ok (.invokevirtual 72, 3) := by decide +kernel
theorem dX3_readPart_121 : decode cX3_readPart 121 = .ok (.ireturn, 1) := by decide +kernel
theorem dX3_readPart_122 : decode cX3_readPart 122 = .ok (.aload_n 0, 1) := by decide +kernel
theorem dX3_readPart_123 : decode cX3_readPart 123 = .ok (.bipush (-2), 2) := by decide +kernel
theorem dX3_readPart_125 : decode cX3_readPart 125 = .ok (.invokevirtual 72, 3) := by decide +kernel
theorem dX3_readPart_128 : decode cX3_readPart 128 = .ok (.ireturn, 1) := by decide +kernel
theorem dX3_readPart_129 : decode cX3_readPart 129 = .ok (.aload_n 0, 1) := by decide +kernel
theorem dX3_readPart_130 : decode cX3_readPart 130 = .ok (.bipush (-3), 2) := by decide +kernel
theorem dX3_readPart_132 : decode cX3_readPart 132 = .ok (.invokevirtual 72, 3) := by decide +kernel
theorem dX3_readPart_135 : decode cX3_readPart 135 = .ok (.ireturn, 1) := by decide +kernel
theorem dX3_readPart_136 : decode cX3_readPart 136 = .ok (.aload_n 0, 1) := by decide +kernel
theorem dX3_readPart_137 : decode cX3_readPart 137 = .ok (.bipush (-4), 2) := by decide +kernel
theorem dX3_readPart_139 : decode cX3_readPart 139 = .ok (.invokevirtual 72, 3) := by decide +kernel
theorem dX3_readPart_142 : decode cX3_readPart 142 = .ok (.ireturn, 1) := by decide +kernel
theorem dX3_readPart_143 : decode cX3_readPart 143 = .ok (.aload_n 0, 1) := by decide +kernel
theorem dX3_readPart_144 : decode cX3_readPart 144 = .ok (.getfield 9, 3) := by decide +kernel
theorem dX3_readPart_147 : decode cX3_readPart 147 = .ok (.ifCond .eq 13, 3) := by decide +kernel
theorem dX3_readPart_150 : decode cX3_readPart 150 = .ok (.aload_n 0, 1) := by decide +kernel
theorem dX3_readPart_151 : decode cX3_readPart 151 = .ok (.getfield 15, 3) := by decide +kernel
theorem dX3_readPart_154 : decode cX3_readPart 154 = .ok (.invokevirtual 36, 3) := by decide +kernel
theorem dX3_readPart_157 : decode cX3_readPart 157 = .ok (.goto 9, 3) := by decide +kernel
theorem dX3_readPart_160 : decode cX3_readPart 160 = .ok (.aload_n 0, 1) := by decide +kernel
theorem dX3_readPart_161 : decode cX3_readPart 161 = .ok (.bipush (-5), 2) := by decide +kernel
theorem dX3_readPart_163 : decode cX3_readPart 163 = .ok (.invokevirtual 72, 3) := by decide +kernel
theorem dX3_readPart_166 : decode cX3_readPart 166 = .ok (.ireturn, 1) := by decide +kernel
theorem dX3_readPart_167 : decode cX3_readPart 167 = .ok (.aload_n 0, 1) := by decide +kernel
theorem dX3_readPart_168 : decode cX3_readPart 168 = .ok (.getfield 9, 3) := by decide +kernel
theorem dX3_readPart_171 : decode cX3_readPart 171 = .ok (.ifCond .eq 12, 3) := by decide +kernel
theorem dX3_readPart_174 : decode cX3_readPart 174 = .ok (.aload_n 0, 1) := by decide +kernel
theorem dX3_readPart_175 : decode cX3_readPart 175 = .ok (.bipush (-6), 2) := by decide +kernel
theorem dX3_readPart_177 : decode cX3_readPart 177 = .ok (.invokevirtual 72, 3) := by decide +kernel
theorem dX3_readPart_180 : decode cX3_readPart 180 = .ok (.goto 10, 3) := by decide +kernel
theorem dX3_readPart_183 : decode cX3_readPart 183 = .ok (.aload_n 0, 1) := by decide +kernel
theorem dX3_readPart_184 : decode cX3_readPart 184 = .ok (.getfield 15, 3) := by decide +kernel
theorem dX3_readPart_187 : decode cX3_readPart 187 = .ok (.invokevirtual 36, 3) := by decide +kernel
theorem dX3_readPart_190 : decode cX3_readPart 190 = .ok (.ireturn, 1) := by decide +kernel
theorem dX3_readPart_191 : decode cX3_readPart 191 = .ok (.aload_n 0, 1) := by decide +kernel
theorem dX3_readPart_192 : decode cX3_readPart 192 = .ok (.iload_n 1, 1) := by decide +kernel
theorem dX3_readPart_193 : decode cX3_readPart 193 = .ok (.bipush (-12), 2) := by decide +kernel
theorem dX3_readPart_195 : decode cX3_readPart 195 = .ok (.invokevirtual 75, 3) := by decide +kernel
theorem dX3_readPart_198 : decode cX3_readPart 198 = .ok (.ireturn, 1) := by decide +kernel
theorem dX3_readPart_199 : decode cX3_readPart 199 = .ok (.aload_n 0, 1) := by decide +kernel
theorem dX3_readPart_200 : decode cX3_readPart 200 = .ok (.iload_n 1, 1) := by decide +kernel
theorem dX3_readPart_201 : decode cX3_readPart 201 = .ok (.bipush (-13), 2) := by decide +kernel
theorem dX3_readPart_203 : decode cX3_readPart 203 = .ok (.invokevirtual 75, 3) := by decide +kernel
theorem dX3_readPart_206 : decode cX3_readPart 206 = .ok (.ireturn, 1) := by decide +kernel
theorem dX3_readPart_207 : decode cX3_readPart 207 = .ok (.aload_n 0, 1) := by decide +kernel
theorem dX3_readPart_208 : decode cX3_readPart 208 = .ok (.iload_n 1, 1) := by decide +kernel
theorem dX3_readPart_209 : decode cX3_readPart 209 = .ok (.invokevirtual 78, 3) := by decide +kernel
theorem dX3_readPart_212 : decode cX3_readPart 212 = .ok (.ireturn, 1) := by decide +kernel
theorem dX3_readPart_213 : decode cX3_readPart 213 = .ok (.aload_n 0, 1) := by decide +kernel
theorem dX3_readPart_214 : decode cX3_readPart 214 = .ok (.bipush 40, 2) := by decide +kernel
theorem dX3_readPart_216 : decode cX3_readPart 216 = .ok (.iload_n 1, 1) := by decide +kernel
theorem dX3_readPart_217 : decode cX3_readPart 217 = .ok (.invokevirtual 81, 3) := by decide +kernel
theorem dX3_readPart_220 : decode cX3_readPart 220 = .ok (.ifCond .eq 29, 3) := by decide +kernel
theorem dX3_readPart_223 : decode cX3_readPart 223 = .ok (.aload_n 0, 1) := by decide +kernel
theorem dX3_readPart_224 : decode cX3_readPart 224 = .ok (.iload_n 1, 1) := by decide +kernel
theorem dX3_readPart_225 : decode cX3_readPart 225 = .ok (.iconst 1, 1) := by decide +kernel
theorem dX3_readPart_226 : decode cX3_readPart 226 = .ok (.iadd, 1) := by decide +kernel
theorem dX3_readPart_227 : decode cX3_readPart 227 = .ok (.invokevirtual 23, 3) := by decide +kernel
theorem dX3_readPart_230 : decode cX3_readPart 230 = .ok (.ifCond .eq 19, 3) := by decide +kernel
theorem dX3_readPart_233 : decode cX3_readPart 233 = .ok (.aload_n 0, 1) := by decide +kernel
theorem dX3_readPart_234 : decode cX3_readPart 234 = .ok (.getfield 15, 3) := by decide +kernel
theorem dX3_readPart_237 : decode cX3_readPart 237 = .ok (.bipush 41, 2) := by decide +kernel
theorem dX3_readPart_239 : decode cX3_readPart 239 = .ok (.invokevirtual 84, 3) := by decide +kernel
theorem dX3_readPart_242 : decode cX3_readPart 242 = .ok (.ifCond .eq 7, 3) := by decide +kernel
theorem dX3_readPart_245 : decode cX3_readPart 245 = .ok (.iconst 1, 1) := by decide +kernel
theorem dX3_readPart_246 : decode cX3_readPart 246 = .ok (.goto 4, 3) := by decide +kernel
theorem dX3_readPart_249 : decode cX3_readPart 249 = .ok (.iconst 0, 1) := by decide +kernel
theorem dX3_readPart_250 : decode cX3_readPart 250 = .ok (.ireturn, 1) := by decide +kernel
theorem dX3_readPart_251 : decode cX3_readPart 251 = .ok (.aload_n 0, 1) := by decide +kernel
theorem dX3_readPart_252 : decode cX3_readPart 252 = .ok (.getfield 15, 3) := by decide +kernel
theorem dX3_readPart_255 : decode cX3_readPart 255 = .ok (.invokevirtual 36, 3) := by decide +kernel
theorem dX3_readPart_258 : decode cX3_readPart 258 = .ok (.ireturn, 1) := by decide +kernel
theorem dX3_addAndAdvance_0 : decode cX3_addAndAdvance 0 = .ok (.aload_n 0, 1) := by decide +kernel
theorem dX3_addAndAdvance_1 : decode cX3_addAndAdvance 1 = .ok (.getfield 19, 3) := by decide +kernel
theorem dX3_addAndAdvance_4 : decode cX3_addAndAdvance 4 = .ok (.iload_n 1, 1) := by decide +kernel
theorem dX3_addAndAdvance_5 : decode cX3_addAndAdvance 5 = .ok (.invokevirtual 50, 3) := by decide +kernel
theorem dX3_addAndAdvance_8 : decode cX3_addAndAdvance 8 = .ok (.aload_n 0, 1) := by decide +kernel
theorem dX3_addAndAdvance_9 : decode cX3_addAndAdvance 9 = .ok (.getfield 15, 3) := by decide +kernel
theorem dX3_addAndAdvance_12 : decode cX3_addAndAdvance 12 = .ok (.invokevirtual 47, 3) := by decide +kernel
theorem dX3_addAndAdvance_15 : decode cX3_addAndAdvance 15 = .ok (.iconst 1, 1) := by decide +kernel
theorem dX3_addAndAdvance_16 : decode cX3_addAndAdvance 16 = .ok (.ireturn, 1) := by decide +kernel
theorem dX3_readPair_0 : decode cX3_readPair 0 = .ok (.aload_n 0, 1) := by decide +kernel
theorem dX3_readPair_1 : decode cX3_readPair 1 = .ok (.getfield 15, 3) := by decide +kernel
theorem dX3_readPair_4 : decode cX3_readPair 4 = .ok (.invokevirtual 47, 3) := by decide +kernel
theorem dX3_readPair_7 : decode cX3_readPair 7 = .ok (.aload_n 0, 1) := by decide +kernel
theorem dX3_readPair_8 : decode cX3_readPair 8 = .ok (.bipush 40, 2) := by decide +kernel
theorem dX3_readPair_10 : decode cX3_readPair 10 = .ok (.iload_n 1, 1) := by decide +kernel
theorem dX3_readPair_11 : decode cX3_readPair 11 = .ok (.invokevirtual 81, 3) := by decide +kernel
theorem dX3_readPair_14 : decode cX3_readPair 14 = .ok (.ifCond .eq 59, 3) := by decide +kernel
theorem dX3_readPair_17 : decode cX3_readPair 17 = .ok (.aload_n 0, 1) := by decide +kernel
theorem dX3_readPair_18 : decode cX3_readPair 18 = .ok (.iload_n 1, 1) := by decide +kernel
theorem dX3_readPair_19 : decode cX3_readPair 19 = .ok (.iconst 1, 1) := by decide +kernel
theorem dX3_readPair_20 : decode cX3_readPair 20 = .ok (.iadd, 1) := by decide +kernel
theorem dX3_readPair_21 : decode cX3_readPair 21 = .ok (.invokevirtual 23, 3) := by decide +kernel
theorem dX3_readPair_24 : decode cX3_readPair 24 = .ok (.ifCond .eq 49, 3) := by decide +kernel
theorem dX3_readPair_27 : decode cX3_readPair 27 = .ok (.aload_n 0, 1) := by decide +kernel
theorem dX3_readPair_28 : decode cX3_readPair 28 = .ok (.getfield 15, 3) := by decide +kernel
theorem dX3_readPair_31 : decode cX3_readPair 31 = .ok (.bipush 44, 2) := by decide +kernel
theorem dX3_readPair_33 : decode cX3_readPair 33 = .ok (.invokevirtual 84, 3) := by decide +kernel
theorem dX3_readPair_36 : decode cX3_readPair 36 = .ok (.ifCond .eq 37, 3) := by decide +kernel
theorem dX3_readPair_39 : decode cX3_readPair 39 = .ok (.aload_n 0, 1) := by decide +kernel
theorem dX3_readPair_40 : decode cX3_readPair 40 = .ok (.iload_n 1, 1) := by decide +kernel
theorem dX3_readPair_41 : decode cX3_readPair 41 = .ok (.iconst 1, 1) := by decide +kernel
theorem dX3_readPair_42 : decode cX3_readPair 42 = .ok (.iadd, 1) := by decide +kernel
theorem dX3_readPair_43 : decode cX3_readPair 43 = .ok (.invokevirtual 23, 3) := by decide +kernel
theorem dX3_readPair_46 : decode cX3_readPair 46 = .ok (.ifCond .eq 27, 3) := by decide +kernel
theorem dX3_readPair_49 : decode cX3_readPair 49 = .ok (.aload_n 0, 1) := by decide +kernel
theorem dX3_readPair_50 : decode cX3_readPair 50 = .ok (.getfield 15, 3) := by decide +kernel
theorem dX3_readPair_53 : decode cX3_readPair 53 = .ok (.bipush 41, 2) := by decide +kernel
theorem dX3_readPair_55 : decode cX3_readPair 55 = .ok (.invokevirtual 84, 3) := by decide +kernel
theorem dX3_readPair_58 : decode cX3_readPair 58 = .ok (.ifCond .eq 15, 3) := by decide +kernel
theorem dX3_readPair_61 : decode cX3_readPair 61 = .ok (.aload_n 0, 1) := by decide +kernel
theorem dX3_readPair_62 : decode cX3_readPair 62 = .ok (.iload_n 2, 1) := by decide +kernel
theorem dX3_readPair_63 : decode cX3_readPair 63 = .ok (.invokevirtual 87, 3) := by decide +kernel
theorem dX3_readPair_66 : decode cX3_readPair 66 = .ok (.ifCond .eq 7, 3) := by decide +kernel
theorem dX3_readPair_69 : decode cX3_readPair 69 = .ok (.iconst 1, 1) := by decide +kernel
theorem dX3_readPair_70 : decode cX3_readPair 70 = .ok (.goto 4, 3) := by decide +kernel
theorem dX3_readPair_73 : decode cX3_readPair 73 = .ok (.iconst 0, 1) := by decide +kernel
theorem dX3_readPair_74 : decode cX3_readPair 74 = .ok (.ireturn, 1) := by decide +kernel
theorem dX3_readChoice_0 : decode cX3_readChoice 0 = .ok (.aload_n 0, 1) := by decide +kernel
theorem dX3_readChoice_1 : decode cX3_readChoice 1 = .ok (.getfield 15, 3) := by decide +kernel
theorem dX3_readChoice_4 : decode cX3_readChoice 4 = .ok (.invokevirtual 47, 3) := by decide +kernel
theorem dX3_readChoice_7 : decode cX3_readChoice 7 = .ok (.aload_n 0, 1) := by decide +kernel
theorem dX3_readChoice_8 : decode cX3_readChoice 8 = .ok (.bipush 40, 2) := by decide +kernel
theorem dX3_readChoice_10 : decode cX3_readChoice 10 = .ok (.iload_n 1, 1) := by decide +kernel
theorem dX3_readChoice_11 : decode cX3_readChoice 11 = .ok (.invokevirtual 81, 3) := by decide +kernel
theorem dX3_readChoice_14 : decode cX3_readChoice 14 = .ok (.ifCond .eq 82, 3) := by decide +kernel
theorem dX3_readChoice_17 : decode cX3_readChoice 17 = .ok (.aload_n 0, 1) := by decide +kernel
theorem dX3_readChoice_18 : decode cX3_readChoice 18 = .ok (.iload_n 1, 1) := by decide +kernel
theorem dX3_readChoice_19 : decode cX3_readChoice 19 = .ok (.iconst 1, 1) := by decide +kernel
theorem dX3_readChoice_20 : decode cX3_readChoice 20 = .ok (.iadd, 1) := by decide +kernel
theorem dX3_readChoice_21 : decode cX3_readChoice 21 = .ok (.invokevirtual 27, 3) := by decide +kernel
theorem dX3_readChoice_24 : decode cX3_readChoice 24 = .ok (.ifCond .eq 72, 3) := by decide +kernel
theorem dX3_readChoice_27 : decode cX3_readChoice 27 = .ok (.aload_n 0, 1) := by decide +kernel
theorem dX3_readChoice_28 : decode cX3_readChoice 28 = .ok (.getfield 15, 3) := by decide +kernel
theorem dX3_readChoice_31 : decode cX3_readChoice 31 = .ok (.bipush 44, 2) := by decide +kernel
theorem dX3_readChoice_33 : decode cX3_readChoice 33 = .ok (.invokevirtual 84, 3) := by decide +kernel
theorem dX3_readChoice_36 : decode cX3_readChoice 36 = .ok (.ifCond .eq 60, 3) := by decide +kernel
theorem dX3_readChoice_39 : decode cX3_readChoice 39 = .ok (.aload_n 0, 1) := by decide +kernel
theorem dX3_readChoice_40 : decode cX3_readChoice 40 = .ok (.iload_n 1, 1) := by decide +kernel
theorem dX3_readChoice_41 : decode cX3_readChoice 41 = .ok (.iconst 1, 1) := by decide +kernel
theorem dX3_readChoice_42 : decode cX3_readChoice 42 = .ok (.iadd, 1) := by decide +kernel
theorem dX3_readChoice_43 : decode cX3_readChoice 43 = .ok (.invokevirtual 23, 3) := by decide +kernel
theorem dX3_readChoice_46 : decode cX3_readChoice 46 = .ok (.ifCond .eq 50, 3) := by decide +kernel
theorem dX3_readChoice_49 : decode cX3_readChoice 49 = .ok (.aload_n 0, 1) := by decide +kernel
theorem dX3_readChoice_50 : decode cX3_readChoice 50 = .ok (.getfield 15, 3) := by decide +kernel
theorem dX3_readChoice_53 : decode cX3_readChoice 53 = .ok (.bipush 44, 2) := by decide +kernel
theorem dX3_readChoice_55 : decode cX3_readChoice 55 = .ok (.invokevirtual 84, 3) := by decide +kernel
theorem dX3_readChoice_58 : decode cX3_readChoice 58 = .ok (.ifCond .eq 38, 3) := by decide +kernel
theorem dX3_readChoice_61 : decode cX3_readChoice 61 = .ok (.aload_n 0, 1) := by decide +kernel
theorem dX3_readChoice_62 : decode cX3_readChoice 62 = .ok (.iload_n 1, 1) := by decide +kernel
theorem dX3_readChoice_63 : decode cX3_readChoice 63 = .ok (.iconst 1, 1) := by decide +kernel
theorem dX3_readChoice_64 : decode cX3_readChoice 64 = .ok (.iadd, 1) := by decide +kernel
theorem dX3_readChoice_65 : decode cX3_readChoice 65 = .ok (.invokevirtual 23, 3) := by decide +kernel
theorem dX3_readChoice_68 : decode cX3_readChoice 68 = .ok (.ifCond .eq 28, 3) := by decide +kernel
theorem dX3_readChoice_71 : decode cX3_readChoice 71 = .ok (.aload_n 0, 1) := by decide +kernel
theorem dX3_readChoice_72 : decode cX3_readChoice 72 = .ok (.getfield 15, 3) := by decide +kernel
theorem dX3_readChoice_75 : decode cX3_readChoice 75 = .ok (.bipush 41, 2) := by decide +kernel
theorem dX3_readChoice_77 : decode cX3_readChoice 77 = .ok (.invokevirtual 84, 3) := by decide +kernel
theorem dX3_readChoice_80 : decode cX3_readChoice 80 = .ok (.ifCond .eq 16, 3) := by decide +kernel
theorem dX3_readChoice_83 : decode cX3_readChoice 83 = .ok (.aload_n 0, 1) := by decide +kernel
theorem dX3_readChoice_84 : decode cX3_readChoice 84 = .ok (.bipush (-14), 2) := by decide +kernel
theorem dX3_readChoice_86 : decode cX3_readChoice 86 = .ok (.invokevirtual 87, 3) := by decide +kernel
theorem dX3_readChoice_89 : decode cX3_readChoice 89 = .ok (.ifCond .eq 7, 3) := by decide +kernel
theorem dX3_readChoice_92 : decode cX3_readChoice 92 = .ok (.iconst 1, 1) := by decide +kernel
theorem dX3_readChoice_93 : decode cX3_readChoice 93 = .ok (.goto 4, 3) := by decide +kernel
theorem dX3_readChoice_96 : decode cX3_readChoice 96 = .ok (.iconst 0, 1) := by decide +kernel
theorem dX3_readChoice_97 : decode cX3_readChoice 97 = .ok (.ireturn, 1) := by decide +kernel
theorem dX3_readTest_0 : decode cX3_readTest 0 = .ok (.aload_n 0, 1) := by decide +kernel
theorem dX3_readTest_1 : decode cX3_readTest 1 = .ok (.iload_n 1, 1) := by decide +kernel
theorem dX3_readTest_2 : decode cX3_readTest 2 = .ok (.invokevirtual 89, 3) := by decide +kernel
theorem dX3_readTest_5 : decode cX3_readTest 5 = .ok (.ifCond .ne 5, 3) := by decide +kernel
theorem dX3_readTest_8 : decode cX3_readTest 8 = .ok (.iconst 0, 1) := by decide +kernel
theorem dX3_readTest_9 : decode cX3_readTest 9 = .ok (.ireturn, 1) := by decide +kernel
theorem dX3_readTest_10 : decode cX3_readTest 10 = .ok (.iconst 0, 1) := by decide +kernel
theorem dX3_readTest_11 : decode cX3_readTest 11 = .ok (.istore_n 2, 1) := by decide +kernel
theorem dX3_readTest_12 : decode cX3_readTest 12 = .ok (.iload_n 2, 1) := by decide +kernel
theorem dX3_readTest_13 : decode cX3_readTest 13 = .ok (.sipush 1600, 3) := by decide +kernel
theorem dX3_readTest_16 : decode cX3_readTest 16 = .ok (.if_icmp .ge 48, 3) := by decide +kernel
theorem dX3_readTest_19 : decode cX3_readTest 19 = .ok (.aload_n 0, 1) := by decide +kernel
theorem dX3_readTest_20 : decode cX3_readTest 20 = .ok (.getfield 15, 3) := by decide +kernel
theorem dX3_readTest_23 : decode cX3_readTest 23 = .ok (.getfield 30, 3) := by decide +kernel
theorem dX3_readTest_26 : decode cX3_readTest 26 = .ok (.sipush 279, 3) := by decide +kernel
theorem dX3_readTest_29 : decode cX3_readTest 29 = .ok (.if_icmp .ne 35, 3) := by decide +kernel
theorem dX3_readTest_32 : decode cX3_readTest 32 = .ok (.aload_n 0, 1) := by decide +kernel
theorem dX3_readTest_33 : decode cX3_readTest 33 = .ok (.getfield 15, 3) := by decide +kernel
theorem dX3_readTest_36 : decode cX3_readTest 36 = .ok (.invokevirtual 47, 3) := by decide +kernel
theorem dX3_readTest_39 : decode cX3_readTest 39 = .ok (.aload_n 0, 1) := by decide +kernel
theorem dX3_readTest_40 : decode cX3_readTest 40 = .ok (.iload_n 1, 1) := by decide +kernel
theorem dX3_readTest_41 : decode cX3_readTest 41 = .ok (.invokevirtual 89, 3) := by decide +kernel
theorem dX3_readTest_44 : decode cX3_readTest 44 = .ok (.ifCond .ne 5, 3) := by decide +kernel
theorem dX3_readTest_47 : decode cX3_readTest 47 = .ok (.iconst 0, 1) := by decide +kernel
theorem dX3_readTest_48 : decode cX3_readTest 48 = .ok (.ireturn, 1) := by decide +kernel
theorem dX3_readTest_49 : decode cX3_readTest 49 = .ok (.aload_n 0, 1) := by decide +kernel
theorem dX3_readTest_50 : decode cX3_readTest 50 = .ok (.getfield 19, 3) := by decide +kernel
theorem dX3_readTest_53 : decode cX3_readTest 53 = .ok (.bipush (-19), 2) := by decide +kernel
theorem dX3_readTest_55 : decode cX3_readTest 55 = .ok (.invokevirtual 50, 3) := by decide +kernel
theorem dX3_readTest_58 : decode cX3_readTest 58 = .ok (.iinc 2 1, 3) := by decide +kernel
theorem dX3_readTest_61 : decode cX3_readTest 61 = .ok (.goto (-49), 3) := by decide +kernel
theorem dX3_readTest_64 : decode cX3_readTest 64 = .ok (.iconst 1, 1) := by decide +kernel
theorem dX3_readTest_65 : decode cX3_readTest 65 = .ok (.ireturn, 1) := by decide +kernel
theorem dX3_readBoth_0 : decode cX3_readBoth 0 = .ok (.aload_n 0, 1) := by decide +kernel
theorem dX3_readBoth_1 : decode cX3_readBoth 1 = .ok (.iload_n 1, 1) := by decide +kernel
theorem dX3_readBoth_2 : decode cX3_readBoth 2 = .ok (.invokevirtual 92, 3) := by decide +kernel
theorem dX3_readBoth_5 : decode cX3_readBoth 5 = .ok (.ifCond .ne 5, 3) := by decide +kernel
theorem dX3_readBoth_8 : decode cX3_readBoth 8 = .ok (.iconst 0, 1) := by decide +kernel
theorem dX3_readBoth_9 : decode cX3_readBoth 9 = .ok (.ireturn, 1) := by decide +kernel
theorem dX3_readBoth_10 : decode cX3_readBoth 10 = .ok (.iconst 0, 1) := by decide +kernel
theorem dX3_readBoth_11 : decode cX3_readBoth 11 = .ok (.istore_n 2, 1) := by decide +kernel
theorem dX3_readBoth_12 : decode cX3_readBoth 12 = .ok (.iload_n 2, 1) := by decide +kernel
theorem dX3_readBoth_13 : decode cX3_readBoth 13 = .ok (.sipush 1600, 3) := by decide +kernel
theorem dX3_readBoth_16 : decode cX3_readBoth 16 = .ok (.if_icmp .ge 48, 3) := by decide +kernel
theorem dX3_readBoth_19 : decode cX3_readBoth 19 = .ok (.aload_n 0, 1) := by decide +kernel
theorem dX3_readBoth_20 : decode cX3_readBoth 20 = .ok (.getfield 15, 3) := by decide +kernel
theorem dX3_readBoth_23 : decode cX3_readBoth 23 = .ok (.getfield 30, 3) := by decide +kernel
theorem dX3_readBoth_26 : decode cX3_readBoth 26 = .ok (.sipush 280, 3) := by decide +kernel
theorem dX3_readBoth_29 : decode cX3_readBoth 29 = .ok (.if_icmp .ne 35, 3) := by decide +kernel
theorem dX3_readBoth_32 : decode cX3_readBoth 32 = .ok (.aload_n 0, 1) := by decide +kernel
theorem dX3_readBoth_33 : decode cX3_readBoth 33 = .ok (.getfield 15, 3) := by decide +kernel
theorem dX3_readBoth_36 : decode cX3_readBoth 36 = .ok (.invokevirtual 47, 3) := by decide +kernel
theorem dX3_readBoth_39 : decode cX3_readBoth 39 = .ok (.aload_n 0, 1) := by decide +kernel
theorem dX3_readBoth_40 : decode cX3_readBoth 40 = .ok (.iload_n 1, 1) := by decide +kernel
theorem dX3_readBoth_41 : decode cX3_readBoth 41 = .ok (.invokevirtual 92, 3) := by decide +kernel
theorem dX3_readBoth_44 : decode cX3_readBoth 44 = .ok (.ifCond .ne 5, 3) := by decide +kernel
theorem dX3_readBoth_47 : decode cX3_readBoth 47 = .ok (.iconst 0, 1) := by decide +kernel
theorem dX3_readBoth_48 : decode cX3_readBoth 48 = .ok (.ireturn, 1) := by decide +kernel
theorem dX3_readBoth_49 : decode cX3_readBoth 49 = .ok (.aload_n 0, 1) := by decide +kernel
theorem dX3_readBoth_50 : decode cX3_readBoth 50 = .ok (.getfield 19, 3) := by decide +kernel
theorem dX3_readBoth_53 : decode cX3_readBoth 53 = .ok (.bipush (-18), 2) := by decide +kernel
theorem dX3_readBoth_55 : decode cX3_readBoth 55 = .ok (.invokevirtual 50, 3) := by decide +kernel
theorem dX3_readBoth_58 : decode cX3_readBoth 58 = .ok (.iinc 2 1, 3) := by decide +kernel
theorem dX3_readBoth_61 : decode cX3_readBoth 61 = .ok (.goto (-49), 3) := by decide +kernel
theorem dX3_readBoth_64 : decode cX3_readBoth 64 = .ok (.iconst 1, 1) := by decide +kernel
theorem dX3_readBoth_65 : decode cX3_readBoth 65 = .ok (.ireturn, 1) := by decide +kernel
theorem dX3_readFact_0 : decode cX3_readFact 0 = .ok (.aload_n 0, 1) := by decide +kernel
theorem dX3_readFact_1 : decode cX3_readFact 1 = .ok (.getfield 15, 3) := by decide +kernel
theorem dX3_readFact_4 : decode cX3_readFact 4 = .ok (.getfield 30, 3) := by decide +kernel
theorem dX3_readFact_7 : decode cX3_readFact 7 = .ok (.lookupswitch 121 #[(91, 77), (281, 33), (282, 115)], 33) := by decide +kernel
theorem dX3_readFact_40 : decode cX3_readFact 40 = .ok (.aload_n 0, 1) := by decide +kernel
theorem dX3_readFact_41 : decode cX3_readFact 41 = .ok (.sipush 281, 3) := by decide +kernel
theorem dX3_readFact_44 : decode cX3_readFact 44 = .ok (.iload_n 1, 1) := by decide +kernel
theorem dX3_readFact_45 : decode cX3_readFact 45 = .ok (.invokevirtual 81, 3) := by decide +kernel
theorem dX3_readFact_48 : decode cX3_readFact 48 = .ok (.ifCond .eq 34, 3) := by decide +kernel
theorem dX3_readFact_51 : decode cX3_readFact 51 = .ok (.aload_n 0, 1) := by decide +kernel
theorem dX3_readFact_52 : decode cX3_readFact 52 = .ok (.iload_n 1, 1) := by decide +kernel
theorem dX3_readFact_53 : decode cX3_readFact 53 = .ok (.iconst 1, 1) := by decide +kernel
theorem dX3_readFact_54 : decode cX3_readFact 54 = .ok (.iadd, 1) := by decide +kernel
theorem dX3_readFact_55 : decode cX3_readFact 55 = .ok (.invokevirtual 92, 3) := by decide +kernel
theorem dX3_readFact_58 : decode cX3_readFact 58 = .ok (.ifCond .eq 24, 3) := by decide +kernel
theorem dX3_readFact_61 : decode cX3_readFact 61 = .ok (.aload_n 0, 1) := by decide +kernel
theorem dX3_readFact_62 : decode cX3_readFact 62 = .ok (.iconst 0, 1) := by decide +kernel
theorem dX3_readFact_63 : decode cX3_readFact 63 = .ok (.invokevirtual 87, 3) := by decide +kernel
theorem dX3_readFact_66 : decode cX3_readFact 66 = .ok (.ifCond .eq 16, 3) := by decide +kernel
theorem dX3_readFact_69 : decode cX3_readFact 69 = .ok (.aload_n 0, 1) := by decide +kernel
theorem dX3_readFact_70 : decode cX3_readFact 70 = .ok (.bipush (-17), 2) := by decide +kernel
theorem dX3_readFact_72 : decode cX3_readFact 72 = .ok (.invokevirtual 87, 3) := by decide +kernel
theorem dX3_readFact_75 : decode cX3_readFact 75 = .ok (.ifCond .eq 7, 3) := by decide +kernel
theorem dX3_readFact_78 : decode cX3_readFact 78 = .ok (.iconst 1, 1) := by decide +kernel
theorem dX3_readFact_79 : decode cX3_readFact 79 = .ok (.goto 4, 3) := by decide +kernel
theorem dX3_readFact_82 : decode cX3_readFact 82 = .ok (.iconst 0, 1) := by decide +kernel
theorem dX3_readFact_83 : decode cX3_readFact 83 = .ok (.ireturn, 1) := by decide +kernel
theorem dX3_readFact_84 : decode cX3_readFact 84 = .ok (.aload_n 0, 1) := by decide +kernel
theorem dX3_readFact_85 : decode cX3_readFact 85 = .ok (.bipush 91, 2) := by decide +kernel
theorem dX3_readFact_87 : decode cX3_readFact 87 = .ok (.iload_n 1, 1) := by decide +kernel
theorem dX3_readFact_88 : decode cX3_readFact 88 = .ok (.invokevirtual 81, 3) := by decide +kernel
theorem dX3_readFact_91 : decode cX3_readFact 91 = .ok (.ifCond .eq 29, 3) := by decide +kernel
theorem dX3_readFact_94 : decode cX3_readFact 94 = .ok (.aload_n 0, 1) := by decide +kernel
theorem dX3_readFact_95 : decode cX3_readFact 95 = .ok (.iload_n 1, 1) := by decide +kernel
theorem dX3_readFact_96 : decode cX3_readFact 96 = .ok (.iconst 1, 1) := by decide +kernel
theorem dX3_readFact_97 : decode cX3_readFact 97 = .ok (.iadd, 1) := by decide +kernel
theorem dX3_readFact_98 : decode cX3_readFact 98 = .ok (.invokevirtual 27, 3) := by decide +kernel
theorem dX3_readFact_101 : decode cX3_readFact 101 = .ok (.ifCond .eq 19, 3) := by decide +kernel
theorem dX3_readFact_104 : decode cX3_readFact 104 = .ok (.aload_n 0, 1) := by decide +kernel
theorem dX3_readFact_105 : decode cX3_readFact 105 = .ok (.getfield 15, 3) := by decide +kernel
theorem dX3_readFact_108 : decode cX3_readFact 108 = .ok (.bipush 93, 2) := by decide +kernel
theorem dX3_readFact_110 : decode cX3_readFact 110 = .ok (.invokevirtual 84, 3) := by decide +kernel
theorem dX3_readFact_113 : decode cX3_readFact 113 = .ok (.ifCond .eq 7, 3) := by decide +kernel
theorem dX3_readFact_116 : decode cX3_readFact 116 = .ok (.iconst 1, 1) := by decide +kernel
theorem dX3_readFact_117 : decode cX3_readFact 117 = .ok (.goto 4, 3) := by decide +kernel
theorem dX3_readFact_120 : decode cX3_readFact 120 = .ok (.iconst 0, 1) := by decide +kernel
theorem dX3_readFact_121 : decode cX3_readFact 121 = .ok (.ireturn, 1) := by decide +kernel
theorem dX3_readFact_122 : decode cX3_readFact 122 = .ok (.aload_n 0, 1) := by decide +kernel
theorem dX3_readFact_123 : decode cX3_readFact 123 = .ok (.iconst 1, 1) := by decide +kernel
theorem dX3_readFact_124 : decode cX3_readFact 124 = .ok (.invokevirtual 72, 3) := by decide +kernel
theorem dX3_readFact_127 : decode cX3_readFact 127 = .ok (.ireturn, 1) := by decide +kernel
theorem dX3_readFact_128 : decode cX3_readFact 128 = .ok (.aload_n 0, 1) := by decide +kernel
theorem dX3_readFact_129 : decode cX3_readFact 129 = .ok (.iload_n 1, 1) := by decide +kernel
theorem dX3_readFact_130 : decode cX3_readFact 130 = .ok (.invokevirtual 95, 3) := by decide +kernel
theorem dX3_readFact_133 : decode cX3_readFact 133 = .ok (.ireturn, 1) := by decide +kernel
theorem dX3_readComparison_0 : decode cX3_readComparison 0 = .ok (.aload_n 0, 1) := by decide +kernel
theorem dX3_readComparison_1 : decode cX3_readComparison 1 = .ok (.iload_n 1, 1) := by decide +kernel
theorem dX3_readComparison_2 : decode cX3_readComparison 2 = .ok (.invokevirtual 23, 3) := by decide +kernel
theorem dX3_readComparison_5 : decode cX3_readComparison 5 = .ok (.ifCond .ne 5, 3) := by decide +kernel
theorem dX3_readComparison_8 : decode cX3_readComparison 8 = .ok (.iconst 0, 1) := by decide +kernel
theorem dX3_readComparison_9 : decode cX3_readComparison 9 = .ok (.ireturn, 1) := by decide +kernel
theorem dX3_readComparison_10 : decode cX3_readComparison 10 = .ok (.aload_n 0, 1) := by decide +kernel
theorem dX3_readComparison_11 : decode cX3_readComparison 11 = .ok (.invokevirtual 98, 3) := by decide +kernel
theorem dX3_readComparison_14 : decode cX3_readComparison 14 = .ok (.istore_n 2, 1) := by decide +kernel
theorem dX3_readComparison_15 : decode cX3_readComparison 15 = .ok (.iload_n 2, 1) := by decide +kernel
theorem dX3_readComparison_16 : decode cX3_readComparison 16 = .ok (.ifCond .ne 11, 3) := by decide +kernel
theorem dX3_readComparison_19 : decode cX3_readComparison 19 = .ok (.aload_n 0, 1) := by decide +kernel
theorem dX3_readComparison_20 : decode cX3_readComparison 20 = .ok (.getfield 15, 3) := by decide +kernel
theorem dX3_readComparison_23 : decode cX3_readComparison 23 = .ok (.invokevirtual 36, 3) := by decide +kernel
theorem dX3_readComparison_26 : decode cX3_readComparison 26 = .ok (.ireturn, 1) := by decide +kernel
theorem dX3_readComparison_27 : decode cX3_readComparison 27 = .ok (.aload_n 0, 1) := by decide +kernel
theorem dX3_readComparison_28 : decode cX3_readComparison 28 = .ok (.getfield 15, 3) := by decide +kernel
theorem dX3_readComparison_31 : decode cX3_readComparison 31 = .ok (.invokevirtual 47, 3) := by decide +kernel
theorem dX3_readComparison_34 : decode cX3_readComparison 34 = .ok (.aload_n 0, 1) := by decide +kernel
theorem dX3_readComparison_35 : decode cX3_readComparison 35 = .ok (.iload_n 1, 1) := by decide +kernel
theorem dX3_readComparison_36 : decode cX3_readComparison 36 = .ok (.invokevirtual 23, 3) := by decide +kernel
theorem dX3_readComparison_39 : decode cX3_readComparison 39 = .ok (.ifCond .eq 15, 3) := by decide +kernel
theorem dX3_readComparison_42 : decode cX3_readComparison 42 = .ok (.aload_n 0, 1) := by decide +kernel
theorem dX3_readComparison_43 : decode cX3_readComparison 43 = .ok (.iload_n 2, 1) := by decide +kernel
theorem dX3_readComparison_44 : decode cX3_readComparison 44 = .ok (.invokevirtual 87, 3) := by decide +kernel
theorem dX3_readComparison_47 : decode cX3_readComparison 47 = .ok (.ifCond .eq 7, 3) := by decide +kernel
theorem dX3_readComparison_50 : decode cX3_readComparison 50 = .ok (.iconst 1, 1) := by decide +kernel
theorem dX3_readComparison_51 : decode cX3_readComparison 51 = .ok (.goto 4, 3) := by decide +kernel
theorem dX3_readComparison_54 : decode cX3_readComparison 54 = .ok (.iconst 0, 1) := by decide +kernel
theorem dX3_readComparison_55 : decode cX3_readComparison 55 = .ok (.ireturn, 1) := by decide +kernel
theorem dX3_comparisonStep_0 : decode cX3_comparisonStep 0 = .ok (.aload_n 0, 1) := by decide +kernel
theorem dX3_comparisonStep_1 : decode cX3_comparisonStep 1 = .ok (.getfield 15, 3) := by decide +kernel
theorem dX3_comparisonStep_4 : decode cX3_comparisonStep 4 = .ok (.getfield 30, 3) := by decide +kernel
theorem dX3_comparisonStep_7 : decode cX3_comparisonStep 7 = .ok (.tableswitch 34 60 62 #[25, 31, 28], 25) := by decide +kernel
theorem dX3_comparisonStep_32 : decode cX3_comparisonStep 32 = .ok (.bipush (-15), 2) := by decide +kernel
theorem dX3_comparisonStep_34 : decode cX3_comparisonStep 34 = .ok (.ireturn, 1) := by decide +kernel
theorem dX3_comparisonStep_35 : decode cX3_comparisonStep 35 = .ok (.bipush (-16), 2) := by decide +kernel
theorem dX3_comparisonStep_37 : decode cX3_comparisonStep 37 = .ok (.ireturn, 1) := by decide +kernel
theorem dX3_comparisonStep_38 : decode cX3_comparisonStep 38 = .ok (.bipush (-17), 2) := by decide +kernel
theorem dX3_comparisonStep_40 : decode cX3_comparisonStep 40 = .ok (.ireturn, 1) := by decide +kernel
theorem dX3_comparisonStep_41 : decode cX3_comparisonStep 41 = .ok (.iconst 0, 1) := by decide +kernel
theorem dX3_comparisonStep_42 : decode cX3_comparisonStep 42 = .ok (.ireturn, 1) := by decide +kernel
