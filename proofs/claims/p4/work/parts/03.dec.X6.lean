theorem dX6_init_0 : decode cX6_init 0 = .ok (.aload_n 0, 1) := by decide +kernel
theorem dX6_init_1 : decode cX6_init 1 = .ok (.invokespecial 3, 3) := by decide +kernel
theorem dX6_init_4 : decode cX6_init 4 = .ok (.aload_n 0, 1) := by decide +kernel
theorem dX6_init_5 : decode cX6_init 5 = .ok (.iconst 0, 1) := by decide +kernel
theorem dX6_init_6 : decode cX6_init 6 = .ok (.putfield 9, 3) := by decide +kernel
theorem dX6_init_9 : decode cX6_init 9 = .ok (.aload_n 0, 1) := by decide +kernel
theorem dX6_init_10 : decode cX6_init 10 = .ok (.iconst 5, 1) := by decide +kernel
theorem dX6_init_11 : decode cX6_init 11 = .ok (.newarray .int, 2) := by decide +kernel
theorem dX6_init_13 : decode cX6_init 13 = .ok (.putfield 15, 3) := by decide +kernel
theorem dX6_init_16 : decode cX6_init 16 = .ok (.aload_n 0, 1) := by decide +kernel
theorem dX6_init_17 : decode cX6_init 17 = .ok (.iconst 5, 1) := by decide +kernel
theorem dX6_init_18 : decode cX6_init 18 = .ok (.newarray .int, 2) := by decide +kernel
theorem dX6_init_20 : decode cX6_init 20 = .ok (.putfield 19, 3) := by decide +kernel
theorem dX6_init_23 : decode cX6_init 23 = .ok (.aload_n 0, 1) := by decide +kernel
theorem dX6_init_24 : decode cX6_init 24 = .ok (.bipush 6, 2) := by decide +kernel
theorem dX6_init_26 : decode cX6_init 26 = .ok (.newarray .int, 2) := by decide +kernel
theorem dX6_init_28 : decode cX6_init 28 = .ok (.putfield 22, 3) := by decide +kernel
theorem dX6_init_31 : decode cX6_init 31 = .ok (.aload_n 0, 1) := by decide +kernel
theorem dX6_init_32 : decode cX6_init 32 = .ok (.iconst 0, 1) := by decide +kernel
theorem dX6_init_33 : decode cX6_init 33 = .ok (.putfield 25, 3) := by decide +kernel
theorem dX6_init_36 : decode cX6_init 36 = .ok (.aload_n 0, 1) := by decide +kernel
theorem dX6_init_37 : decode cX6_init 37 = .ok (.bipush 6, 2) := by decide +kernel
theorem dX6_init_39 : decode cX6_init 39 = .ok (.newarray .int, 2) := by decide +kernel
theorem dX6_init_41 : decode cX6_init 41 = .ok (.putfield 28, 3) := by decide +kernel
theorem dX6_init_44 : decode cX6_init 44 = .ok (.aload_n 0, 1) := by decide +kernel
theorem dX6_init_45 : decode cX6_init 45 = .ok (.bipush 6, 2) := by decide +kernel
theorem dX6_init_47 : decode cX6_init 47 = .ok (.newarray .int, 2) := by decide +kernel
theorem dX6_init_49 : decode cX6_init 49 = .ok (.putfield 31, 3) := by decide +kernel
theorem dX6_init_52 : decode cX6_init 52 = .ok (.aload_n 0, 1) := by decide +kernel
theorem dX6_init_53 : decode cX6_init 53 = .ok (.aload_n 1, 1) := by decide +kernel
theorem dX6_init_54 : decode cX6_init 54 = .ok (.putfield 34, 3) := by decide +kernel
theorem dX6_init_57 : decode cX6_init 57 = .ok (.return_, 1) := by decide +kernel
theorem dX6_begin_0 : decode cX6_begin 0 = .ok (.aload_n 0, 1) := by decide +kernel
theorem dX6_begin_1 : decode cX6_begin 1 = .ok (.aload_n 1, 1) := by decide +kernel
theorem dX6_begin_2 : decode cX6_begin 2 = .ok (.putfield 34, 3) := by decide +kernel
theorem dX6_begin_5 : decode cX6_begin 5 = .ok (.aload_n 0, 1) := by decide +kernel
theorem dX6_begin_6 : decode cX6_begin 6 = .ok (.iconst 0, 1) := by decide +kernel
theorem dX6_begin_7 : decode cX6_begin 7 = .ok (.putfield 9, 3) := by decide +kernel
theorem dX6_begin_10 : decode cX6_begin 10 = .ok (.aload_n 0, 1) := by decide +kernel
theorem dX6_begin_11 : decode cX6_begin 11 = .ok (.iconst 0, 1) := by decide +kernel
theorem dX6_begin_12 : decode cX6_begin 12 = .ok (.putfield 25, 3) := by decide +kernel
theorem dX6_begin_15 : decode cX6_begin 15 = .ok (.iconst 0, 1) := by decide +kernel
theorem dX6_begin_16 : decode cX6_begin 16 = .ok (.istore_n 2, 1) := by decide +kernel
theorem dX6_begin_17 : decode cX6_begin 17 = .ok (.iload_n 2, 1) := by decide +kernel
theorem dX6_begin_18 : decode cX6_begin 18 = .ok (.aload_n 0, 1) := by decide +kernel
theorem dX6_begin_19 : decode cX6_begin 19 = .ok (.getfield 34, 3) := by decide +kernel
theorem dX6_begin_22 : decode cX6_begin 22 = .ok (.getfield 38, 3) := by decide +kernel
theorem dX6_begin_25 : decode cX6_begin 25 = .ok (.if_icmp .ge 23, 3) := by decide +kernel
theorem dX6_begin_28 : decode cX6_begin 28 = .ok (.aload_n 0, 1) := by decide +kernel
theorem dX6_begin_29 : decode cX6_begin 29 = .ok (.iload_n 2, 1) := by decide +kernel
theorem dX6_begin_30 : decode cX6_begin 30 = .ok (.aload_n 0, 1) := by decide +kernel
theorem dX6_begin_31 : decode cX6_begin 31 = .ok (.getfield 34, 3) := by decide +kernel
theorem dX6_begin_34 : decode cX6_begin 34 = .ok (.getfield 43, 3) := by decide +kernel
theorem dX6_begin_37 : decode cX6_begin 37 = .ok (.iload_n 2, 1) := by decide +kernel
theorem dX6_begin_38 : decode cX6_begin 38 = .ok (.iaload, 1) := by decide +kernel
theorem dX6_begin_39 : decode cX6_begin 39 = .ok (.invokevirtual 46, 3) := by decide +kernel
theorem dX6_begin_42 : decode cX6_begin 42 = .ok (.iinc 2 1, 3) := by decide +kernel
theorem dX6_begin_45 : decode cX6_begin 45 = .ok (.goto (-28), 3) := by decide +kernel
theorem dX6_begin_48 : decode cX6_begin 48 = .ok (.iconst 0, 1) := by decide +kernel
theorem dX6_begin_49 : decode cX6_begin 49 = .ok (.istore_n 2, 1) := by decide +kernel
theorem dX6_begin_50 : decode cX6_begin 50 = .ok (.iload_n 2, 1) := by decide +kernel
theorem dX6_begin_51 : decode cX6_begin 51 = .ok (.aload_n 0, 1) := by decide +kernel
theorem dX6_begin_52 : decode cX6_begin 52 = .ok (.getfield 34, 3) := by decide +kernel
theorem dX6_begin_55 : decode cX6_begin 55 = .ok (.getfield 50, 3) := by decide +kernel
theorem dX6_begin_58 : decode cX6_begin 58 = .ok (.if_icmp .ge 16, 3) := by decide +kernel
theorem dX6_begin_61 : decode cX6_begin 61 = .ok (.aload_n 0, 1) := by decide +kernel
theorem dX6_begin_62 : decode cX6_begin 62 = .ok (.getfield 22, 3) := by decide +kernel
theorem dX6_begin_65 : decode cX6_begin 65 = .ok (.iload_n 2, 1) := by decide +kernel
theorem dX6_begin_66 : decode cX6_begin 66 = .ok (.iconst 0, 1) := by decide +kernel
theorem dX6_begin_67 : decode cX6_begin 67 = .ok (.iastore, 1) := by decide +kernel
theorem dX6_begin_68 : decode cX6_begin 68 = .ok (.iinc 2 1, 3) := by decide +kernel
theorem dX6_begin_71 : decode cX6_begin 71 = .ok (.goto (-21), 3) := by decide +kernel
theorem dX6_begin_74 : decode cX6_begin 74 = .ok (.return_, 1) := by decide +kernel
theorem dX6_countDone_0 : decode cX6_countDone 0 = .ok (.iconst 0, 1) := by decide +kernel
theorem dX6_countDone_1 : decode cX6_countDone 1 = .ok (.istore_n 1, 1) := by decide +kernel
theorem dX6_countDone_2 : decode cX6_countDone 2 = .ok (.iconst 0, 1) := by decide +kernel
theorem dX6_countDone_3 : decode cX6_countDone 3 = .ok (.istore_n 2, 1) := by decide +kernel
theorem dX6_countDone_4 : decode cX6_countDone 4 = .ok (.iload_n 2, 1) := by decide +kernel
theorem dX6_countDone_5 : decode cX6_countDone 5 = .ok (.aload_n 0, 1) := by decide +kernel
theorem dX6_countDone_6 : decode cX6_countDone 6 = .ok (.getfield 34, 3) := by decide +kernel
theorem dX6_countDone_9 : decode cX6_countDone 9 = .ok (.getfield 50, 3) := by decide +kernel
theorem dX6_countDone_12 : decode cX6_countDone 12 = .ok (.if_icmp .ge 18, 3) := by decide +kernel
theorem dX6_countDone_15 : decode cX6_countDone 15 = .ok (.iload_n 1, 1) := by decide +kernel
theorem dX6_countDone_16 : decode cX6_countDone 16 = .ok (.aload_n 0, 1) := by decide +kernel
theorem dX6_countDone_17 : decode cX6_countDone 17 = .ok (.getfield 22, 3) := by decide +kernel
theorem dX6_countDone_20 : decode cX6_countDone 20 = .ok (.iload_n 2, 1) := by decide +kernel
theorem dX6_countDone_21 : decode cX6_countDone 21 = .ok (.iaload, 1) := by decide +kernel
theorem dX6_countDone_22 : decode cX6_countDone 22 = .ok (.iadd, 1) := by decide +kernel
theorem dX6_countDone_23 : decode cX6_countDone 23 = .ok (.istore_n 1, 1) := by decide +kernel
theorem dX6_countDone_24 : decode cX6_countDone 24 = .ok (.iinc 2 1, 3) := by decide +kernel
theorem dX6_countDone_27 : decode cX6_countDone 27 = .ok (.goto (-23), 3) := by decide +kernel
theorem dX6_countDone_30 : decode cX6_countDone 30 = .ok (.iload_n 1, 1) := by decide +kernel
theorem dX6_countDone_31 : decode cX6_countDone 31 = .ok (.ireturn, 1) := by decide +kernel
theorem dX6_countEmpty_0 : decode cX6_countEmpty 0 = .ok (.iconst 0, 1) := by decide +kernel
theorem dX6_countEmpty_1 : decode cX6_countEmpty 1 = .ok (.istore_n 1, 1) := by decide +kernel
theorem dX6_countEmpty_2 : decode cX6_countEmpty 2 = .ok (.iconst 0, 1) := by decide +kernel
theorem dX6_countEmpty_3 : decode cX6_countEmpty 3 = .ok (.istore_n 2, 1) := by decide +kernel
theorem dX6_countEmpty_4 : decode cX6_countEmpty 4 = .ok (.iload_n 2, 1) := by decide +kernel
theorem dX6_countEmpty_5 : decode cX6_countEmpty 5 = .ok (.aload_n 0, 1) := by decide +kernel
theorem dX6_countEmpty_6 : decode cX6_countEmpty 6 = .ok (.getfield 34, 3) := by decide +kernel
theorem dX6_countEmpty_9 : decode cX6_countEmpty 9 = .ok (.getfield 38, 3) := by decide +kernel
theorem dX6_countEmpty_12 : decode cX6_countEmpty 12 = .ok (.if_icmp .ge 22, 3) := by decide +kernel
theorem dX6_countEmpty_15 : decode cX6_countEmpty 15 = .ok (.aload_n 0, 1) := by decide +kernel
theorem dX6_countEmpty_16 : decode cX6_countEmpty 16 = .ok (.getfield 15, 3) := by decide +kernel
theorem dX6_countEmpty_19 : decode cX6_countEmpty 19 = .ok (.iload_n 2, 1) := by decide +kernel
theorem dX6_countEmpty_20 : decode cX6_countEmpty 20 = .ok (.iaload, 1) := by decide +kernel
theorem dX6_countEmpty_21 : decode cX6_countEmpty 21 = .ok (.iconst (-1), 1) := by decide +kernel
theorem dX6_countEmpty_22 : decode cX6_countEmpty 22 = .ok (.if_icmp .ne 6, 3) := by decide +kernel
theorem dX6_countEmpty_25 : decode cX6_countEmpty 25 = .ok (.iinc 1 1, 3) := by decide +kernel
theorem dX6_countEmpty_28 : decode cX6_countEmpty 28 = .ok (.iinc 2 1, 3) := by decide +kernel
theorem dX6_countEmpty_31 : decode cX6_countEmpty 31 = .ok (.goto (-27), 3) := by decide +kernel
theorem dX6_countEmpty_34 : decode cX6_countEmpty 34 = .ok (.iload_n 1, 1) := by decide +kernel
theorem dX6_countEmpty_35 : decode cX6_countEmpty 35 = .ok (.ireturn, 1) := by decide +kernel
theorem dX6_put_0 : decode cX6_put 0 = .ok (.iload_n 1, 1) := by decide +kernel
theorem dX6_put_1 : decode cX6_put 1 = .ok (.ifCond .lt 22, 3) := by decide +kernel
theorem dX6_put_4 : decode cX6_put 4 = .ok (.iload_n 1, 1) := by decide +kernel
theorem dX6_put_5 : decode cX6_put 5 = .ok (.iconst 5, 1) := by decide +kernel
theorem dX6_put_6 : decode cX6_put 6 = .ok (.if_icmp .ge 17, 3) := by decide +kernel
theorem dX6_put_9 : decode cX6_put 9 = .ok (.aload_n 0, 1) := by decide +kernel
theorem dX6_put_10 : decode cX6_put 10 = .ok (.getfield 15, 3) := by decide +kernel
theorem dX6_put_13 : decode cX6_put 13 = .ok (.iload_n 1, 1) := by decide +kernel
theorem dX6_put_14 : decode cX6_put 14 = .ok (.iload_n 2, 1) := by decide +kernel
theorem dX6_put_15 : decode cX6_put 15 = .ok (.iastore, 1) := by decide +kernel
theorem dX6_put_16 : decode cX6_put 16 = .ok (.aload_n 0, 1) := by decide +kernel
theorem dX6_put_17 : decode cX6_put 17 = .ok (.getfield 19, 3) := by decide +kernel
theorem dX6_put_20 : decode cX6_put 20 = .ok (.iload_n 1, 1) := by decide +kernel
theorem dX6_put_21 : decode cX6_put 21 = .ok (.iconst 0, 1) := by decide +kernel
theorem dX6_put_22 : decode cX6_put 22 = .ok (.iastore, 1) := by decide +kernel
theorem dX6_put_23 : decode cX6_put 23 = .ok (.return_, 1) := by decide +kernel
theorem dX6_goOn_0 : decode cX6_goOn 0 = .ok (.iconst 0, 1) := by decide +kernel
theorem dX6_goOn_1 : decode cX6_goOn 1 = .ok (.istore_n 2, 1) := by decide +kernel
theorem dX6_goOn_2 : decode cX6_goOn 2 = .ok (.iload_n 2, 1) := by decide +kernel
theorem dX6_goOn_3 : decode cX6_goOn 3 = .ok (.aload_n 0, 1) := by decide +kernel
theorem dX6_goOn_4 : decode cX6_goOn 4 = .ok (.getfield 34, 3) := by decide +kernel
theorem dX6_goOn_7 : decode cX6_goOn 7 = .ok (.getfield 38, 3) := by decide +kernel
theorem dX6_goOn_10 : decode cX6_goOn 10 = .ok (.if_icmp .ge 54, 3) := by decide +kernel
theorem dX6_goOn_13 : decode cX6_goOn 13 = .ok (.aload_n 1, 1) := by decide +kernel
theorem dX6_goOn_14 : decode cX6_goOn 14 = .ok (.iload_n 2, 1) := by decide +kernel
theorem dX6_goOn_15 : decode cX6_goOn 15 = .ok (.aload_n 0, 1) := by decide +kernel
theorem dX6_goOn_16 : decode cX6_goOn 16 = .ok (.getfield 15, 3) := by decide +kernel
theorem dX6_goOn_19 : decode cX6_goOn 19 = .ok (.iload_n 2, 1) := by decide +kernel
theorem dX6_goOn_20 : decode cX6_goOn 20 = .ok (.iaload, 1) := by decide +kernel
theorem dX6_goOn_21 : decode cX6_goOn 21 = .ok (.aload_n 0, 1) := by decide +kernel
theorem dX6_goOn_22 : decode cX6_goOn 22 = .ok (.getfield 19, 3) := by decide +kernel
theorem dX6_goOn_25 : decode cX6_goOn 25 = .ok (.iload_n 2, 1) := by decide +kernel
theorem dX6_goOn_26 : decode cX6_goOn 26 = .ok (.iaload, 1) := by decide +kernel
theorem dX6_goOn_27 : decode cX6_goOn 27 = .ok (.aload_n 0, 1) := by decide +kernel
theorem dX6_goOn_28 : decode cX6_goOn 28 = .ok (.getfield 9, 3) := by decide +kernel
theorem dX6_goOn_31 : decode cX6_goOn 31 = .ok (.invokevirtual 53, 3) := by decide +kernel
theorem dX6_goOn_34 : decode cX6_goOn 34 = .ok (.aload_n 1, 1) := by decide +kernel
theorem dX6_goOn_35 : decode cX6_goOn 35 = .ok (.invokevirtual 59, 3) := by decide +kernel
theorem dX6_goOn_38 : decode cX6_goOn 38 = .ok (.aload_n 0, 1) := by decide +kernel
theorem dX6_goOn_39 : decode cX6_goOn 39 = .ok (.getfield 15, 3) := by decide +kernel
theorem dX6_goOn_42 : decode cX6_goOn 42 = .ok (.iload_n 2, 1) := by decide +kernel
theorem dX6_goOn_43 : decode cX6_goOn 43 = .ok (.aload_n 1, 1) := by decide +kernel
theorem dX6_goOn_44 : decode cX6_goOn 44 = .ok (.getfield 62, 3) := by decide +kernel
theorem dX6_goOn_47 : decode cX6_goOn 47 = .ok (.iastore, 1) := by decide +kernel
theorem dX6_goOn_48 : decode cX6_goOn 48 = .ok (.aload_n 0, 1) := by decide +kernel
theorem dX6_goOn_49 : decode cX6_goOn 49 = .ok (.getfield 19, 3) := by decide +kernel
theorem dX6_goOn_52 : decode cX6_goOn 52 = .ok (.iload_n 2, 1) := by decide +kernel
theorem dX6_goOn_53 : decode cX6_goOn 53 = .ok (.aload_n 1, 1) := by decide +kernel
theorem dX6_goOn_54 : decode cX6_goOn 54 = .ok (.getfield 65, 3) := by decide +kernel
theorem dX6_goOn_57 : decode cX6_goOn 57 = .ok (.iastore, 1) := by decide +kernel
theorem dX6_goOn_58 : decode cX6_goOn 58 = .ok (.iinc 2 1, 3) := by decide +kernel
theorem dX6_goOn_61 : decode cX6_goOn 61 = .ok (.goto (-59), 3) := by decide +kernel
theorem dX6_goOn_64 : decode cX6_goOn 64 = .ok (.aload_n 0, 1) := by decide +kernel
theorem dX6_goOn_65 : decode cX6_goOn 65 = .ok (.sipush 9999, 3) := by decide +kernel
theorem dX6_goOn_68 : decode cX6_goOn 68 = .ok (.aload_n 0, 1) := by decide +kernel
theorem dX6_goOn_69 : decode cX6_goOn 69 = .ok (.getfield 9, 3) := by decide +kernel
theorem dX6_goOn_72 : decode cX6_goOn 72 = .ok (.iconst 1, 1) := by decide +kernel
theorem dX6_goOn_73 : decode cX6_goOn 73 = .ok (.iadd, 1) := by decide +kernel
theorem dX6_goOn_74 : decode cX6_goOn 74 = .ok (.invokestatic 67, 3) := by decide +kernel
theorem dX6_goOn_77 : decode cX6_goOn 77 = .ok (.putfield 9, 3) := by decide +kernel
theorem dX6_goOn_80 : decode cX6_goOn 80 = .ok (.return_, 1) := by decide +kernel
theorem dX6_doWhatIsDue_0 : decode cX6_doWhatIsDue 0 = .ok (.iconst 0, 1) := by decide +kernel
theorem dX6_doWhatIsDue_1 : decode cX6_doWhatIsDue 1 = .ok (.istore_n 2, 1) := by decide +kernel
theorem dX6_doWhatIsDue_2 : decode cX6_doWhatIsDue 2 = .ok (.iconst 0, 1) := by decide +kernel
theorem dX6_doWhatIsDue_3 : decode cX6_doWhatIsDue 3 = .ok (.istore_n 3, 1) := by decide +kernel
theorem dX6_doWhatIsDue_4 : decode cX6_doWhatIsDue 4 = .ok (.iload_n 3, 1) := by decide +kernel
theorem dX6_doWhatIsDue_5 : decode cX6_doWhatIsDue 5 = .ok (.aload_n 0, 1) := by decide +kernel
theorem dX6_doWhatIsDue_6 : decode cX6_doWhatIsDue 6 = .ok (.getfield 34, 3) := by decide +kernel
theorem dX6_doWhatIsDue_9 : decode cX6_doWhatIsDue 9 = .ok (.getfield 50, 3) := by decide +kernel
theorem dX6_doWhatIsDue_12 : decode cX6_doWhatIsDue 12 = .ok (.if_icmp .ge 42, 3) := by decide +kernel
theorem dX6_doWhatIsDue_15 : decode cX6_doWhatIsDue 15 = .ok (.aload_n 0, 1) := by decide +kernel
theorem dX6_doWhatIsDue_16 : decode cX6_doWhatIsDue 16 = .ok (.getfield 22, 3) := by decide +kernel
theorem dX6_doWhatIsDue_19 : decode cX6_doWhatIsDue 19 = .ok (.iload_n 3, 1) := by decide +kernel
theorem dX6_doWhatIsDue_20 : decode cX6_doWhatIsDue 20 = .ok (.iaload, 1) := by decide +kernel
theorem dX6_doWhatIsDue_21 : decode cX6_doWhatIsDue 21 = .ok (.ifCond .ne 27, 3) := by decide +kernel
theorem dX6_doWhatIsDue_24 : decode cX6_doWhatIsDue 24 = .ok (.aload_n 0, 1) := by decide +kernel
theorem dX6_doWhatIsDue_25 : decode cX6_doWhatIsDue 25 = .ok (.iload_n 3, 1) := by decide +kernel
theorem dX6_doWhatIsDue_26 : decode cX6_doWhatIsDue 26 = .ok (.aload_n 1, 1) := by decide +kernel
theorem dX6_doWhatIsDue_27 : decode cX6_doWhatIsDue 27 = .ok (.invokevirtual 73, 3) := by decide +kernel
theorem dX6_doWhatIsDue_30 : decode cX6_doWhatIsDue 30 = .ok (.ifCond .eq 18, 3) := by decide +kernel
theorem dX6_doWhatIsDue_33 : decode cX6_doWhatIsDue 33 = .ok (.aload_n 0, 1) := by decide +kernel
theorem dX6_doWhatIsDue_34 : decode cX6_doWhatIsDue 34 = .ok (.getfield 22, 3) := by decide +kernel
theorem dX6_doWhatIsDue_37 : decode cX6_doWhatIsDue 37 = .ok (.iload_n 3, 1) := by decide +kernel
theorem dX6_doWhatIsDue_38 : decode cX6_doWhatIsDue 38 = .ok (.iconst 1, 1) := by decide +kernel
theorem dX6_doWhatIsDue_39 : decode cX6_doWhatIsDue 39 = .ok (.iastore, 1) := by decide +kernel
theorem dX6_doWhatIsDue_40 : decode cX6_doWhatIsDue 40 = .ok (.aload_n 0, 1) := by decide +kernel
theorem dX6_doWhatIsDue_41 : decode cX6_doWhatIsDue 41 = .ok (.iload_n 3, 1) := by decide +kernel
theorem dX6_doWhatIsDue_42 : decode cX6_doWhatIsDue 42 = .ok (.invokevirtual 77, 3) := by decide +kernel
theorem dX6_doWhatIsDue_45 : decode cX6_doWhatIsDue 45 = .ok (.iinc 2 1, 3) := by decide +kernel
theorem dX6_doWhatIsDue_48 : decode cX6_doWhatIsDue 48 = .ok (.iinc 3 1, 3) := by decide +kernel
theorem dX6_doWhatIsDue_51 : decode cX6_doWhatIsDue 51 = .ok (.goto (-47), 3) := by decide +kernel
theorem dX6_doWhatIsDue_54 : decode cX6_doWhatIsDue 54 = .ok (.iload_n 2, 1) := by decide +kernel
theorem dX6_doWhatIsDue_55 : decode cX6_doWhatIsDue 55 = .ok (.ireturn, 1) := by decide +kernel
theorem dX6_isDue_0 : decode cX6_isDue 0 = .ok (.aload_n 0, 1) := by decide +kernel
theorem dX6_isDue_1 : decode cX6_isDue 1 = .ok (.getfield 34, 3) := by decide +kernel
theorem dX6_isDue_4 : decode cX6_isDue 4 = .ok (.getfield 81, 3) := by decide +kernel
theorem dX6_isDue_7 : decode cX6_isDue 7 = .ok (.iload_n 1, 1) := by decide +kernel
theorem dX6_isDue_8 : decode cX6_isDue 8 = .ok (.iaload, 1) := by decide +kernel
theorem dX6_isDue_9 : decode cX6_isDue 9 = .ok (.istore_n 3, 1) := by decide +kernel
theorem dX6_isDue_10 : decode cX6_isDue 10 = .ok (.aload_n 2, 1) := by decide +kernel
theorem dX6_isDue_11 : decode cX6_isDue 11 = .ok (.iload_n 3, 1) := by decide +kernel
theorem dX6_isDue_12 : decode cX6_isDue 12 = .ok (.aload_n 0, 1) := by decide +kernel
theorem dX6_isDue_13 : decode cX6_isDue 13 = .ok (.getfield 15, 3) := by decide +kernel
theorem dX6_isDue_16 : decode cX6_isDue 16 = .ok (.iload_n 3, 1) := by decide +kernel
theorem dX6_isDue_17 : decode cX6_isDue 17 = .ok (.iaload, 1) := by decide +kernel
theorem dX6_isDue_18 : decode cX6_isDue 18 = .ok (.aload_n 0, 1) := by decide +kernel
theorem dX6_isDue_19 : decode cX6_isDue 19 = .ok (.getfield 19, 3) := by decide +kernel
theorem dX6_isDue_22 : decode cX6_isDue 22 = .ok (.iload_n 3, 1) := by decide +kernel
theorem dX6_isDue_23 : decode cX6_isDue 23 = .ok (.iaload, 1) := by decide +kernel
theorem dX6_isDue_24 : decode cX6_isDue 24 = .ok (.aload_n 0, 1) := by decide +kernel
theorem dX6_isDue_25 : decode cX6_isDue 25 = .ok (.getfield 9, 3) := by decide +kernel
theorem dX6_isDue_28 : decode cX6_isDue 28 = .ok (.invokevirtual 53, 3) := by decide +kernel
theorem dX6_isDue_31 : decode cX6_isDue 31 = .ok (.aload_n 2, 1) := by decide +kernel
theorem dX6_isDue_32 : decode cX6_isDue 32 = .ok (.invokevirtual 84, 3) := by decide +kernel
theorem dX6_isDue_35 : decode cX6_isDue 35 = .ok (.aload_n 0, 1) := by decide +kernel
theorem dX6_isDue_36 : decode cX6_isDue 36 = .ok (.getfield 34, 3) := by decide +kernel
theorem dX6_isDue_39 : decode cX6_isDue 39 = .ok (.getfield 88, 3) := by decide +kernel
theorem dX6_isDue_42 : decode cX6_isDue 42 = .ok (.iload_n 1, 1) := by decide +kernel
theorem dX6_isDue_43 : decode cX6_isDue 43 = .ok (.iaload, 1) := by decide +kernel
theorem dX6_isDue_44 : decode cX6_isDue 44 = .ok (.if_icmp .ne 7, 3) := by decide +kernel
theorem dX6_isDue_47 : decode cX6_isDue 47 = .ok (.iconst 1, 1) := by decide +kernel
theorem dX6_isDue_48 : decode cX6_isDue 48 = .ok (.goto 4, 3) := by decide +kernel
theorem dX6_isDue_51 : decode cX6_isDue 51 = .ok (.iconst 0, 1) := by decide +kernel
theorem dX6_isDue_52 : decode cX6_isDue 52 = .ok (.ireturn, 1) := by decide +kernel
theorem dX6_keep_0 : decode cX6_keep 0 = .ok (.aload_n 0, 1) := by decide +kernel
theorem dX6_keep_1 : decode cX6_keep 1 = .ok (.getfield 25, 3) := by decide +kernel
theorem dX6_keep_4 : decode cX6_keep 4 = .ok (.bipush 6, 2) := by decide +kernel
theorem dX6_keep_6 : decode cX6_keep 6 = .ok (.if_icmp .ge 36, 3) := by decide +kernel
theorem dX6_keep_9 : decode cX6_keep 9 = .ok (.aload_n 0, 1) := by decide +kernel
theorem dX6_keep_10 : decode cX6_keep 10 = .ok (.getfield 28, 3) := by decide +kernel
theorem dX6_keep_13 : decode cX6_keep 13 = .ok (.aload_n 0, 1) := by decide +kernel
theorem dX6_keep_14 : decode cX6_keep 14 = .ok (.getfield 25, 3) := by decide +kernel
theorem dX6_keep_17 : decode cX6_keep 17 = .ok (.aload_n 0, 1) := by decide +kernel
theorem dX6_keep_18 : decode cX6_keep 18 = .ok (.getfield 9, 3) := by decide +kernel
theorem dX6_keep_21 : decode cX6_keep 21 = .ok (.iastore, 1) := by decide +kernel
theorem dX6_keep_22 : decode cX6_keep 22 = .ok (.aload_n 0, 1) := by decide +kernel
theorem dX6_keep_23 : decode cX6_keep 23 = .ok (.getfield 31, 3) := by decide +kernel
theorem dX6_keep_26 : decode cX6_keep 26 = .ok (.aload_n 0, 1) := by decide +kernel
theorem dX6_keep_27 : decode cX6_keep 27 = .ok (.getfield 25, 3) := by decide +kernel
theorem dX6_keep_30 : decode cX6_keep 30 = .ok (.iload_n 1, 1) := by decide +kernel
theorem dX6_keep_31 : decode cX6_keep 31 = .ok (.iastore, 1) := by decide +kernel
theorem dX6_keep_32 : decode cX6_keep 32 = .ok (.aload_n 0, 1) := by decide +kernel
theorem dX6_keep_33 : decode cX6_keep 33 = .ok (.dup, 1) := by decide +kernel
theorem dX6_keep_34 : decode cX6_keep 34 = .ok (.getfield 25, 3) := by decide +kernel
theorem dX6_keep_37 : decode cX6_keep 37 = .ok (.iconst 1, 1) := by decide +kernel
theorem dX6_keep_38 : decode cX6_keep 38 = .ok (.iadd, 1) := by decide +kernel
theorem dX6_keep_39 : decode cX6_keep 39 = .ok (.putfield 25, 3) := by decide +kernel
theorem dX6_keep_42 : decode cX6_keep 42 = .ok (.return_, 1) := by decide +kernel
theorem dX6_save_0 : decode cX6_save 0 = .ok (.aload_n 1, 1) := by decide +kernel
theorem dX6_save_1 : decode cX6_save 1 = .ok (.arraylength, 1) := by decide +kernel
theorem dX6_save_2 : decode cX6_save 2 = .ok (.bipush 18, 2) := by decide +kernel
theorem dX6_save_4 : decode cX6_save 4 = .ok (.if_icmp .ge 4, 3) := by decide +kernel
theorem dX6_save_7 : decode cX6_save 7 = .ok (.return_, 1) := by decide +kernel
theorem dX6_save_8 : decode cX6_save 8 = .ok (.aload_n 1, 1) := by decide +kernel
theorem dX6_save_9 : decode cX6_save 9 = .ok (.iconst 0, 1) := by decide +kernel
theorem dX6_save_10 : decode cX6_save 10 = .ok (.aload_n 0, 1) := by decide +kernel
theorem dX6_save_11 : decode cX6_save 11 = .ok (.getfield 9, 3) := by decide +kernel
theorem dX6_save_14 : decode cX6_save 14 = .ok (.iastore, 1) := by decide +kernel
theorem dX6_save_15 : decode cX6_save 15 = .ok (.aload_n 1, 1) := by decide +kernel
theorem dX6_save_16 : decode cX6_save 16 = .ok (.iconst 1, 1) := by decide +kernel
theorem dX6_save_17 : decode cX6_save 17 = .ok (.aload_n 0, 1) := by decide +kernel
theorem dX6_save_18 : decode cX6_save 18 = .ok (.getfield 25, 3) := by decide +kernel
theorem dX6_save_21 : decode cX6_save 21 = .ok (.iastore, 1) := by decide +kernel
theorem dX6_save_22 : decode cX6_save 22 = .ok (.aload_n 0, 1) := by decide +kernel
theorem dX6_save_23 : decode cX6_save 23 = .ok (.getfield 15, 3) := by decide +kernel
theorem dX6_save_26 : decode cX6_save 26 = .ok (.iconst 0, 1) := by decide +kernel
theorem dX6_save_27 : decode cX6_save 27 = .ok (.aload_n 1, 1) := by decide +kernel
theorem dX6_save_28 : decode cX6_save 28 = .ok (.iconst 2, 1) := by decide +kernel
theorem dX6_save_29 : decode cX6_save 29 = .ok (.iconst 5, 1) := by decide +kernel
theorem dX6_save_30 : decode cX6_save 30 = .ok (.invokestatic 91, 3) := by decide +kernel
theorem dX6_save_33 : decode cX6_save 33 = .ok (.aload_n 0, 1) := by decide +kernel
theorem dX6_save_34 : decode cX6_save 34 = .ok (.getfield 19, 3) := by decide +kernel
theorem dX6_save_37 : decode cX6_save 37 = .ok (.iconst 0, 1) := by decide +kernel
theorem dX6_save_38 : decode cX6_save 38 = .ok (.aload_n 1, 1) := by decide +kernel
theorem dX6_save_39 : decode cX6_save 39 = .ok (.bipush 7, 2) := by decide +kernel
theorem dX6_save_41 : decode cX6_save 41 = .ok (.iconst 5, 1) := by decide +kernel
theorem dX6_save_42 : decode cX6_save 42 = .ok (.invokestatic 91, 3) := by decide +kernel
theorem dX6_save_45 : decode cX6_save 45 = .ok (.aload_n 0, 1) := by decide +kernel
theorem dX6_save_46 : decode cX6_save 46 = .ok (.getfield 22, 3) := by decide +kernel
theorem dX6_save_49 : decode cX6_save 49 = .ok (.iconst 0, 1) := by decide +kernel
theorem dX6_save_50 : decode cX6_save 50 = .ok (.aload_n 1, 1) := by decide +kernel
theorem dX6_save_51 : decode cX6_save 51 = .ok (.bipush 12, 2) := by decide +kernel
theorem dX6_save_53 : decode cX6_save 53 = .ok (.bipush 6, 2) := by decide +kernel
theorem dX6_save_55 : decode cX6_save 55 = .ok (.invokestatic 91, 3) := by decide +kernel
theorem dX6_save_58 : decode cX6_save 58 = .ok (.return_, 1) := by decide +kernel
theorem dX6_bringBack_0 : decode cX6_bringBack 0 = .ok (.aload_n 1, 1) := by decide +kernel
theorem dX6_bringBack_1 : decode cX6_bringBack 1 = .ok (.arraylength, 1) := by decide +kernel
theorem dX6_bringBack_2 : decode cX6_bringBack 2 = .ok (.bipush 18, 2) := by decide +kernel
theorem dX6_bringBack_4 : decode cX6_bringBack 4 = .ok (.if_icmp .ge 4, 3) := by decide +kernel
theorem dX6_bringBack_7 : decode cX6_bringBack 7 = .ok (.return_, 1) := by decide +kernel
theorem dX6_bringBack_8 : decode cX6_bringBack 8 = .ok (.aload_n 0, 1) := by decide +kernel
theorem dX6_bringBack_9 : decode cX6_bringBack 9 = .ok (.aload_n 1, 1) := by decide +kernel
theorem dX6_bringBack_10 : decode cX6_bringBack 10 = .ok (.iconst 0, 1) := by decide +kernel
theorem dX6_bringBack_11 : decode cX6_bringBack 11 = .ok (.iaload, 1) := by decide +kernel
theorem dX6_bringBack_12 : decode cX6_bringBack 12 = .ok (.putfield 9, 3) := by decide +kernel
theorem dX6_bringBack_15 : decode cX6_bringBack 15 = .ok (.aload_n 0, 1) := by decide +kernel
theorem dX6_bringBack_16 : decode cX6_bringBack 16 = .ok (.aload_n 1, 1) := by decide +kernel
theorem dX6_bringBack_17 : decode cX6_bringBack 17 = .ok (.iconst 1, 1) := by decide +kernel
theorem dX6_bringBack_18 : decode cX6_bringBack 18 = .ok (.iaload, 1) := by decide +kernel
theorem dX6_bringBack_19 : decode cX6_bringBack 19 = .ok (.putfield 25, 3) := by decide +kernel
theorem dX6_bringBack_22 : decode cX6_bringBack 22 = .ok (.aload_n 1, 1) := by decide +kernel
theorem dX6_bringBack_23 : decode cX6_bringBack 23 = .ok (.iconst 2, 1) := by decide +kernel
theorem dX6_bringBack_24 : decode cX6_bringBack 24 = .ok (.aload_n 0, 1) := by decide +kernel
theorem dX6_bringBack_25 : decode cX6_bringBack 25 = .ok (.getfield 15, 3) := by decide +kernel
theorem dX6_bringBack_28 : decode cX6_bringBack 28 = .ok (.iconst 0, 1) := by decide +kernel
theorem dX6_bringBack_29 : decode cX6_bringBack 29 = .ok (.iconst 5, 1) := by decide +kernel
theorem dX6_bringBack_30 : decode cX6_bringBack 30 = .ok (.invokestatic 91, 3) := by decide +kernel
theorem dX6_bringBack_33 : decode cX6_bringBack 33 = .ok (.aload_n 1, 1) := by decide +kernel
theorem dX6_bringBack_34 : decode cX6_bringBack 34 = .ok (.bipush 7, 2) := by decide +kernel
theorem dX6_bringBack_36 : decode cX6_bringBack 36 = .ok (.aload_n 0, 1) := by decide +kernel
theorem dX6_bringBack_37 : decode cX6_bringBack 37 = .ok (.getfield 19, 3) := by decide +kernel
theorem dX6_bringBack_40 : decode cX6_bringBack 40 = .ok (.iconst 0, 1) := by decide +kernel
theorem dX6_bringBack_41 : decode cX6_bringBack 41 = .ok (.iconst 5, 1) := by decide +kernel
theorem dX6_bringBack_42 : decode cX6_bringBack 42 = .ok (.invokestatic 91, 3) := by decide +kernel
theorem dX6_bringBack_45 : decode cX6_bringBack 45 = .ok (.aload_n 1, 1) := by decide +kernel
theorem dX6_bringBack_46 : decode cX6_bringBack 46 = .ok (.bipush 12, 2) := by decide +kernel
theorem dX6_bringBack_48 : decode cX6_bringBack 48 = .ok (.aload_n 0, 1) := by decide +kernel
theorem dX6_bringBack_49 : decode cX6_bringBack 49 = .ok (.getfield 22, 3) := by decide +kernel
theorem dX6_bringBack_52 : decode cX6_bringBack 52 = .ok (.iconst 0, 1) := by decide +kernel
theorem dX6_bringBack_53 : decode cX6_bringBack 53 = .ok (.bipush 6, 2) := by decide +kernel
theorem dX6_bringBack_55 : decode cX6_bringBack 55 = .ok (.invokestatic 91, 3) := by decide +kernel
theorem dX6_bringBack_58 : decode cX6_bringBack 58 = .ok (.return_, 1) := by decide +kernel
theorem dX6_imageSize_0 : decode cX6_imageSize 0 = .ok (.iconst 2, 1) := by decide +kernel
theorem dX6_imageSize_1 : decode cX6_imageSize 1 = .ok (.iconst 3, 1) := by decide +kernel
theorem dX6_imageSize_2 : decode cX6_imageSize 2 = .ok (.aload_n 0, 1) := by decide +kernel
theorem dX6_imageSize_3 : decode cX6_imageSize 3 = .ok (.getfield 34, 3) := by decide +kernel
theorem dX6_imageSize_6 : decode cX6_imageSize 6 = .ok (.getfield 38, 3) := by decide +kernel
theorem dX6_imageSize_9 : decode cX6_imageSize 9 = .ok (.imul, 1) := by decide +kernel
theorem dX6_imageSize_10 : decode cX6_imageSize 10 = .ok (.iadd, 1) := by decide +kernel
theorem dX6_imageSize_11 : decode cX6_imageSize 11 = .ok (.aload_n 0, 1) := by decide +kernel
theorem dX6_imageSize_12 : decode cX6_imageSize 12 = .ok (.getfield 34, 3) := by decide +kernel
theorem dX6_imageSize_15 : decode cX6_imageSize 15 = .ok (.getfield 50, 3) := by decide +kernel
theorem dX6_imageSize_18 : decode cX6_imageSize 18 = .ok (.iadd, 1) := by decide +kernel
theorem dX6_imageSize_19 : decode cX6_imageSize 19 = .ok (.iconst 1, 1) := by decide +kernel
theorem dX6_imageSize_20 : decode cX6_imageSize 20 = .ok (.iadd, 1) := by decide +kernel
theorem dX6_imageSize_21 : decode cX6_imageSize 21 = .ok (.ireturn, 1) := by decide +kernel
theorem dX6_checkOf_0 : decode cX6_checkOf 0 = .ok (.sipush 227, 3) := by decide +kernel
theorem dX6_checkOf_3 : decode cX6_checkOf 3 = .ok (.istore_n 2, 1) := by decide +kernel
theorem dX6_checkOf_4 : decode cX6_checkOf 4 = .ok (.iconst 0, 1) := by decide +kernel
theorem dX6_checkOf_5 : decode cX6_checkOf 5 = .ok (.istore_n 3, 1) := by decide +kernel
theorem dX6_checkOf_6 : decode cX6_checkOf 6 = .ok (.iload_n 3, 1) := by decide +kernel
theorem dX6_checkOf_7 : decode cX6_checkOf 7 = .ok (.iload_n 1, 1) := by decide +kernel
theorem dX6_checkOf_8 : decode cX6_checkOf 8 = .ok (.if_icmp .ge 27, 3) := by decide +kernel
theorem dX6_checkOf_11 : decode cX6_checkOf 11 = .ok (.iload_n 3, 1) := by decide +kernel
theorem dX6_checkOf_12 : decode cX6_checkOf 12 = .ok (.aload_n 0, 1) := by decide +kernel
theorem dX6_checkOf_13 : decode cX6_checkOf 13 = .ok (.arraylength, 1) := by decide +kernel
theorem dX6_checkOf_14 : decode cX6_checkOf 14 = .ok (.if_icmp .ge 21, 3) := by decide +kernel
theorem dX6_checkOf_17 : decode cX6_checkOf 17 = .ok (.iconst 5, 1) := by decide +kernel
theorem dX6_checkOf_18 : decode cX6_checkOf 18 = .ok (.iload_n 2, 1) := by decide +kernel
theorem dX6_checkOf_19 : decode cX6_checkOf 19 = .ok (.imul, 1) := by decide +kernel
theorem dX6_checkOf_20 : decode cX6_checkOf 20 = .ok (.aload_n 0, 1) := by decide +kernel
theorem dX6_checkOf_21 : decode cX6_checkOf 21 = .ok (.iload_n 3, 1) := by decide +kernel
theorem dX6_checkOf_22 : decode cX6_checkOf 22 = .ok (.iaload, 1) := by decide +kernel
theorem dX6_checkOf_23 : decode cX6_checkOf 23 = .ok (.iadd, 1) := by decide +kernel
theorem dX6_checkOf_24 : decode cX6_checkOf 24 = .ok (.sipush 251, 3) := by decide +kernel
theorem dX6_checkOf_27 : decode cX6_checkOf 27 = .ok (.irem, 1) := by decide +kernel
theorem dX6_checkOf_28 : decode cX6_checkOf 28 = .ok (.istore_n 2, 1) := by decide +kernel
theorem dX6_checkOf_29 : decode cX6_checkOf 29 = .ok (.iinc 3 1, 3) := by decide +kernel
theorem dX6_checkOf_32 : decode cX6_checkOf 32 = .ok (.goto (-26), 3) := by decide +kernel
theorem dX6_checkOf_35 : decode cX6_checkOf 35 = .ok (.iload_n 2, 1) := by decide +kernel
theorem dX6_checkOf_36 : decode cX6_checkOf 36 = .ok (.ireturn, 1) := by decide +kernel
theorem dX6_writeImage_0 : decode cX6_writeImage 0 = .ok (.aload_n 0, 1) := by decide +kernel
theorem dX6_writeImage_1 : decode cX6_writeImage 1 = .ok (.invokevirtual 97, 3) := by decide +kernel
theorem dX6_writeImage_4 : decode cX6_writeImage 4 = .ok (.istore_n 2, 1) := by decide +kernel
theorem dX6_writeImage_5 : decode cX6_writeImage 5 = .ok (.aload_n 1, 1) := by decide +kernel
theorem dX6_writeImage_6 : decode cX6_writeImage 6 = .ok (.arraylength, 1) := by decide +kernel
theorem dX6_writeImage_7 : decode cX6_writeImage 7 = .ok (.iload_n 2, 1) := by decide +kernel
theorem dX6_writeImage_8 : decode cX6_writeImage 8 = .ok (.if_icmp .ge 5, 3) := by decide +kernel
theorem dX6_writeImage_11 : decode cX6_writeImage 11 = .ok (.iconst 0, 1) := by decide +kernel
theorem dX6_writeImage_12 : decode cX6_writeImage 12 = .ok (.ireturn, 1) := by decide +kernel
theorem dX6_writeImage_13 : decode cX6_writeImage 13 = .ok (.aload_n 1, 1) := by decide +kernel
theorem dX6_writeImage_14 : decode cX6_writeImage 14 = .ok (.iconst 0, 1) := by decide +kernel
theorem dX6_writeImage_15 : decode cX6_writeImage 15 = .ok (.aload_n 0, 1) := by decide +kernel
theorem dX6_writeImage_16 : decode cX6_writeImage 16 = .ok (.getfield 9, 3) := by decide +kernel
theorem dX6_writeImage_19 : decode cX6_writeImage 19 = .ok (.bipush 8, 2) := by decide +kernel
theorem dX6_writeImage_21 : decode cX6_writeImage 21 = .ok (.ishr, 1) := by decide +kernel
theorem dX6_writeImage_22 : decode cX6_writeImage 22 = .ok (.iastore, 1) := by decide +kernel
theorem dX6_writeImage_23 : decode cX6_writeImage 23 = .ok (.aload_n 1, 1) := by decide +kernel
theorem dX6_writeImage_24 : decode cX6_writeImage 24 = .ok (.iconst 1, 1) := by decide +kernel
theorem dX6_writeImage_25 : decode cX6_writeImage 25 = .ok (.aload_n 0, 1) := by decide +kernel
theorem dX6_writeImage_26 : decode cX6_writeImage 26 = .ok (.getfield 9, 3) := by decide +kernel
theorem dX6_writeImage_29 : decode cX6_writeImage 29 = .ok (.sipush 255, 3) := by decide +kernel
theorem dX6_writeImage_32 : decode cX6_writeImage 32 = .ok (.iand, 1) := by decide +kernel
theorem dX6_writeImage_33 : decode cX6_writeImage 33 = .ok (.iastore, 1) := by decide +kernel
theorem dX6_writeImage_34 : decode cX6_writeImage 34 = .ok (.iconst 0, 1) := by decide +kernel
theorem dX6_writeImage_35 : decode cX6_writeImage 35 = .ok (.istore_n 3, 1) := by decide +kernel
theorem dX6_writeImage_36 : decode cX6_writeImage 36 = .ok (.iload_n 3, 1) := by decide +kernel
theorem dX6_writeImage_37 : decode cX6_writeImage 37 = .ok (.aload_n 0, 1) := by decide +kernel
theorem dX6_writeImage_38 : decode cX6_writeImage 38 = .ok (.getfield 34, 3) := by decide +kernel
theorem dX6_writeImage_41 : decode cX6_writeImage 41 = .ok (.getfield 38, 3) := by decide +kernel
theorem dX6_writeImage_44 : decode cX6_writeImage 44 = .ok (.if_icmp .ge 73, 3) := by decide +kernel
theorem dX6_writeImage_47 : decode cX6_writeImage 47 = .ok (.iconst 2, 1) := by decide +kernel
theorem dX6_writeImage_48 : decode cX6_writeImage 48 = .ok (.iconst 3, 1) := by decide +kernel
theorem dX6_writeImage_49 : decode cX6_writeImage 49 = .ok (.iload_n 3, 1) := by decide +kernel
theorem dX6_writeImage_50 : decode cX6_writeImage 50 = .ok (.imul, 1) := by decide +kernel
theorem dX6_writeImage_51 : decode cX6_writeImage 51 = .ok (.iadd, 1) := by decide +kernel
theorem dX6_writeImage_52 : decode cX6_writeImage 52 = .ok (.istore 4, 2) := by decide +kernel
theorem dX6_writeImage_54 : decode cX6_writeImage 54 = .ok (.aload_n 1, 1) := by decide +kernel
theorem dX6_writeImage_55 : decode cX6_writeImage 55 = .ok (.iload 4, 2) := by decide +kernel
theorem dX6_writeImage_57 : decode cX6_writeImage 57 = .ok (.aload_n 0, 1) := by decide +kernel
theorem dX6_writeImage_58 : decode cX6_writeImage 58 = .ok (.getfield 15, 3) := by decide +kernel
theorem dX6_writeImage_61 : decode cX6_writeImage 61 = .ok (.iload_n 3, 1) := by decide +kernel
theorem dX6_writeImage_62 : decode cX6_writeImage 62 = .ok (.iaload, 1) := by decide +kernel
theorem dX6_writeImage_63 : decode cX6_writeImage 63 = .ok (.iconst (-1), 1) := by decide +kernel
theorem dX6_writeImage_64 : decode cX6_writeImage 64 = .ok (.if_icmp .ne 9, 3) := by decide +kernel
theorem dX6_writeImage_67 : decode cX6_writeImage 67 = .ok (.sipush 255, 3) := by decide +kernel
theorem dX6_writeImage_70 : decode cX6_writeImage 70 = .ok (.goto 9, 3) := by decide +kernel
theorem dX6_writeImage_73 : decode cX6_writeImage 73 = .ok (.aload_n 0, 1) := by decide +kernel
theorem dX6_writeImage_74 : decode cX6_writeImage 74 = .ok (.getfield 15, 3) := by decide +kernel
theorem dX6_writeImage_77 : decode cX6_writeImage 77 = .ok (.iload_n 3, 1) := by decide +kernel
theorem dX6_writeImage_78 : decode cX6_writeImage 78 = .ok (.iaload, 1) := by decide +kernel
theorem dX6_writeImage_79 : decode cX6_writeImage 79 = .ok (.iastore, 1) := by decide +kernel
theorem dX6_writeImage_80 : decode cX6_writeImage 80 = .ok (.aload_n 1, 1) := by decide +kernel
theorem dX6_writeImage_81 : decode cX6_writeImage 81 = .ok (.iload 4, 2) := by decide +kernel
theorem dX6_writeImage_83 : decode cX6_writeImage 83 = .ok (.iconst 1, 1) := by decide +kernel
theorem dX6_writeImage_84 : decode cX6_writeImage 84 = .ok (.iadd, 1) := by decide +kernel
theorem dX6_writeImage_85 : decode cX6_writeImage 85 = .ok (.aload_n 0, 1) := by decide +kernel
theorem dX6_writeImage_86 : decode cX6_writeImage 86 = .ok (.getfield 19, 3) := by decide +kernel
theorem dX6_writeImage_89 : decode cX6_writeImage 89 = .ok (.iload_n 3, 1) := by decide +kernel
theorem dX6_writeImage_90 : decode cX6_writeImage 90 = .ok (.iaload, 1) := by decide +kernel
theorem dX6_writeImage_91 : decode cX6_writeImage 91 = .ok (.bipush 8, 2) := by decide +kernel
theorem dX6_writeImage_93 : decode cX6_writeImage 93 = .ok (.ishr, 1) := by decide +kernel
theorem dX6_writeImage_94 : decode cX6_writeImage 94 = .ok (.iastore, 1) := by decide +kernel
theorem dX6_writeImage_95 : decode cX6_writeImage 95 = .ok (.aload_n 1, 1) := by decide +kernel
theorem dX6_writeImage_96 : decode cX6_writeImage 96 = .ok (.iload 4, 2) := by decide +kernel
theorem dX6_writeImage_98 : decode cX6_writeImage 98 = .ok (.iconst 2, 1) := by decide +kernel
theorem dX6_writeImage_99 : decode cX6_writeImage 99 = .ok (.iadd, 1) := by decide +kernel
theorem dX6_writeImage_100 : decode cX6_writeImage 100 = .ok (.aload_n 0, 1) := by decide +kernel
theorem dX6_writeImage_101 : decode cX6_writeImage 101 = .ok (.getfield 19, 3) := by decide +kernel
theorem dX6_writeImage_104 : decode cX6_writeImage 104 = .ok (.iload_n 3, 1) := by decide +kernel
theorem dX6_writeImage_105 : decode cX6_writeImage 105 = .ok (.iaload, 1) := by decide +kernel
theorem dX6_writeImage_106 : decode cX6_writeImage 106 = .ok (.sipush 255, 3) := by decide +kernel
theorem dX6_writeImage_109 : decode cX6_writeImage 109 = .ok (.iand, 1) := by decide +kernel
theorem dX6_writeImage_110 : decode cX6_writeImage 110 = .ok (.iastore, 1) := by decide +kernel
theorem dX6_writeImage_111 : decode cX6_writeImage 111 = .ok (.iinc 3 1, 3) := by decide +kernel
theorem dX6_writeImage_114 : decode cX6_writeImage 114 = .ok (.goto (-78), 3) := by decide +kernel
theorem dX6_writeImage_117 : decode cX6_writeImage 117 = .ok (.iconst 0, 1) := by decide +kernel
theorem dX6_writeImage_118 : decode cX6_writeImage 118 = .ok (.istore_n 3, 1) := by decide +kernel
theorem dX6_writeImage_119 : decode cX6_writeImage 119 = .ok (.iload_n 3, 1) := by decide +kernel
theorem dX6_writeImage_120 : decode cX6_writeImage 120 = .ok (.aload_n 0, 1) := by decide +kernel
theorem dX6_writeImage_121 : decode cX6_writeImage 121 = .ok (.getfield 34, 3) := by decide +kernel
theorem dX6_writeImage_124 : decode cX6_writeImage 124 = .ok (.getfield 50, 3) := by decide +kernel
theorem dX6_writeImage_127 : decode cX6_writeImage 127 = .ok (.if_icmp .ge 30, 3) := by decide +kernel
theorem dX6_writeImage_130 : decode cX6_writeImage 130 = .ok (.aload_n 1, 1) := by decide +kernel
theorem dX6_writeImage_131 : decode cX6_writeImage 131 = .ok (.iconst 2, 1) := by decide +kernel
theorem dX6_writeImage_132 : decode cX6_writeImage 132 = .ok (.iconst 3, 1) := by decide +kernel
theorem dX6_writeImage_133 : decode cX6_writeImage 133 = .ok (.aload_n 0, 1) := by decide +kernel
theorem dX6_writeImage_134 : decode cX6_writeImage 134 = .ok (.getfield 34, 3) := by decide +kernel
theorem dX6_writeImage_137 : decode cX6_writeImage 137 = .ok (.getfield 38, 3) := by decide +kernel
theorem dX6_writeImage_140 : decode cX6_writeImage 140 = .ok (.imul, 1) := by decide +kernel
theorem dX6_writeImage_141 : decode cX6_writeImage 141 = .ok (.iadd, 1) := by decide +kernel
theorem dX6_writeImage_142 : decode cX6_writeImage 142 = .ok (.iload_n 3, 1) := by decide +kernel
theorem dX6_writeImage_143 : decode cX6_writeImage 143 = .ok (.iadd, 1) := by decide +kernel
theorem dX6_writeImage_144 : decode cX6_writeImage 144 = .ok (.aload_n 0, 1) := by decide +kernel
theorem dX6_writeImage_145 : decode cX6_writeImage 145 = .ok (.getfield 22, 3) := by decide +kernel
theorem dX6_writeImage_148 : decode cX6_writeImage 148 = .ok (.iload_n 3, 1) := by decide +kernel
theorem dX6_writeImage_149 : decode cX6_writeImage 149 = .ok (.iaload, 1) := by decide +kernel
theorem dX6_writeImage_150 : decode cX6_writeImage 150 = .ok (.iastore, 1) := by decide +kernel
theorem dX6_writeImage_151 : decode cX6_writeImage 151 = .ok (.iinc 3 1, 3) := by decide +kernel
theorem dX6_writeImage_154 : decode cX6_writeImage 154 = .ok (.goto (-35), 3) := by decide +kernel
theorem dX6_writeImage_157 : decode cX6_writeImage 157 = .ok (.aload_n 1, 1) := by decide +kernel
theorem dX6_writeImage_158 : decode cX6_writeImage 158 = .ok (.iload_n 2, 1) := by decide +kernel
theorem dX6_writeImage_159 : decode cX6_writeImage 159 = .ok (.iconst 1, 1) := by decide +kernel
theorem dX6_writeImage_160 : decode cX6_writeImage 160 = .ok (.isub, 1) := by decide +kernel
theorem dX6_writeImage_161 : decode cX6_writeImage 161 = .ok (.aload_n 1, 1) := by decide +kernel
theorem dX6_writeImage_162 : decode cX6_writeImage 162 = .ok (.iload_n 2, 1) := by decide +kernel
theorem dX6_writeImage_163 : decode cX6_writeImage 163 = .ok (.iconst 1, 1) := by decide +kernel
theorem dX6_writeImage_164 : decode cX6_writeImage 164 = .ok (.isub, 1) := by decide +kernel
theorem dX6_writeImage_165 : decode cX6_writeImage 165 = .ok (.invokestatic 100, 3) := by decide +kernel
theorem dX6_writeImage_168 : decode cX6_writeImage 168 = .ok (.iastore, 1) := by decide +kernel
theorem dX6_writeImage_169 : decode cX6_writeImage 169 = .ok (.iload_n 2, 1) := by decide +kernel
theorem dX6_writeImage_170 : decode cX6_writeImage 170 = .ok (.ireturn, 1) := by decide +kernel
theorem dX6_isImage_0 : decode cX6_isImage 0 = .ok (.aload_n 0, 1) := by decide +kernel
theorem dX6_isImage_1 : decode cX6_isImage 1 = .ok (.invokevirtual 97, 3) := by decide +kernel
theorem dX6_isImage_4 : decode cX6_isImage 4 = .ok (.istore_n 2, 1) := by decide +kernel
theorem dX6_isImage_5 : decode cX6_isImage 5 = .ok (.aload_n 1, 1) := by decide +kernel
theorem dX6_isImage_6 : decode cX6_isImage 6 = .ok (.getfield 104, 3) := by decide +kernel
theorem dX6_isImage_9 : decode cX6_isImage 9 = .ok (.iload_n 2, 1) := by decide +kernel
theorem dX6_isImage_10 : decode cX6_isImage 10 = .ok (.if_icmp .ne 14, 3) := by decide +kernel
theorem dX6_isImage_13 : decode cX6_isImage 13 = .ok (.aload_n 1, 1) := by decide +kernel
theorem dX6_isImage_14 : decode cX6_isImage 14 = .ok (.iconst 0, 1) := by decide +kernel
theorem dX6_isImage_15 : decode cX6_isImage 15 = .ok (.invokevirtual 109, 3) := by decide +kernel
theorem dX6_isImage_18 : decode cX6_isImage 18 = .ok (.sipush 9999, 3) := by decide +kernel
theorem dX6_isImage_21 : decode cX6_isImage 21 = .ok (.if_icmp .le 5, 3) := by decide +kernel
theorem dX6_isImage_24 : decode cX6_isImage 24 = .ok (.iconst 0, 1) := by decide +kernel
theorem dX6_isImage_25 : decode cX6_isImage 25 = .ok (.ireturn, 1) := by decide +kernel
theorem dX6_isImage_26 : decode cX6_isImage 26 = .ok (.iconst 0, 1) := by decide +kernel
theorem dX6_isImage_27 : decode cX6_isImage 27 = .ok (.istore_n 3, 1) := by decide +kernel
theorem dX6_isImage_28 : decode cX6_isImage 28 = .ok (.iload_n 3, 1) := by decide +kernel
theorem dX6_isImage_29 : decode cX6_isImage 29 = .ok (.aload_n 0, 1) := by decide +kernel
theorem dX6_isImage_30 : decode cX6_isImage 30 = .ok (.getfield 34, 3) := by decide +kernel
theorem dX6_isImage_33 : decode cX6_isImage 33 = .ok (.getfield 38, 3) := by decide +kernel
theorem dX6_isImage_36 : decode cX6_isImage 36 = .ok (.if_icmp .ge 69, 3) := by decide +kernel
theorem dX6_isImage_39 : decode cX6_isImage 39 = .ok (.aload_n 1, 1) := by decide +kernel
theorem dX6_isImage_40 : decode cX6_isImage 40 = .ok (.iconst 2, 1) := by decide +kernel
theorem dX6_isImage_41 : decode cX6_isImage 41 = .ok (.iconst 3, 1) := by decide +kernel
theorem dX6_isImage_42 : decode cX6_isImage 42 = .ok (.iload_n 3, 1) := by decide +kernel
theorem dX6_isImage_43 : decode cX6_isImage 43 = .ok (.imul, 1) := by decide +kernel
theorem dX6_isImage_44 : decode cX6_isImage 44 = .ok (.iadd, 1) := by decide +kernel
theorem dX6_isImage_45 : decode cX6_isImage 45 = .ok (.invokevirtual 113, 3) := by decide +kernel
theorem dX6_isImage_48 : decode cX6_isImage 48 = .ok (.istore 4, 2) := by decide +kernel
theorem dX6_isImage_50 : decode cX6_isImage 50 = .ok (.iload 4, 2) := by decide +kernel
theorem dX6_isImage_52 : decode cX6_isImage 52 = .ok (.sipush 255, 3) := by decide +kernel
theorem dX6_isImage_55 : decode cX6_isImage 55 = .ok (.if_icmp .eq 15, 3) := by decide +kernel
theorem dX6_isImage_58 : decode cX6_isImage 58 = .ok (.aload_n 0, 1) := by decide +kernel
theorem dX6_isImage_59 : decode cX6_isImage 59 = .ok (.getfield 34, 3) := by decide +kernel
theorem dX6_isImage_62 : decode cX6_isImage 62 = .ok (.iload 4, 2) := by decide +kernel
theorem dX6_isImage_64 : decode cX6_isImage 64 = .ok (.invokevirtual 116, 3) := by decide +kernel
theorem dX6_isImage_67 : decode cX6_isImage 67 = .ok (.ifCond .eq 7, 3) := by decide +kernel
theorem dX6_isImage_70 : decode cX6_isImage 70 = .ok (.iconst 1, 1) := by decide +kernel
theorem dX6_isImage_71 : decode cX6_isImage 71 = .ok (.goto 4, 3) := by decide +kernel
theorem dX6_isImage_74 : decode cX6_isImage 74 = .ok (.iconst 0, 1) := by decide +kernel
theorem dX6_isImage_75 : decode cX6_isImage 75 = .ok (.istore 5, 2) := by decide +kernel
theorem dX6_isImage_77 : decode cX6_isImage 77 = .ok (.iload 5, 2) := by decide +kernel
theorem dX6_isImage_79 : decode cX6_isImage 79 = .ok (.ifCond .eq 18, 3) := by decide +kernel
theorem dX6_isImage_82 : decode cX6_isImage 82 = .ok (.aload_n 1, 1) := by decide +kernel
theorem dX6_isImage_83 : decode cX6_isImage 83 = .ok (.iconst 3, 1) := by decide +kernel
theorem dX6_isImage_84 : decode cX6_isImage 84 = .ok (.iconst 3, 1) := by decide +kernel
theorem dX6_isImage_85 : decode cX6_isImage 85 = .ok (.iload_n 3, 1) := by decide +kernel
theorem dX6_isImage_86 : decode cX6_isImage 86 = .ok (.imul, 1) := by decide +kernel
theorem dX6_isImage_87 : decode cX6_isImage 87 = .ok (.iadd, 1) := by decide +kernel
theorem dX6_isImage_88 : decode cX6_isImage 88 = .ok (.invokevirtual 109, 3) := by decide +kernel
theorem dX6_isImage_91 : decode cX6_isImage 91 = .ok (.sipush 999, 3) := by decide +kernel
theorem dX6_isImage_94 : decode cX6_isImage 94 = .ok (.if_icmp .le 5, 3) := by decide +kernel
theorem dX6_isImage_97 : decode cX6_isImage 97 = .ok (.iconst 0, 1) := by decide +kernel
theorem dX6_isImage_98 : decode cX6_isImage 98 = .ok (.ireturn, 1) := by decide +kernel
theorem dX6_isImage_99 : decode cX6_isImage 99 = .ok (.iinc 3 1, 3) := by decide +kernel
theorem dX6_isImage_102 : decode cX6_isImage 102 = .ok (.goto (-74), 3) := by decide +kernel
theorem dX6_isImage_105 : decode cX6_isImage 105 = .ok (.iconst 0, 1) := by decide +kernel
theorem dX6_isImage_106 : decode cX6_isImage 106 = .ok (.istore_n 3, 1) := by decide +kernel
theorem dX6_isImage_107 : decode cX6_isImage 107 = .ok (.iload_n 3, 1) := by decide +kernel
theorem dX6_isImage_108 : decode cX6_isImage 108 = .ok (.aload_n 0, 1) := by decide +kernel
theorem dX6_isImage_109 : decode cX6_isImage 109 = .ok (.getfield 34, 3) := by decide +kernel
theorem dX6_isImage_112 : decode cX6_isImage 112 = .ok (.getfield 50, 3) := by decide +kernel
theorem dX6_isImage_115 : decode cX6_isImage 115 = .ok (.if_icmp .ge 32, 3) := by decide +kernel
theorem dX6_isImage_118 : decode cX6_isImage 118 = .ok (.aload_n 1, 1) := by decide +kernel
theorem dX6_isImage_119 : decode cX6_isImage 119 = .ok (.iconst 2, 1) := by decide +kernel
theorem dX6_isImage_120 : decode cX6_isImage 120 = .ok (.iconst 3, 1) := by decide +kernel
theorem dX6_isImage_121 : decode cX6_isImage 121 = .ok (.aload_n 0, 1) := by decide +kernel
theorem dX6_isImage_122 : decode cX6_isImage 122 = .ok (.getfield 34, 3) := by decide +kernel
theorem dX6_isImage_125 : decode cX6_isImage 125 = .ok (.getfield 38, 3) := by decide +kernel
theorem dX6_isImage_128 : decode cX6_isImage 128 = .ok (.imul, 1) := by decide +kernel
theorem dX6_isImage_129 : decode cX6_isImage 129 = .ok (.iadd, 1) := by decide +kernel
theorem dX6_isImage_130 : decode cX6_isImage 130 = .ok (.iload_n 3, 1) := by decide +kernel
theorem dX6_isImage_131 : decode cX6_isImage 131 = .ok (.iadd, 1) := by decide +kernel
theorem dX6_isImage_132 : decode cX6_isImage 132 = .ok (.invokevirtual 113, 3) := by decide +kernel
theorem dX6_isImage_135 : decode cX6_isImage 135 = .ok (.iconst 1, 1) := by decide +kernel
theorem dX6_isImage_136 : decode cX6_isImage 136 = .ok (.if_icmp .le 5, 3) := by decide +kernel
theorem dX6_isImage_139 : decode cX6_isImage 139 = .ok (.iconst 0, 1) := by decide +kernel
theorem dX6_isImage_140 : decode cX6_isImage 140 = .ok (.ireturn, 1) := by decide +kernel
theorem dX6_isImage_141 : decode cX6_isImage 141 = .ok (.iinc 3 1, 3) := by decide +kernel
theorem dX6_isImage_144 : decode cX6_isImage 144 = .ok (.goto (-37), 3) := by decide +kernel
theorem dX6_isImage_147 : decode cX6_isImage 147 = .ok (.aload_n 1, 1) := by decide +kernel
theorem dX6_isImage_148 : decode cX6_isImage 148 = .ok (.iload_n 2, 1) := by decide +kernel
theorem dX6_isImage_149 : decode cX6_isImage 149 = .ok (.iconst 1, 1) := by decide +kernel
theorem dX6_isImage_150 : decode cX6_isImage 150 = .ok (.isub, 1) := by decide +kernel
theorem dX6_isImage_151 : decode cX6_isImage 151 = .ok (.invokevirtual 113, 3) := by decide +kernel
theorem dX6_isImage_154 : decode cX6_isImage 154 = .ok (.aload_n 1, 1) := by decide +kernel
theorem dX6_isImage_155 : decode cX6_isImage 155 = .ok (.getfield 120, 3) := by decide +kernel
theorem dX6_isImage_158 : decode cX6_isImage 158 = .ok (.iload_n 2, 1) := by decide +kernel
theorem dX6_isImage_159 : decode cX6_isImage 159 = .ok (.iconst 1, 1) := by decide +kernel
theorem dX6_isImage_160 : decode cX6_isImage 160 = .ok (.isub, 1) := by decide +kernel
theorem dX6_isImage_161 : decode cX6_isImage 161 = .ok (.invokestatic 100, 3) := by decide +kernel
theorem dX6_isImage_164 : decode cX6_isImage 164 = .ok (.if_icmp .ne 7, 3) := by decide +kernel
theorem dX6_isImage_167 : decode cX6_isImage 167 = .ok (.iconst 1, 1) := by decide +kernel
theorem dX6_isImage_168 : decode cX6_isImage 168 = .ok (.goto 4, 3) := by decide +kernel
theorem dX6_isImage_171 : decode cX6_isImage 171 = .ok (.iconst 0, 1) := by decide +kernel
theorem dX6_isImage_172 : decode cX6_isImage 172 = .ok (.ireturn, 1) := by decide +kernel
theorem dX6_readImage_0 : decode cX6_readImage 0 = .ok (.aload_n 0, 1) := by decide +kernel
theorem dX6_readImage_1 : decode cX6_readImage 1 = .ok (.aload_n 1, 1) := by decide +kernel
theorem dX6_readImage_2 : decode cX6_readImage 2 = .ok (.iconst 0, 1) := by decide +kernel
theorem dX6_readImage_3 : decode cX6_readImage 3 = .ok (.invokevirtual 109, 3) := by decide +kernel
theorem dX6_readImage_6 : decode cX6_readImage 6 = .ok (.putfield 9, 3) := by decide +kernel
theorem dX6_readImage_9 : decode cX6_readImage 9 = .ok (.aload_n 0, 1) := by decide +kernel
theorem dX6_readImage_10 : decode cX6_readImage 10 = .ok (.iconst 0, 1) := by decide +kernel
theorem dX6_readImage_11 : decode cX6_readImage 11 = .ok (.putfield 25, 3) := by decide +kernel
theorem dX6_readImage_14 : decode cX6_readImage 14 = .ok (.iconst 0, 1) := by decide +kernel
theorem dX6_readImage_15 : decode cX6_readImage 15 = .ok (.istore_n 2, 1) := by decide +kernel
theorem dX6_readImage_16 : decode cX6_readImage 16 = .ok (.iload_n 2, 1) := by decide +kernel
theorem dX6_readImage_17 : decode cX6_readImage 17 = .ok (.aload_n 0, 1) := by decide +kernel
theorem dX6_readImage_18 : decode cX6_readImage 18 = .ok (.getfield 34, 3) := by decide +kernel
theorem dX6_readImage_21 : decode cX6_readImage 21 = .ok (.getfield 38, 3) := by decide +kernel
theorem dX6_readImage_24 : decode cX6_readImage 24 = .ok (.if_icmp .ge 52, 3) := by decide +kernel
theorem dX6_readImage_27 : decode cX6_readImage 27 = .ok (.aload_n 1, 1) := by decide +kernel
theorem dX6_readImage_28 : decode cX6_readImage 28 = .ok (.iconst 2, 1) := by decide +kernel
theorem dX6_readImage_29 : decode cX6_readImage 29 = .ok (.iconst 3, 1) := by decide +kernel
theorem dX6_readImage_30 : decode cX6_readImage 30 = .ok (.iload_n 2, 1) := by decide +kernel
theorem dX6_readImage_31 : decode cX6_readImage 31 = .ok (.imul, 1) := by decide +kernel
theorem dX6_readImage_32 : decode cX6_readImage 32 = .ok (.iadd, 1) := by decide +kernel
theorem dX6_readImage_33 : decode cX6_readImage 33 = .ok (.invokevirtual 113, 3) := by decide +kernel
theorem dX6_readImage_36 : decode cX6_readImage 36 = .ok (.istore_n 3, 1) := by decide +kernel
theorem dX6_readImage_37 : decode cX6_readImage 37 = .ok (.aload_n 0, 1) := by decide +kernel
theorem dX6_readImage_38 : decode cX6_readImage 38 = .ok (.getfield 15, 3) := by decide +kernel
theorem dX6_readImage_41 : decode cX6_readImage 41 = .ok (.iload_n 2, 1) := by decide +kernel
theorem dX6_readImage_42 : decode cX6_readImage 42 = .ok (.iload_n 3, 1) := by decide +kernel
theorem dX6_readImage_43 : decode cX6_readImage 43 = .ok (.sipush 255, 3) := by decide +kernel
theorem dX6_readImage_46 : decode cX6_readImage 46 = .ok (.if_icmp .ne 7, 3) := by decide +kernel
theorem dX6_readImage_49 : decode cX6_readImage 49 = .ok (.iconst (-1), 1) := by decide +kernel
theorem dX6_readImage_50 : decode cX6_readImage 50 = .ok (.goto 4, 3) := by decide +kernel
theorem dX6_readImage_53 : decode cX6_readImage 53 = .ok (.iload_n 3, 1) := by decide +kernel
theorem dX6_readImage_54 : decode cX6_readImage 54 = .ok (.iastore, 1) := by decide +kernel
theorem dX6_readImage_55 : decode cX6_readImage 55 = .ok (.aload_n 0, 1) := by decide +kernel
theorem dX6_readImage_56 : decode cX6_readImage 56 = .ok (.getfield 19, 3) := by decide +kernel
theorem dX6_readImage_59 : decode cX6_readImage 59 = .ok (.iload_n 2, 1) := by decide +kernel
theorem dX6_readImage_60 : decode cX6_readImage 60 = .ok (.aload_n 1, 1) := by decide +kernel
theorem dX6_readImage_61 : decode cX6_readImage 61 = .ok (.iconst 3, 1) := by decide +kernel
theorem dX6_readImage_62 : decode cX6_readImage 62 = .ok (.iconst 3, 1) := by decide +kernel
theorem dX6_readImage_63 : decode cX6_readImage 63 = .ok (.iload_n 2, 1) := by decide +kernel
theorem dX6_readImage_64 : decode cX6_readImage 64 = .ok (.imul, 1) := by decide +kernel
theorem dX6_readImage_65 : decode cX6_readImage 65 = .ok (.iadd, 1) := by decide +kernel
theorem dX6_readImage_66 : decode cX6_readImage 66 = .ok (.invokevirtual 109, 3) := by decide +kernel
theorem dX6_readImage_69 : decode cX6_readImage 69 = .ok (.iastore, 1) := by decide +kernel
theorem dX6_readImage_70 : decode cX6_readImage 70 = .ok (.iinc 2 1, 3) := by decide +kernel
theorem dX6_readImage_73 : decode cX6_readImage 73 = .ok (.goto (-57), 3) := by decide +kernel
theorem dX6_readImage_76 : decode cX6_readImage 76 = .ok (.iconst 0, 1) := by decide +kernel
theorem dX6_readImage_77 : decode cX6_readImage 77 = .ok (.istore_n 2, 1) := by decide +kernel
theorem dX6_readImage_78 : decode cX6_readImage 78 = .ok (.iload_n 2, 1) := by decide +kernel
theorem dX6_readImage_79 : decode cX6_readImage 79 = .ok (.aload_n 0, 1) := by decide +kernel
theorem dX6_readImage_80 : decode cX6_readImage 80 = .ok (.getfield 34, 3) := by decide +kernel
theorem dX6_readImage_83 : decode cX6_readImage 83 = .ok (.getfield 50, 3) := by decide +kernel
theorem dX6_readImage_86 : decode cX6_readImage 86 = .ok (.if_icmp .ge 32, 3) := by decide +kernel
theorem dX6_readImage_89 : decode cX6_readImage 89 = .ok (.aload_n 0, 1) := by decide +kernel
theorem dX6_readImage_90 : decode cX6_readImage 90 = .ok (.getfield 22, 3) := by decide +kernel
theorem dX6_readImage_93 : decode cX6_readImage 93 = .ok (.iload_n 2, 1) := by decide +kernel
theorem dX6_readImage_94 : decode cX6_readImage 94 = .ok (.aload_n 1, 1) := by decide +kernel
theorem dX6_readImage_95 : decode cX6_readImage 95 = .ok (.iconst 2, 1) := by decide +kernel
theorem dX6_readImage_96 : decode cX6_readImage 96 = .ok (.iconst 3, 1) := by decide +kernel
theorem dX6_readImage_97 : decode cX6_readImage 97 = .ok (.aload_n 0, 1) := by decide +kernel
theorem dX6_readImage_98 : decode cX6_readImage 98 = .ok (.getfield 34, 3) := by decide +kernel
theorem dX6_readImage_101 : decode cX6_readImage 101 = .ok (.getfield 38, 3) := by decide +kernel
theorem dX6_readImage_104 : decode cX6_readImage 104 = .ok (.imul, 1) := by decide +kernel
theorem dX6_readImage_105 : decode cX6_readImage 105 = .ok (.iadd, 1) := by decide +kernel
theorem dX6_readImage_106 : decode cX6_readImage 106 = .ok (.iload_n 2, 1) := by decide +kernel
theorem dX6_readImage_107 : decode cX6_readImage 107 = .ok (.iadd, 1) := by decide +kernel
theorem dX6_readImage_108 : decode cX6_readImage 108 = .ok (.invokevirtual 113, 3) := by decide +kernel
theorem dX6_readImage_111 : decode cX6_readImage 111 = .ok (.iastore, 1) := by decide +kernel
theorem dX6_readImage_112 : decode cX6_readImage 112 = .ok (.iinc 2 1, 3) := by decide +kernel
theorem dX6_readImage_115 : decode cX6_readImage 115 = .ok (.goto (-37), 3) := by decide +kernel
theorem dX6_readImage_118 : decode cX6_readImage 118 = .ok (.return_, 1) := by decide +kernel
