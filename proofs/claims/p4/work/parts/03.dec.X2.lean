theorem dX2_init_0 : decode cX2_init 0 = .ok (.aload_n 0, 1) := by decide +kernel
theorem dX2_init_1 : decode cX2_init 1 = .ok (.invokespecial 3, 3) := by decide +kernel
theorem dX2_init_4 : decode cX2_init 4 = .ok (.aload_n 0, 1) := by decide +kernel
theorem dX2_init_5 : decode cX2_init 5 = .ok (.bipush 20, 2) := by decide +kernel
theorem dX2_init_7 : decode cX2_init 7 = .ok (.bipush 18, 2) := by decide +kernel
theorem dX2_init_9 : decode cX2_init 9 = .ok (.multianewarray 11 2, 4) := by decide +kernel
theorem dX2_init_13 : decode cX2_init 13 = .ok (.putfield 13, 3) := by decide +kernel
theorem dX2_init_16 : decode cX2_init 16 = .ok (.aload_n 0, 1) := by decide +kernel
theorem dX2_init_17 : decode cX2_init 17 = .ok (.iconst 0, 1) := by decide +kernel
theorem dX2_init_18 : decode cX2_init 18 = .ok (.putfield 18, 3) := by decide +kernel
theorem dX2_init_21 : decode cX2_init 21 = .ok (.aload_n 0, 1) := by decide +kernel
theorem dX2_init_22 : decode cX2_init 22 = .ok (.iconst 0, 1) := by decide +kernel
theorem dX2_init_23 : decode cX2_init 23 = .ok (.putfield 22, 3) := by decide +kernel
theorem dX2_init_26 : decode cX2_init 26 = .ok (.return_, 1) := by decide +kernel
theorem dX2_remember_0 : decode cX2_remember 0 = .ok (.aload_n 1, 1) := by decide +kernel
theorem dX2_remember_1 : decode cX2_remember 1 = .ok (.aload_n 0, 1) := by decide +kernel
theorem dX2_remember_2 : decode cX2_remember 2 = .ok (.getfield 13, 3) := by decide +kernel
theorem dX2_remember_5 : decode cX2_remember 5 = .ok (.aload_n 0, 1) := by decide +kernel
theorem dX2_remember_6 : decode cX2_remember 6 = .ok (.getfield 18, 3) := by decide +kernel
theorem dX2_remember_9 : decode cX2_remember 9 = .ok (.aaload, 1) := by decide +kernel
theorem dX2_remember_10 : decode cX2_remember 10 = .ok (.invokevirtual 25, 3) := by decide +kernel
theorem dX2_remember_13 : decode cX2_remember 13 = .ok (.aload_n 0, 1) := by decide +kernel
theorem dX2_remember_14 : decode cX2_remember 14 = .ok (.aload_n 0, 1) := by decide +kernel
theorem dX2_remember_15 : decode cX2_remember 15 = .ok (.getfield 18, 3) := by decide +kernel
theorem dX2_remember_18 : decode cX2_remember 18 = .ok (.iconst 1, 1) := by decide +kernel
theorem dX2_remember_19 : decode cX2_remember 19 = .ok (.iadd, 1) := by decide +kernel
theorem dX2_remember_20 : decode cX2_remember 20 = .ok (.bipush 20, 2) := by decide +kernel
theorem dX2_remember_22 : decode cX2_remember 22 = .ok (.irem, 1) := by decide +kernel
theorem dX2_remember_23 : decode cX2_remember 23 = .ok (.putfield 18, 3) := by decide +kernel
theorem dX2_remember_26 : decode cX2_remember 26 = .ok (.aload_n 0, 1) := by decide +kernel
theorem dX2_remember_27 : decode cX2_remember 27 = .ok (.bipush 20, 2) := by decide +kernel
theorem dX2_remember_29 : decode cX2_remember 29 = .ok (.aload_n 0, 1) := by decide +kernel
theorem dX2_remember_30 : decode cX2_remember 30 = .ok (.getfield 22, 3) := by decide +kernel
theorem dX2_remember_33 : decode cX2_remember 33 = .ok (.iconst 1, 1) := by decide +kernel
theorem dX2_remember_34 : decode cX2_remember 34 = .ok (.iadd, 1) := by decide +kernel
theorem dX2_remember_35 : decode cX2_remember 35 = .ok (.invokestatic 29, 3) := by decide +kernel
theorem dX2_remember_38 : decode cX2_remember 38 = .ok (.putfield 22, 3) := by decide +kernel
theorem dX2_remember_41 : decode cX2_remember 41 = .ok (.return_, 1) := by decide +kernel
theorem dX2_bringBack_0 : decode cX2_bringBack 0 = .ok (.aload_n 0, 1) := by decide +kernel
theorem dX2_bringBack_1 : decode cX2_bringBack 1 = .ok (.getfield 22, 3) := by decide +kernel
theorem dX2_bringBack_4 : decode cX2_bringBack 4 = .ok (.ifCond .gt 5, 3) := by decide +kernel
theorem dX2_bringBack_7 : decode cX2_bringBack 7 = .ok (.iconst 0, 1) := by decide +kernel
theorem dX2_bringBack_8 : decode cX2_bringBack 8 = .ok (.ireturn, 1) := by decide +kernel
theorem dX2_bringBack_9 : decode cX2_bringBack 9 = .ok (.aload_n 0, 1) := by decide +kernel
theorem dX2_bringBack_10 : decode cX2_bringBack 10 = .ok (.aload_n 0, 1) := by decide +kernel
theorem dX2_bringBack_11 : decode cX2_bringBack 11 = .ok (.getfield 18, 3) := by decide +kernel
theorem dX2_bringBack_14 : decode cX2_bringBack 14 = .ok (.bipush 20, 2) := by decide +kernel
theorem dX2_bringBack_16 : decode cX2_bringBack 16 = .ok (.iadd, 1) := by decide +kernel
theorem dX2_bringBack_17 : decode cX2_bringBack 17 = .ok (.iconst 1, 1) := by decide +kernel
theorem dX2_bringBack_18 : decode cX2_bringBack 18 = .ok (.isub, 1) := by decide +kernel
theorem dX2_bringBack_19 : decode cX2_bringBack 19 = .ok (.bipush 20, 2) := by decide +kernel
theorem dX2_bringBack_21 : decode cX2_bringBack 21 = .ok (.irem, 1) := by decide +kernel
theorem dX2_bringBack_22 : decode cX2_bringBack 22 = .ok (.putfield 18, 3) := by decide +kernel
theorem dX2_bringBack_25 : decode cX2_bringBack 25 = .ok (.aload_n 0, 1) := by decide +kernel
theorem dX2_bringBack_26 : decode cX2_bringBack 26 = .ok (.dup, 1) := by decide +kernel
theorem dX2_bringBack_27 : decode cX2_bringBack 27 = .ok (.getfield 22, 3) := by decide +kernel
theorem dX2_bringBack_30 : decode cX2_bringBack 30 = .ok (.iconst 1, 1) := by decide +kernel
theorem dX2_bringBack_31 : decode cX2_bringBack 31 = .ok (.isub, 1) := by decide +kernel
theorem dX2_bringBack_32 : decode cX2_bringBack 32 = .ok (.putfield 22, 3) := by decide +kernel
theorem dX2_bringBack_35 : decode cX2_bringBack 35 = .ok (.aload_n 1, 1) := by decide +kernel
theorem dX2_bringBack_36 : decode cX2_bringBack 36 = .ok (.aload_n 0, 1) := by decide +kernel
theorem dX2_bringBack_37 : decode cX2_bringBack 37 = .ok (.getfield 13, 3) := by decide +kernel
theorem dX2_bringBack_40 : decode cX2_bringBack 40 = .ok (.aload_n 0, 1) := by decide +kernel
theorem dX2_bringBack_41 : decode cX2_bringBack 41 = .ok (.getfield 18, 3) := by decide +kernel
theorem dX2_bringBack_44 : decode cX2_bringBack 44 = .ok (.aaload, 1) := by decide +kernel
theorem dX2_bringBack_45 : decode cX2_bringBack 45 = .ok (.invokevirtual 35, 3) := by decide +kernel
theorem dX2_bringBack_48 : decode cX2_bringBack 48 = .ok (.iconst 1, 1) := by decide +kernel
theorem dX2_bringBack_49 : decode cX2_bringBack 49 = .ok (.ireturn, 1) := by decide +kernel
