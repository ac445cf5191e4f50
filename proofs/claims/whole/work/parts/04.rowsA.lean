theorem dX0_init_0 : decode cX0_init 0 = .ok (.aload_n 0, 1) := by decide +kernel
theorem dX0_init_1 : decode cX0_init 1 = .ok (.invokespecial 1, 3) := by decide +kernel
theorem dX0_init_4 : decode cX0_init 4 = .ok (.aload_n 0, 1) := by decide +kernel
theorem dX0_init_5 : decode cX0_init 5 = .ok (.bipush 14, 2) := by decide +kernel
theorem dX0_init_7 : decode cX0_init 7 = .ok (.newarray .int, 2) := by decide +kernel
theorem dX0_init_9 : decode cX0_init 9 = .ok (.putfield 9, 3) := by decide +kernel
theorem dX0_init_12 : decode cX0_init 12 = .ok (.aload_n 0, 1) := by decide +kernel
theorem dX0_init_13 : decode cX0_init 13 = .ok (.bipush 14, 2) := by decide +kernel
theorem dX0_init_15 : decode cX0_init 15 = .ok (.newarray .int, 2) := by decide +kernel
theorem dX0_init_17 : decode cX0_init 17 = .ok (.putfield 13, 3) := by decide +kernel
theorem dX0_init_20 : decode cX0_init 20 = .ok (.aload_n 0, 1) := by decide +kernel
theorem dX0_init_21 : decode cX0_init 21 = .ok (.iconst 0, 1) := by decide +kernel
theorem dX0_init_22 : decode cX0_init 22 = .ok (.putfield 16, 3) := by decide +kernel
theorem dX0_init_25 : decode cX0_init 25 = .ok (.return_, 1) := by decide +kernel
theorem dX0_remember_0 : decode cX0_remember 0 = .ok (.aload_n 0, 1) := by decide +kernel
theorem dX0_remember_1 : decode cX0_remember 1 = .ok (.getfield 16, 3) := by decide +kernel
theorem dX0_remember_4 : decode cX0_remember 4 = .ok (.bipush 14, 2) := by decide +kernel
theorem dX0_remember_6 : decode cX0_remember 6 = .ok (.if_icmp .lt 7, 3) := by decide +kernel
theorem dX0_remember_9 : decode cX0_remember 9 = .ok (.aload_n 0, 1) := by decide +kernel
theorem dX0_remember_10 : decode cX0_remember 10 = .ok (.invokevirtual 20, 3) := by decide +kernel
theorem dX0_remember_13 : decode cX0_remember 13 = .ok (.aload_n 0, 1) := by decide +kernel
theorem dX0_remember_14 : decode cX0_remember 14 = .ok (.getfield 16, 3) := by decide +kernel
theorem dX0_remember_17 : decode cX0_remember 17 = .ok (.ifCond .lt 42, 3) := by decide +kernel
theorem dX0_remember_20 : decode cX0_remember 20 = .ok (.aload_n 0, 1) := by decide +kernel
theorem dX0_remember_21 : decode cX0_remember 21 = .ok (.getfield 16, 3) := by decide +kernel
theorem dX0_remember_24 : decode cX0_remember 24 = .ok (.bipush 14, 2) := by decide +kernel
theorem dX0_remember_26 : decode cX0_remember 26 = .ok (.if_icmp .ge 33, 3) := by decide +kernel
theorem dX0_remember_29 : decode cX0_remember 29 = .ok (.aload_n 0, 1) := by decide +kernel
theorem dX0_remember_30 : decode cX0_remember 30 = .ok (.getfield 9, 3) := by decide +kernel
theorem dX0_remember_33 : decode cX0_remember 33 = .ok (.aload_n 0, 1) := by decide +kernel
theorem dX0_remember_34 : decode cX0_remember 34 = .ok (.getfield 16, 3) := by decide +kernel
theorem dX0_remember_37 : decode cX0_remember 37 = .ok (.iload_n 1, 1) := by decide +kernel
theorem dX0_remember_38 : decode cX0_remember 38 = .ok (.iastore, 1) := by decide +kernel
theorem dX0_remember_39 : decode cX0_remember 39 = .ok (.aload_n 0, 1) := by decide +kernel
theorem dX0_remember_40 : decode cX0_remember 40 = .ok (.getfield 13, 3) := by decide +kernel
theorem dX0_remember_43 : decode cX0_remember 43 = .ok (.aload_n 0, 1) := by decide +kernel
theorem dX0_remember_44 : decode cX0_remember 44 = .ok (.getfield 16, 3) := by decide +kernel
theorem dX0_remember_47 : decode cX0_remember 47 = .ok (.iload_n 2, 1) := by decide +kernel
theorem dX0_remember_48 : decode cX0_remember 48 = .ok (.iastore, 1) := by decide +kernel
theorem dX0_remember_49 : decode cX0_remember 49 = .ok (.aload_n 0, 1) := by decide +kernel
theorem dX0_remember_50 : decode cX0_remember 50 = .ok (.dup, 1) := by decide +kernel
theorem dX0_remember_51 : decode cX0_remember 51 = .ok (.getfield 16, 3) := by decide +kernel
theorem dX0_remember_54 : decode cX0_remember 54 = .ok (.iconst 1, 1) := by decide +kernel
theorem dX0_remember_55 : decode cX0_remember 55 = .ok (.iadd, 1) := by decide +kernel
theorem dX0_remember_56 : decode cX0_remember 56 = .ok (.putfield 16, 3) := by decide +kernel
theorem dX0_remember_59 : decode cX0_remember 59 = .ok (.return_, 1) := by decide +kernel
theorem dX0_forgetFirst_0 : decode cX0_forgetFirst 0 = .ok (.iconst 1, 1) := by decide +kernel
theorem dX0_forgetFirst_1 : decode cX0_forgetFirst 1 = .ok (.istore_n 1, 1) := by decide +kernel
theorem dX0_forgetFirst_2 : decode cX0_forgetFirst 2 = .ok (.iload_n 1, 1) := by decide +kernel
theorem dX0_forgetFirst_3 : decode cX0_forgetFirst 3 = .ok (.bipush 14, 2) := by decide +kernel
theorem dX0_forgetFirst_5 : decode cX0_forgetFirst 5 = .ok (.if_icmp .ge 37, 3) := by decide +kernel
theorem dX0_forgetFirst_8 : decode cX0_forgetFirst 8 = .ok (.aload_n 0, 1) := by decide +kernel
theorem dX0_forgetFirst_9 : decode cX0_forgetFirst 9 = .ok (.getfield 9, 3) := by decide +kernel
theorem dX0_forgetFirst_12 : decode cX0_forgetFirst 12 = .ok (.iload_n 1, 1) := by decide +kernel
theorem dX0_forgetFirst_13 : decode cX0_forgetFirst 13 = .ok (.iconst 1, 1) := by decide +kernel
theorem dX0_forgetFirst_14 : decode cX0_forgetFirst 14 = .ok (.isub, 1) := by decide +kernel
theorem dX0_forgetFirst_15 : decode cX0_forgetFirst 15 = .ok (.aload_n 0, 1) := by decide +kernel
theorem dX0_forgetFirst_16 : decode cX0_forgetFirst 16 = .ok (.getfield 9, 3) := by decide +kernel
theorem dX0_forgetFirst_19 : decode cX0_forgetFirst 19 = .ok (.iload_n 1, 1) := by decide +kernel
theorem dX0_forgetFirst_20 : decode cX0_forgetFirst 20 = .ok (.iaload, 1) := by decide +kernel
theorem dX0_forgetFirst_21 : decode cX0_forgetFirst 21 = .ok (.iastore, 1) := by decide +kernel
theorem dX0_forgetFirst_22 : decode cX0_forgetFirst 22 = .ok (.aload_n 0, 1) := by decide +kernel
theorem dX0_forgetFirst_23 : decode cX0_forgetFirst 23 = .ok (.getfield 13, 3) := by decide +kernel
theorem dX0_forgetFirst_26 : decode cX0_forgetFirst 26 = .ok (.iload_n 1, 1) := by decide +kernel
theorem dX0_forgetFirst_27 : decode cX0_forgetFirst 27 = .ok (.iconst 1, 1) := by decide +kernel
theorem dX0_forgetFirst_28 : decode cX0_forgetFirst 28 = .ok (.isub, 1) := by decide +kernel
theorem dX0_forgetFirst_29 : decode cX0_forgetFirst 29 = .ok (.aload_n 0, 1) := by decide +kernel
theorem dX0_forgetFirst_30 : decode cX0_forgetFirst 30 = .ok (.getfield 13, 3) := by decide +kernel
theorem dX0_forgetFirst_33 : decode cX0_forgetFirst 33 = .ok (.iload_n 1, 1) := by decide +kernel
theorem dX0_forgetFirst_34 : decode cX0_forgetFirst 34 = .ok (.iaload, 1) := by decide +kernel
theorem dX0_forgetFirst_35 : decode cX0_forgetFirst 35 = .ok (.iastore, 1) := by decide +kernel
theorem dX0_forgetFirst_36 : decode cX0_forgetFirst 36 = .ok (.iinc 1 1, 3) := by decide +kernel
theorem dX0_forgetFirst_39 : decode cX0_forgetFirst 39 = .ok (.goto (-37), 3) := by decide +kernel
theorem dX0_forgetFirst_42 : decode cX0_forgetFirst 42 = .ok (.aload_n 0, 1) := by decide +kernel
theorem dX0_forgetFirst_43 : decode cX0_forgetFirst 43 = .ok (.bipush 13, 2) := by decide +kernel
theorem dX0_forgetFirst_45 : decode cX0_forgetFirst 45 = .ok (.putfield 16, 3) := by decide +kernel
theorem dX0_forgetFirst_48 : decode cX0_forgetFirst 48 = .ok (.return_, 1) := by decide +kernel
theorem dX0_lastFrame_0 : decode cX0_lastFrame 0 = .ok (.aload_n 0, 1) := by decide +kernel
theorem dX0_lastFrame_1 : decode cX0_lastFrame 1 = .ok (.getfield 16, 3) := by decide +kernel
theorem dX0_lastFrame_4 : decode cX0_lastFrame 4 = .ok (.ifCond .le 26, 3) := by decide +kernel
theorem dX0_lastFrame_7 : decode cX0_lastFrame 7 = .ok (.aload_n 0, 1) := by decide +kernel
theorem dX0_lastFrame_8 : decode cX0_lastFrame 8 = .ok (.getfield 16, 3) := by decide +kernel
theorem dX0_lastFrame_11 : decode cX0_lastFrame 11 = .ok (.bipush 14, 2) := by decide +kernel
theorem dX0_lastFrame_13 : decode cX0_lastFrame 13 = .ok (.if_icmp .gt 17, 3) := by decide +kernel
theorem dX0_lastFrame_16 : decode cX0_lastFrame 16 = .ok (.aload_n 0, 1) := by decide +kernel
theorem dX0_lastFrame_17 : decode cX0_lastFrame 17 = .ok (.getfield 9, 3) := by decide +kernel
theorem dX0_lastFrame_20 : decode cX0_lastFrame 20 = .ok (.aload_n 0, 1) := by decide +kernel
theorem dX0_lastFrame_21 : decode cX0_lastFrame 21 = .ok (.getfield 16, 3) := by decide +kernel
theorem dX0_lastFrame_24 : decode cX0_lastFrame 24 = .ok (.iconst 1, 1) := by decide +kernel
theorem dX0_lastFrame_25 : decode cX0_lastFrame 25 = .ok (.isub, 1) := by decide +kernel
theorem dX0_lastFrame_26 : decode cX0_lastFrame 26 = .ok (.iaload, 1) := by decide +kernel
theorem dX0_lastFrame_27 : decode cX0_lastFrame 27 = .ok (.goto 4, 3) := by decide +kernel
theorem dX0_lastFrame_30 : decode cX0_lastFrame 30 = .ok (.iconst 0, 1) := by decide +kernel
theorem dX0_lastFrame_31 : decode cX0_lastFrame 31 = .ok (.ireturn, 1) := by decide +kernel
theorem dX0_lastRains_0 : decode cX0_lastRains 0 = .ok (.aload_n 0, 1) := by decide +kernel
theorem dX0_lastRains_1 : decode cX0_lastRains 1 = .ok (.getfield 16, 3) := by decide +kernel
theorem dX0_lastRains_4 : decode cX0_lastRains 4 = .ok (.ifCond .le 26, 3) := by decide +kernel
theorem dX0_lastRains_7 : decode cX0_lastRains 7 = .ok (.aload_n 0, 1) := by decide +kernel
theorem dX0_lastRains_8 : decode cX0_lastRains 8 = .ok (.getfield 16, 3) := by decide +kernel
theorem dX0_lastRains_11 : decode cX0_lastRains 11 = .ok (.bipush 14, 2) := by decide +kernel
theorem dX0_lastRains_13 : decode cX0_lastRains 13 = .ok (.if_icmp .gt 17, 3) := by decide +kernel
theorem dX0_lastRains_16 : decode cX0_lastRains 16 = .ok (.aload_n 0, 1) := by decide +kernel
theorem dX0_lastRains_17 : decode cX0_lastRains 17 = .ok (.getfield 13, 3) := by decide +kernel
theorem dX0_lastRains_20 : decode cX0_lastRains 20 = .ok (.aload_n 0, 1) := by decide +kernel
theorem dX0_lastRains_21 : decode cX0_lastRains 21 = .ok (.getfield 16, 3) := by decide +kernel
theorem dX0_lastRains_24 : decode cX0_lastRains 24 = .ok (.iconst 1, 1) := by decide +kernel
theorem dX0_lastRains_25 : decode cX0_lastRains 25 = .ok (.isub, 1) := by decide +kernel
theorem dX0_lastRains_26 : decode cX0_lastRains 26 = .ok (.iaload, 1) := by decide +kernel
theorem dX0_lastRains_27 : decode cX0_lastRains 27 = .ok (.goto 4, 3) := by decide +kernel
theorem dX0_lastRains_30 : decode cX0_lastRains 30 = .ok (.iconst 0, 1) := by decide +kernel
theorem dX0_lastRains_31 : decode cX0_lastRains 31 = .ok (.ireturn, 1) := by decide +kernel
theorem dX1_of_0 : decode cX1_of 0 = .ok (.iload_n 0, 1) := by decide +kernel
theorem dX1_of_1 : decode cX1_of 1 = .ok (.ldc 9, 2) := by decide +kernel
theorem dX1_of_3 : decode cX1_of 3 = .ok (.iand, 1) := by decide +kernel
theorem dX1_of_4 : decode cX1_of 4 = .ok (.iload_n 1, 1) := by decide +kernel
theorem dX1_of_5 : decode cX1_of 5 = .ok (.bipush 16, 2) := by decide +kernel
theorem dX1_of_7 : decode cX1_of 7 = .ok (.ishl, 1) := by decide +kernel
theorem dX1_of_8 : decode cX1_of 8 = .ok (.ior, 1) := by decide +kernel
theorem dX1_of_9 : decode cX1_of 9 = .ok (.ireturn, 1) := by decide +kernel
theorem dX1_poles_0 : decode cX1_poles 0 = .ok (.iload_n 0, 1) := by decide +kernel
theorem dX1_poles_1 : decode cX1_poles 1 = .ok (.ldc 9, 2) := by decide +kernel
theorem dX1_poles_3 : decode cX1_poles 3 = .ok (.iand, 1) := by decide +kernel
theorem dX1_poles_4 : decode cX1_poles 4 = .ok (.ireturn, 1) := by decide +kernel
theorem dX1_had_0 : decode cX1_had 0 = .ok (.iload_n 0, 1) := by decide +kernel
theorem dX1_had_1 : decode cX1_had 1 = .ok (.bipush 16, 2) := by decide +kernel
theorem dX1_had_3 : decode cX1_had 3 = .ok (.iushr, 1) := by decide +kernel
theorem dX1_had_4 : decode cX1_had 4 = .ok (.ireturn, 1) := by decide +kernel
theorem dX1_countHad_0 : decode cX1_countHad 0 = .ok (.iload_n 0, 1) := by decide +kernel
theorem dX1_countHad_1 : decode cX1_countHad 1 = .ok (.invokestatic 10, 3) := by decide +kernel
theorem dX1_countHad_4 : decode cX1_countHad 4 = .ok (.invokestatic 16, 3) := by decide +kernel
theorem dX1_countHad_7 : decode cX1_countHad 7 = .ok (.ireturn, 1) := by decide +kernel
theorem dX1_height_0 : decode cX1_height 0 = .ok (.iload_n 0, 1) := by decide +kernel
theorem dX1_height_1 : decode cX1_height 1 = .ok (.invokestatic 21, 3) := by decide +kernel
theorem dX1_height_4 : decode cX1_height 4 = .ok (.sipush 4369, 3) := by decide +kernel
theorem dX1_height_7 : decode cX1_height 7 = .ok (.iload_n 1, 1) := by decide +kernel
theorem dX1_height_8 : decode cX1_height 8 = .ok (.ishl, 1) := by decide +kernel
theorem dX1_height_9 : decode cX1_height 9 = .ok (.iand, 1) := by decide +kernel
theorem dX1_height_10 : decode cX1_height 10 = .ok (.invokestatic 16, 3) := by decide +kernel
theorem dX1_height_13 : decode cX1_height 13 = .ok (.ireturn, 1) := by decide +kernel
theorem dX1_cellBit_0 : decode cX1_cellBit 0 = .ok (.iconst 1, 1) := by decide +kernel
theorem dX1_cellBit_1 : decode cX1_cellBit 1 = .ok (.iconst 4, 1) := by decide +kernel
theorem dX1_cellBit_2 : decode cX1_cellBit 2 = .ok (.iload_n 1, 1) := by decide +kernel
theorem dX1_cellBit_3 : decode cX1_cellBit 3 = .ok (.imul, 1) := by decide +kernel
theorem dX1_cellBit_4 : decode cX1_cellBit 4 = .ok (.iload_n 0, 1) := by decide +kernel
theorem dX1_cellBit_5 : decode cX1_cellBit 5 = .ok (.iadd, 1) := by decide +kernel
theorem dX1_cellBit_6 : decode cX1_cellBit 6 = .ok (.ishl, 1) := by decide +kernel
theorem dX1_cellBit_7 : decode cX1_cellBit 7 = .ok (.ireturn, 1) := by decide +kernel
theorem dX2_init_0 : decode cX2_init 0 = .ok (.aload_n 0, 1) := by decide +kernel
theorem dX2_init_1 : decode cX2_init 1 = .ok (.invokespecial 3, 3) := by decide +kernel
theorem dX2_init_4 : decode cX2_init 4 = .ok (.aload_n 0, 1) := by decide +kernel
theorem dX2_init_5 : decode cX2_init 5 = .ok (.bipush 7, 2) := by decide +kernel
theorem dX2_init_7 : decode cX2_init 7 = .ok (.newarray .int, 2) := by decide +kernel
theorem dX2_init_9 : decode cX2_init 9 = .ok (.dup, 1) := by decide +kernel
theorem dX2_init_10 : decode cX2_init 10 = .ok (.iconst 0, 1) := by decide +kernel
theorem dX2_init_11 : decode cX2_init 11 = .ok (.bipush (-9), 2) := by decide +kernel
theorem dX2_init_13 : decode cX2_init 13 = .ok (.iastore, 1) := by decide +kernel
theorem dX2_init_14 : decode cX2_init 14 = .ok (.dup, 1) := by decide +kernel
theorem dX2_init_15 : decode cX2_init 15 = .ok (.iconst 1, 1) := by decide +kernel
theorem dX2_init_16 : decode cX2_init 16 = .ok (.bipush (-9), 2) := by decide +kernel
theorem dX2_init_18 : decode cX2_init 18 = .ok (.iastore, 1) := by decide +kernel
theorem dX2_init_19 : decode cX2_init 19 = .ok (.dup, 1) := by decide +kernel
theorem dX2_init_20 : decode cX2_init 20 = .ok (.iconst 2, 1) := by decide +kernel
theorem dX2_init_21 : decode cX2_init 21 = .ok (.bipush (-9), 2) := by decide +kernel
theorem dX2_init_23 : decode cX2_init 23 = .ok (.iastore, 1) := by decide +kernel
theorem dX2_init_24 : decode cX2_init 24 = .ok (.dup, 1) := by decide +kernel
theorem dX2_init_25 : decode cX2_init 25 = .ok (.iconst 3, 1) := by decide +kernel
theorem dX2_init_26 : decode cX2_init 26 = .ok (.bipush (-9), 2) := by decide +kernel
theorem dX2_init_28 : decode cX2_init 28 = .ok (.iastore, 1) := by decide +kernel
theorem dX2_init_29 : decode cX2_init 29 = .ok (.dup, 1) := by decide +kernel
theorem dX2_init_30 : decode cX2_init 30 = .ok (.iconst 4, 1) := by decide +kernel
theorem dX2_init_31 : decode cX2_init 31 = .ok (.bipush (-9), 2) := by decide +kernel
theorem dX2_init_33 : decode cX2_init 33 = .ok (.iastore, 1) := by decide +kernel
theorem dX2_init_34 : decode cX2_init 34 = .ok (.dup, 1) := by decide +kernel
theorem dX2_init_35 : decode cX2_init 35 = .ok (.iconst 5, 1) := by decide +kernel
theorem dX2_init_36 : decode cX2_init 36 = .ok (.bipush (-9), 2) := by decide +kernel
theorem dX2_init_38 : decode cX2_init 38 = .ok (.iastore, 1) := by decide +kernel
theorem dX2_init_39 : decode cX2_init 39 = .ok (.dup, 1) := by decide +kernel
theorem dX2_init_40 : decode cX2_init 40 = .ok (.bipush 6, 2) := by decide +kernel
theorem dX2_init_42 : decode cX2_init 42 = .ok (.bipush (-9), 2) := by decide +kernel
theorem dX2_init_44 : decode cX2_init 44 = .ok (.iastore, 1) := by decide +kernel
theorem dX2_init_45 : decode cX2_init 45 = .ok (.putfield 9, 3) := by decide +kernel
theorem dX2_init_48 : decode cX2_init 48 = .ok (.aload_n 0, 1) := by decide +kernel
theorem dX2_init_49 : decode cX2_init 49 = .ok (.bipush 7, 2) := by decide +kernel
theorem dX2_init_51 : decode cX2_init 51 = .ok (.newarray .int, 2) := by decide +kernel
theorem dX2_init_53 : decode cX2_init 53 = .ok (.putfield 15, 3) := by decide +kernel
theorem dX2_init_56 : decode cX2_init 56 = .ok (.aload_n 0, 1) := by decide +kernel
theorem dX2_init_57 : decode cX2_init 57 = .ok (.iconst 0, 1) := by decide +kernel
theorem dX2_init_58 : decode cX2_init 58 = .ok (.putfield 18, 3) := by decide +kernel
theorem dX2_init_61 : decode cX2_init 61 = .ok (.aload_n 0, 1) := by decide +kernel
theorem dX2_init_62 : decode cX2_init 62 = .ok (.iconst 0, 1) := by decide +kernel
theorem dX2_init_63 : decode cX2_init 63 = .ok (.putfield 22, 3) := by decide +kernel
theorem dX2_init_66 : decode cX2_init 66 = .ok (.aload_n 0, 1) := by decide +kernel
theorem dX2_init_67 : decode cX2_init 67 = .ok (.iconst 0, 1) := by decide +kernel
theorem dX2_init_68 : decode cX2_init 68 = .ok (.putfield 25, 3) := by decide +kernel
theorem dX2_init_71 : decode cX2_init 71 = .ok (.aload_n 0, 1) := by decide +kernel
theorem dX2_init_72 : decode cX2_init 72 = .ok (.iconst 0, 1) := by decide +kernel
theorem dX2_init_73 : decode cX2_init 73 = .ok (.putfield 28, 3) := by decide +kernel
theorem dX2_init_76 : decode cX2_init 76 = .ok (.aload_n 0, 1) := by decide +kernel
theorem dX2_init_77 : decode cX2_init 77 = .ok (.iconst 0, 1) := by decide +kernel
theorem dX2_init_78 : decode cX2_init 78 = .ok (.putfield 31, 3) := by decide +kernel
theorem dX2_init_81 : decode cX2_init 81 = .ok (.aload_n 0, 1) := by decide +kernel
theorem dX2_init_82 : decode cX2_init 82 = .ok (.iconst 0, 1) := by decide +kernel
theorem dX2_init_83 : decode cX2_init 83 = .ok (.putfield 34, 3) := by decide +kernel
theorem dX2_init_86 : decode cX2_init 86 = .ok (.return_, 1) := by decide +kernel
theorem dX2_learn_0 : decode cX2_learn 0 = .ok (.aload_n 0, 1) := by decide +kernel
theorem dX2_learn_1 : decode cX2_learn 1 = .ok (.aload_n 1, 1) := by decide +kernel
theorem dX2_learn_2 : decode cX2_learn 2 = .ok (.iconst 1, 1) := by decide +kernel
theorem dX2_learn_3 : decode cX2_learn 3 = .ok (.invokevirtual 37, 3) := by decide +kernel
theorem dX2_learn_6 : decode cX2_learn 6 = .ok (.bipush 48, 2) := by decide +kernel
theorem dX2_learn_8 : decode cX2_learn 8 = .ok (.isub, 1) := by decide +kernel
theorem dX2_learn_9 : decode cX2_learn 9 = .ok (.putfield 18, 3) := by decide +kernel
theorem dX2_learn_12 : decode cX2_learn 12 = .ok (.aload_n 0, 1) := by decide +kernel
theorem dX2_learn_13 : decode cX2_learn 13 = .ok (.aload_n 1, 1) := by decide +kernel
theorem dX2_learn_14 : decode cX2_learn 14 = .ok (.invokevirtual 43, 3) := by decide +kernel
theorem dX2_learn_17 : decode cX2_learn 17 = .ok (.bipush 7, 2) := by decide +kernel
theorem dX2_learn_19 : decode cX2_learn 19 = .ok (.invokestatic 46, 3) := by decide +kernel
theorem dX2_learn_22 : decode cX2_learn 22 = .ok (.putfield 22, 3) := by decide +kernel
theorem dX2_learn_25 : decode cX2_learn 25 = .ok (.iconst 0, 1) := by decide +kernel
theorem dX2_learn_26 : decode cX2_learn 26 = .ok (.istore_n 2, 1) := by decide +kernel
theorem dX2_learn_27 : decode cX2_learn 27 = .ok (.iload_n 2, 1) := by decide +kernel
theorem dX2_learn_28 : decode cX2_learn 28 = .ok (.bipush 7, 2) := by decide +kernel
theorem dX2_learn_30 : decode cX2_learn 30 = .ok (.if_icmp .ge 62, 3) := by decide +kernel
theorem dX2_learn_33 : decode cX2_learn 33 = .ok (.iload_n 2, 1) := by decide +kernel
theorem dX2_learn_34 : decode cX2_learn 34 = .ok (.aload_n 0, 1) := by decide +kernel
theorem dX2_learn_35 : decode cX2_learn 35 = .ok (.getfield 22, 3) := by decide +kernel
theorem dX2_learn_38 : decode cX2_learn 38 = .ok (.if_icmp .ge 7, 3) := by decide +kernel
theorem dX2_learn_41 : decode cX2_learn 41 = .ok (.iconst 1, 1) := by decide +kernel
theorem dX2_learn_42 : decode cX2_learn 42 = .ok (.goto 4, 3) := by decide +kernel
theorem dX2_learn_45 : decode cX2_learn 45 = .ok (.iconst 0, 1) := by decide +kernel
theorem dX2_learn_46 : decode cX2_learn 46 = .ok (.istore_n 3, 1) := by decide +kernel
theorem dX2_learn_47 : decode cX2_learn 47 = .ok (.aload_n 0, 1) := by decide +kernel
theorem dX2_learn_48 : decode cX2_learn 48 = .ok (.getfield 9, 3) := by decide +kernel
theorem dX2_learn_51 : decode cX2_learn 51 = .ok (.iload_n 2, 1) := by decide +kernel
theorem dX2_learn_52 : decode cX2_learn 52 = .ok (.iload_n 3, 1) := by decide +kernel
theorem dX2_learn_53 : decode cX2_learn 53 = .ok (.ifCond .eq 11, 3) := by decide +kernel
theorem dX2_learn_56 : decode cX2_learn 56 = .ok (.aload_n 1, 1) := by decide +kernel
theorem dX2_learn_57 : decode cX2_learn 57 = .ok (.iload_n 2, 1) := by decide +kernel
theorem dX2_learn_58 : decode cX2_learn 58 = .ok (.invokevirtual 52, 3) := by decide +kernel
theorem dX2_learn_61 : decode cX2_learn 61 = .ok (.goto 5, 3) := by decide +kernel
theorem dX2_learn_64 : decode cX2_learn 64 = .ok (.bipush (-9), 2) := by decide +kernel
theorem dX2_learn_66 : decode cX2_learn 66 = .ok (.iastore, 1) := by decide +kernel
theorem dX2_learn_67 : decode cX2_learn 67 = .ok (.aload_n 0, 1) := by decide +kernel
theorem dX2_learn_68 : decode cX2_learn 68 = .ok (.getfield 15, 3) := by decide +kernel
theorem dX2_learn_71 : decode cX2_learn 71 = .ok (.iload_n 2, 1) := by decide +kernel
theorem dX2_learn_72 : decode cX2_learn 72 = .ok (.iload_n 3, 1) := by decide +kernel
theorem dX2_learn_73 : decode cX2_learn 73 = .ok (.ifCond .eq 11, 3) := by decide +kernel
theorem dX2_learn_76 : decode cX2_learn 76 = .ok (.aload_n 1, 1) := by decide +kernel
theorem dX2_learn_77 : decode cX2_learn 77 = .ok (.iload_n 2, 1) := by decide +kernel
theorem dX2_learn_78 : decode cX2_learn 78 = .ok (.invokevirtual 55, 3) := by decide +kernel
theorem dX2_learn_81 : decode cX2_learn 81 = .ok (.goto 4, 3) := by decide +kernel
theorem dX2_learn_84 : decode cX2_learn 84 = .ok (.iconst 0, 1) := by decide +kernel
theorem dX2_learn_85 : decode cX2_learn 85 = .ok (.iastore, 1) := by decide +kernel
theorem dX2_learn_86 : decode cX2_learn 86 = .ok (.iinc 2 1, 3) := by decide +kernel
theorem dX2_learn_89 : decode cX2_learn 89 = .ok (.goto (-62), 3) := by decide +kernel
theorem dX2_learn_92 : decode cX2_learn 92 = .ok (.aload_n 0, 1) := by decide +kernel
theorem dX2_learn_93 : decode cX2_learn 93 = .ok (.aload_n 0, 1) := by decide +kernel
theorem dX2_learn_94 : decode cX2_learn 94 = .ok (.iconst 0, 1) := by decide +kernel
theorem dX2_learn_95 : decode cX2_learn 95 = .ok (.invokevirtual 58, 3) := by decide +kernel
theorem dX2_learn_98 : decode cX2_learn 98 = .ok (.putfield 25, 3) := by decide +kernel
theorem dX2_learn_101 : decode cX2_learn 101 = .ok (.aload_n 0, 1) := by decide +kernel
theorem dX2_learn_102 : decode cX2_learn 102 = .ok (.aload_n 0, 1) := by decide +kernel
theorem dX2_learn_103 : decode cX2_learn 103 = .ok (.iconst 1, 1) := by decide +kernel
theorem dX2_learn_104 : decode cX2_learn 104 = .ok (.invokevirtual 58, 3) := by decide +kernel
theorem dX2_learn_107 : decode cX2_learn 107 = .ok (.putfield 28, 3) := by decide +kernel
theorem dX2_learn_110 : decode cX2_learn 110 = .ok (.aload_n 0, 1) := by decide +kernel
theorem dX2_learn_111 : decode cX2_learn 111 = .ok (.aload_n 0, 1) := by decide +kernel
theorem dX2_learn_112 : decode cX2_learn 112 = .ok (.iconst 2, 1) := by decide +kernel
theorem dX2_learn_113 : decode cX2_learn 113 = .ok (.invokevirtual 58, 3) := by decide +kernel
theorem dX2_learn_116 : decode cX2_learn 116 = .ok (.putfield 31, 3) := by decide +kernel
theorem dX2_learn_119 : decode cX2_learn 119 = .ok (.aload_n 0, 1) := by decide +kernel
theorem dX2_learn_120 : decode cX2_learn 120 = .ok (.aload_n 0, 1) := by decide +kernel
theorem dX2_learn_121 : decode cX2_learn 121 = .ok (.iconst 3, 1) := by decide +kernel
theorem dX2_learn_122 : decode cX2_learn 122 = .ok (.invokevirtual 58, 3) := by decide +kernel
theorem dX2_learn_125 : decode cX2_learn 125 = .ok (.putfield 34, 3) := by decide +kernel
theorem dX2_learn_128 : decode cX2_learn 128 = .ok (.return_, 1) := by decide +kernel
theorem dX2_cellsOfKind_0 : decode cX2_cellsOfKind 0 = .ok (.iconst 0, 1) := by decide +kernel
theorem dX2_cellsOfKind_1 : decode cX2_cellsOfKind 1 = .ok (.istore_n 2, 1) := by decide +kernel
theorem dX2_cellsOfKind_2 : decode cX2_cellsOfKind 2 = .ok (.iconst 0, 1) := by decide +kernel
theorem dX2_cellsOfKind_3 : decode cX2_cellsOfKind 3 = .ok (.istore_n 3, 1) := by decide +kernel
theorem dX2_cellsOfKind_4 : decode cX2_cellsOfKind 4 = .ok (.iload_n 3, 1) := by decide +kernel
theorem dX2_cellsOfKind_5 : decode cX2_cellsOfKind 5 = .ok (.bipush 7, 2) := by decide +kernel
theorem dX2_cellsOfKind_7 : decode cX2_cellsOfKind 7 = .ok (.if_icmp .ge 41, 3) := by decide +kernel
theorem dX2_cellsOfKind_10 : decode cX2_cellsOfKind 10 = .ok (.aload_n 0, 1) := by decide +kernel
theorem dX2_cellsOfKind_11 : decode cX2_cellsOfKind 11 = .ok (.getfield 15, 3) := by decide +kernel
theorem dX2_cellsOfKind_14 : decode cX2_cellsOfKind 14 = .ok (.iload_n 3, 1) := by decide +kernel
theorem dX2_cellsOfKind_15 : decode cX2_cellsOfKind 15 = .ok (.iaload, 1) := by decide +kernel
theorem dX2_cellsOfKind_16 : decode cX2_cellsOfKind 16 = .ok (.iload_n 1, 1) := by decide +kernel
theorem dX2_cellsOfKind_17 : decode cX2_cellsOfKind 17 = .ok (.if_icmp .ne 25, 3) := by decide +kernel
theorem dX2_cellsOfKind_20 : decode cX2_cellsOfKind 20 = .ok (.aload_n 0, 1) := by decide +kernel
theorem dX2_cellsOfKind_21 : decode cX2_cellsOfKind 21 = .ok (.getfield 9, 3) := by decide +kernel
theorem dX2_cellsOfKind_24 : decode cX2_cellsOfKind 24 = .ok (.iload_n 3, 1) := by decide +kernel
theorem dX2_cellsOfKind_25 : decode cX2_cellsOfKind 25 = .ok (.iaload, 1) := by decide +kernel
theorem dX2_cellsOfKind_26 : decode cX2_cellsOfKind 26 = .ok (.bipush (-9), 2) := by decide +kernel
theorem dX2_cellsOfKind_28 : decode cX2_cellsOfKind 28 = .ok (.if_icmp .eq 14, 3) := by decide +kernel
theorem dX2_cellsOfKind_31 : decode cX2_cellsOfKind 31 = .ok (.iload_n 2, 1) := by decide +kernel
theorem dX2_cellsOfKind_32 : decode cX2_cellsOfKind 32 = .ok (.iconst 1, 1) := by decide +kernel
theorem dX2_cellsOfKind_33 : decode cX2_cellsOfKind 33 = .ok (.aload_n 0, 1) := by decide +kernel
theorem dX2_cellsOfKind_34 : decode cX2_cellsOfKind 34 = .ok (.getfield 9, 3) := by decide +kernel
theorem dX2_cellsOfKind_37 : decode cX2_cellsOfKind 37 = .ok (.iload_n 3, 1) := by decide +kernel
theorem dX2_cellsOfKind_38 : decode cX2_cellsOfKind 38 = .ok (.iaload, 1) := by decide +kernel
theorem dX2_cellsOfKind_39 : decode cX2_cellsOfKind 39 = .ok (.ishl, 1) := by decide +kernel
theorem dX2_cellsOfKind_40 : decode cX2_cellsOfKind 40 = .ok (.ior, 1) := by decide +kernel
theorem dX2_cellsOfKind_41 : decode cX2_cellsOfKind 41 = .ok (.istore_n 2, 1) := by decide +kernel
theorem dX2_cellsOfKind_42 : decode cX2_cellsOfKind 42 = .ok (.iinc 3 1, 3) := by decide +kernel
theorem dX2_cellsOfKind_45 : decode cX2_cellsOfKind 45 = .ok (.goto (-41), 3) := by decide +kernel
theorem dX2_cellsOfKind_48 : decode cX2_cellsOfKind 48 = .ok (.iload_n 2, 1) := by decide +kernel
theorem dX2_cellsOfKind_49 : decode cX2_cellsOfKind 49 = .ok (.ireturn, 1) := by decide +kernel
theorem dX2_isPart_0 : decode cX2_isPart 0 = .ok (.iload_n 1, 1) := by decide +kernel
theorem dX2_isPart_1 : decode cX2_isPart 1 = .ok (.ifCond .lt 21, 3) := by decide +kernel
theorem dX2_isPart_4 : decode cX2_isPart 4 = .ok (.iload_n 1, 1) := by decide +kernel
theorem dX2_isPart_5 : decode cX2_isPart 5 = .ok (.aload_n 0, 1) := by decide +kernel
theorem dX2_isPart_6 : decode cX2_isPart 6 = .ok (.getfield 22, 3) := by decide +kernel
theorem dX2_isPart_9 : decode cX2_isPart 9 = .ok (.if_icmp .ge 13, 3) := by decide +kernel
theorem dX2_isPart_12 : decode cX2_isPart 12 = .ok (.iload_n 1, 1) := by decide +kernel
theorem dX2_isPart_13 : decode cX2_isPart 13 = .ok (.bipush 7, 2) := by decide +kernel
theorem dX2_isPart_15 : decode cX2_isPart 15 = .ok (.if_icmp .ge 7, 3) := by decide +kernel
theorem dX2_isPart_18 : decode cX2_isPart 18 = .ok (.iconst 1, 1) := by decide +kernel
theorem dX2_isPart_19 : decode cX2_isPart 19 = .ok (.goto 4, 3) := by decide +kernel
theorem dX2_isPart_22 : decode cX2_isPart 22 = .ok (.iconst 0, 1) := by decide +kernel
theorem dX2_isPart_23 : decode cX2_isPart 23 = .ok (.ireturn, 1) := by decide +kernel
theorem dX2_cellOf_0 : decode cX2_cellOf 0 = .ok (.aload_n 0, 1) := by decide +kernel
theorem dX2_cellOf_1 : decode cX2_cellOf 1 = .ok (.iload_n 1, 1) := by decide +kernel
theorem dX2_cellOf_2 : decode cX2_cellOf 2 = .ok (.invokevirtual 61, 3) := by decide +kernel
theorem dX2_cellOf_5 : decode cX2_cellOf 5 = .ok (.ifCond .eq 12, 3) := by decide +kernel
theorem dX2_cellOf_8 : decode cX2_cellOf 8 = .ok (.aload_n 0, 1) := by decide +kernel
theorem dX2_cellOf_9 : decode cX2_cellOf 9 = .ok (.getfield 9, 3) := by decide +kernel
theorem dX2_cellOf_12 : decode cX2_cellOf 12 = .ok (.iload_n 1, 1) := by decide +kernel
theorem dX2_cellOf_13 : decode cX2_cellOf 13 = .ok (.iaload, 1) := by decide +kernel
theorem dX2_cellOf_14 : decode cX2_cellOf 14 = .ok (.goto 5, 3) := by decide +kernel
theorem dX2_cellOf_17 : decode cX2_cellOf 17 = .ok (.bipush (-9), 2) := by decide +kernel
theorem dX2_cellOf_19 : decode cX2_cellOf 19 = .ok (.ireturn, 1) := by decide +kernel
theorem dX2_kindOf_0 : decode cX2_kindOf 0 = .ok (.aload_n 0, 1) := by decide +kernel
theorem dX2_kindOf_1 : decode cX2_kindOf 1 = .ok (.iload_n 1, 1) := by decide +kernel
theorem dX2_kindOf_2 : decode cX2_kindOf 2 = .ok (.invokevirtual 61, 3) := by decide +kernel
theorem dX2_kindOf_5 : decode cX2_kindOf 5 = .ok (.ifCond .eq 12, 3) := by decide +kernel
theorem dX2_kindOf_8 : decode cX2_kindOf 8 = .ok (.aload_n 0, 1) := by decide +kernel
theorem dX2_kindOf_9 : decode cX2_kindOf 9 = .ok (.getfield 15, 3) := by decide +kernel
theorem dX2_kindOf_12 : decode cX2_kindOf 12 = .ok (.iload_n 1, 1) := by decide +kernel
theorem dX2_kindOf_13 : decode cX2_kindOf 13 = .ok (.iaload, 1) := by decide +kernel
theorem dX2_kindOf_14 : decode cX2_kindOf 14 = .ok (.goto 5, 3) := by decide +kernel
theorem dX2_kindOf_17 : decode cX2_kindOf 17 = .ok (.bipush (-9), 2) := by decide +kernel
theorem dX2_kindOf_19 : decode cX2_kindOf 19 = .ok (.ireturn, 1) := by decide +kernel
theorem dX2_partIn_0 : decode cX2_partIn 0 = .ok (.iconst 0, 1) := by decide +kernel
theorem dX2_partIn_1 : decode cX2_partIn 1 = .ok (.istore_n 2, 1) := by decide +kernel
theorem dX2_partIn_2 : decode cX2_partIn 2 = .ok (.iload_n 2, 1) := by decide +kernel
theorem dX2_partIn_3 : decode cX2_partIn 3 = .ok (.bipush 7, 2) := by decide +kernel
theorem dX2_partIn_5 : decode cX2_partIn 5 = .ok (.if_icmp .ge 21, 3) := by decide +kernel
theorem dX2_partIn_8 : decode cX2_partIn 8 = .ok (.aload_n 0, 1) := by decide +kernel
theorem dX2_partIn_9 : decode cX2_partIn 9 = .ok (.getfield 9, 3) := by decide +kernel
theorem dX2_partIn_12 : decode cX2_partIn 12 = .ok (.iload_n 2, 1) := by decide +kernel
theorem dX2_partIn_13 : decode cX2_partIn 13 = .ok (.iaload, 1) := by decide +kernel
theorem dX2_partIn_14 : decode cX2_partIn 14 = .ok (.iload_n 1, 1) := by decide +kernel
theorem dX2_partIn_15 : decode cX2_partIn 15 = .ok (.if_icmp .ne 5, 3) := by decide +kernel
theorem dX2_partIn_18 : decode cX2_partIn 18 = .ok (.iload_n 2, 1) := by decide +kernel
theorem dX2_partIn_19 : decode cX2_partIn 19 = .ok (.ireturn, 1) := by decide +kernel
theorem dX2_partIn_20 : decode cX2_partIn 20 = .ok (.iinc 2 1, 3) := by decide +kernel
theorem dX2_partIn_23 : decode cX2_partIn 23 = .ok (.goto (-21), 3) := by decide +kernel
theorem dX2_partIn_26 : decode cX2_partIn 26 = .ok (.bipush (-9), 2) := by decide +kernel
theorem dX2_partIn_28 : decode cX2_partIn 28 = .ok (.ireturn, 1) := by decide +kernel
theorem dX2_partsAt_0 : decode cX2_partsAt 0 = .ok (.iconst 0, 1) := by decide +kernel
theorem dX2_partsAt_1 : decode cX2_partsAt 1 = .ok (.istore_n 2, 1) := by decide +kernel
theorem dX2_partsAt_2 : decode cX2_partsAt 2 = .ok (.iconst 0, 1) := by decide +kernel
theorem dX2_partsAt_3 : decode cX2_partsAt 3 = .ok (.istore_n 3, 1) := by decide +kernel
theorem dX2_partsAt_4 : decode cX2_partsAt 4 = .ok (.iload_n 3, 1) := by decide +kernel
theorem dX2_partsAt_5 : decode cX2_partsAt 5 = .ok (.bipush 7, 2) := by decide +kernel
theorem dX2_partsAt_7 : decode cX2_partsAt 7 = .ok (.if_icmp .ge 40, 3) := by decide +kernel
theorem dX2_partsAt_10 : decode cX2_partsAt 10 = .ok (.aload_n 0, 1) := by decide +kernel
theorem dX2_partsAt_11 : decode cX2_partsAt 11 = .ok (.getfield 9, 3) := by decide +kernel
theorem dX2_partsAt_14 : decode cX2_partsAt 14 = .ok (.iload_n 3, 1) := by decide +kernel
theorem dX2_partsAt_15 : decode cX2_partsAt 15 = .ok (.iaload, 1) := by decide +kernel
theorem dX2_partsAt_16 : decode cX2_partsAt 16 = .ok (.bipush (-9), 2) := by decide +kernel
theorem dX2_partsAt_18 : decode cX2_partsAt 18 = .ok (.if_icmp .eq 23, 3) := by decide +kernel
theorem dX2_partsAt_21 : decode cX2_partsAt 21 = .ok (.iload_n 1, 1) := by decide +kernel
theorem dX2_partsAt_22 : decode cX2_partsAt 22 = .ok (.aload_n 0, 1) := by decide +kernel
theorem dX2_partsAt_23 : decode cX2_partsAt 23 = .ok (.getfield 9, 3) := by decide +kernel
theorem dX2_partsAt_26 : decode cX2_partsAt 26 = .ok (.iload_n 3, 1) := by decide +kernel
theorem dX2_partsAt_27 : decode cX2_partsAt 27 = .ok (.iaload, 1) := by decide +kernel
theorem dX2_partsAt_28 : decode cX2_partsAt 28 = .ok (.ishr, 1) := by decide +kernel
theorem dX2_partsAt_29 : decode cX2_partsAt 29 = .ok (.iconst 1, 1) := by decide +kernel
theorem dX2_partsAt_30 : decode cX2_partsAt 30 = .ok (.iand, 1) := by decide +kernel
theorem dX2_partsAt_31 : decode cX2_partsAt 31 = .ok (.iconst 1, 1) := by decide +kernel
theorem dX2_partsAt_32 : decode cX2_partsAt 32 = .ok (.if_icmp .ne 9, 3) := by decide +kernel
theorem dX2_partsAt_35 : decode cX2_partsAt 35 = .ok (.iload_n 2, 1) := by decide +kernel
theorem dX2_partsAt_36 : decode cX2_partsAt 36 = .ok (.iconst 1, 1) := by decide +kernel
theorem dX2_partsAt_37 : decode cX2_partsAt 37 = .ok (.iload_n 3, 1) := by decide +kernel
theorem dX2_partsAt_38 : decode cX2_partsAt 38 = .ok (.ishl, 1) := by decide +kernel
theorem dX2_partsAt_39 : decode cX2_partsAt 39 = .ok (.ior, 1) := by decide +kernel
theorem dX2_partsAt_40 : decode cX2_partsAt 40 = .ok (.istore_n 2, 1) := by decide +kernel
theorem dX2_partsAt_41 : decode cX2_partsAt 41 = .ok (.iinc 3 1, 3) := by decide +kernel
theorem dX2_partsAt_44 : decode cX2_partsAt 44 = .ok (.goto (-40), 3) := by decide +kernel
theorem dX2_partsAt_47 : decode cX2_partsAt 47 = .ok (.iload_n 2, 1) := by decide +kernel
theorem dX2_partsAt_48 : decode cX2_partsAt 48 = .ok (.ireturn, 1) := by decide +kernel
theorem dX2_cellsOf_0 : decode cX2_cellsOf 0 = .ok (.iconst 0, 1) := by decide +kernel
theorem dX2_cellsOf_1 : decode cX2_cellsOf 1 = .ok (.istore_n 2, 1) := by decide +kernel
theorem dX2_cellsOf_2 : decode cX2_cellsOf 2 = .ok (.iconst 0, 1) := by decide +kernel
theorem dX2_cellsOf_3 : decode cX2_cellsOf 3 = .ok (.istore_n 3, 1) := by decide +kernel
theorem dX2_cellsOf_4 : decode cX2_cellsOf 4 = .ok (.iload_n 3, 1) := by decide +kernel
theorem dX2_cellsOf_5 : decode cX2_cellsOf 5 = .ok (.bipush 7, 2) := by decide +kernel
theorem dX2_cellsOf_7 : decode cX2_cellsOf 7 = .ok (.if_icmp .ge 40, 3) := by decide +kernel
theorem dX2_cellsOf_10 : decode cX2_cellsOf 10 = .ok (.aload_n 0, 1) := by decide +kernel
theorem dX2_cellsOf_11 : decode cX2_cellsOf 11 = .ok (.getfield 9, 3) := by decide +kernel
theorem dX2_cellsOf_14 : decode cX2_cellsOf 14 = .ok (.iload_n 3, 1) := by decide +kernel
theorem dX2_cellsOf_15 : decode cX2_cellsOf 15 = .ok (.iaload, 1) := by decide +kernel
theorem dX2_cellsOf_16 : decode cX2_cellsOf 16 = .ok (.bipush (-9), 2) := by decide +kernel
theorem dX2_cellsOf_18 : decode cX2_cellsOf 18 = .ok (.if_icmp .eq 23, 3) := by decide +kernel
theorem dX2_cellsOf_21 : decode cX2_cellsOf 21 = .ok (.iload_n 1, 1) := by decide +kernel
theorem dX2_cellsOf_22 : decode cX2_cellsOf 22 = .ok (.iload_n 3, 1) := by decide +kernel
theorem dX2_cellsOf_23 : decode cX2_cellsOf 23 = .ok (.ishr, 1) := by decide +kernel
theorem dX2_cellsOf_24 : decode cX2_cellsOf 24 = .ok (.iconst 1, 1) := by decide +kernel
theorem dX2_cellsOf_25 : decode cX2_cellsOf 25 = .ok (.iand, 1) := by decide +kernel
theorem dX2_cellsOf_26 : decode cX2_cellsOf 26 = .ok (.iconst 1, 1) := by decide +kernel
theorem dX2_cellsOf_27 : decode cX2_cellsOf 27 = .ok (.if_icmp .ne 14, 3) := by decide +kernel
theorem dX2_cellsOf_30 : decode cX2_cellsOf 30 = .ok (.iload_n 2, 1) := by decide +kernel
theorem dX2_cellsOf_31 : decode cX2_cellsOf 31 = .ok (.iconst 1, 1) := by decide +kernel
theorem dX2_cellsOf_32 : decode cX2_cellsOf 32 = .ok (.aload_n 0, 1) := by decide +kernel
theorem dX2_cellsOf_33 : decode cX2_cellsOf 33 = .ok (.getfield 9, 3) := by decide +kernel
theorem dX2_cellsOf_36 : decode cX2_cellsOf 36 = .ok (.iload_n 3, 1) := by decide +kernel
theorem dX2_cellsOf_37 : decode cX2_cellsOf 37 = .ok (.iaload, 1) := by decide +kernel
theorem dX2_cellsOf_38 : decode cX2_cellsOf 38 = .ok (.ishl, 1) := by decide +kernel
theorem dX2_cellsOf_39 : decode cX2_cellsOf 39 = .ok (.ior, 1) := by decide +kernel
theorem dX2_cellsOf_40 : decode cX2_cellsOf 40 = .ok (.istore_n 2, 1) := by decide +kernel
theorem dX2_cellsOf_41 : decode cX2_cellsOf 41 = .ok (.iinc 3 1, 3) := by decide +kernel
theorem dX2_cellsOf_44 : decode cX2_cellsOf 44 = .ok (.goto (-40), 3) := by decide +kernel
theorem dX2_cellsOf_47 : decode cX2_cellsOf 47 = .ok (.iload_n 2, 1) := by decide +kernel
theorem dX2_cellsOf_48 : decode cX2_cellsOf 48 = .ok (.ireturn, 1) := by decide +kernel
theorem dX2_store_0 : decode cX2_store 0 = .ok (.aload_n 0, 1) := by decide +kernel
theorem dX2_store_1 : decode cX2_store 1 = .ok (.getfield 18, 3) := by decide +kernel
theorem dX2_store_4 : decode cX2_store 4 = .ok (.iload_n 1, 1) := by decide +kernel
theorem dX2_store_5 : decode cX2_store 5 = .ok (.invokestatic 65, 3) := by decide +kernel
theorem dX2_store_8 : decode cX2_store 8 = .ok (.invokestatic 69, 3) := by decide +kernel
theorem dX2_store_11 : decode cX2_store 11 = .ok (.isub, 1) := by decide +kernel
theorem dX2_store_12 : decode cX2_store 12 = .ok (.ireturn, 1) := by decide +kernel
theorem dX2_canPut_0 : decode cX2_canPut 0 = .ok (.aload_n 0, 1) := by decide +kernel
theorem dX2_canPut_1 : decode cX2_canPut 1 = .ok (.iload_n 1, 1) := by decide +kernel
theorem dX2_canPut_2 : decode cX2_canPut 2 = .ok (.invokevirtual 74, 3) := by decide +kernel
theorem dX2_canPut_5 : decode cX2_canPut 5 = .ok (.ifCond .le 16, 3) := by decide +kernel
theorem dX2_canPut_8 : decode cX2_canPut 8 = .ok (.iload_n 1, 1) := by decide +kernel
theorem dX2_canPut_9 : decode cX2_canPut 9 = .ok (.iload_n 2, 1) := by decide +kernel
theorem dX2_canPut_10 : decode cX2_canPut 10 = .ok (.invokestatic 77, 3) := by decide +kernel
theorem dX2_canPut_13 : decode cX2_canPut 13 = .ok (.iconst 4, 1) := by decide +kernel
theorem dX2_canPut_14 : decode cX2_canPut 14 = .ok (.if_icmp .ge 7, 3) := by decide +kernel
theorem dX2_canPut_17 : decode cX2_canPut 17 = .ok (.iconst 1, 1) := by decide +kernel
theorem dX2_canPut_18 : decode cX2_canPut 18 = .ok (.goto 4, 3) := by decide +kernel
theorem dX2_canPut_21 : decode cX2_canPut 21 = .ok (.iconst 0, 1) := by decide +kernel
theorem dX2_canPut_22 : decode cX2_canPut 22 = .ok (.ireturn, 1) := by decide +kernel
theorem dX2_canStrike_0 : decode cX2_canStrike 0 = .ok (.iload_n 1, 1) := by decide +kernel
theorem dX2_canStrike_1 : decode cX2_canStrike 1 = .ok (.iload_n 2, 1) := by decide +kernel
theorem dX2_canStrike_2 : decode cX2_canStrike 2 = .ok (.invokestatic 77, 3) := by decide +kernel
theorem dX2_canStrike_5 : decode cX2_canStrike 5 = .ok (.ifCond .le 7, 3) := by decide +kernel
theorem dX2_canStrike_8 : decode cX2_canStrike 8 = .ok (.iconst 1, 1) := by decide +kernel
theorem dX2_canStrike_9 : decode cX2_canStrike 9 = .ok (.goto 4, 3) := by decide +kernel
theorem dX2_canStrike_12 : decode cX2_canStrike 12 = .ok (.iconst 0, 1) := by decide +kernel
theorem dX2_canStrike_13 : decode cX2_canStrike 13 = .ok (.ireturn, 1) := by decide +kernel
theorem dX2_withPut_0 : decode cX2_withPut 0 = .ok (.iload_n 2, 1) := by decide +kernel
theorem dX2_withPut_1 : decode cX2_withPut 1 = .ok (.iload_n 1, 1) := by decide +kernel
theorem dX2_withPut_2 : decode cX2_withPut 2 = .ok (.iload_n 2, 1) := by decide +kernel
theorem dX2_withPut_3 : decode cX2_withPut 3 = .ok (.invokestatic 77, 3) := by decide +kernel
theorem dX2_withPut_6 : decode cX2_withPut 6 = .ok (.invokestatic 80, 3) := by decide +kernel
theorem dX2_withPut_9 : decode cX2_withPut 9 = .ok (.istore_n 3, 1) := by decide +kernel
theorem dX2_withPut_10 : decode cX2_withPut 10 = .ok (.aload_n 0, 1) := by decide +kernel
theorem dX2_withPut_11 : decode cX2_withPut 11 = .ok (.getfield 25, 3) := by decide +kernel
theorem dX2_withPut_14 : decode cX2_withPut 14 = .ok (.aload_n 0, 1) := by decide +kernel
theorem dX2_withPut_15 : decode cX2_withPut 15 = .ok (.getfield 28, 3) := by decide +kernel
theorem dX2_withPut_18 : decode cX2_withPut 18 = .ok (.ior, 1) := by decide +kernel
theorem dX2_withPut_19 : decode cX2_withPut 19 = .ok (.aload_n 0, 1) := by decide +kernel
theorem dX2_withPut_20 : decode cX2_withPut 20 = .ok (.getfield 31, 3) := by decide +kernel
theorem dX2_withPut_23 : decode cX2_withPut 23 = .ok (.ior, 1) := by decide +kernel
theorem dX2_withPut_24 : decode cX2_withPut 24 = .ok (.aload_n 0, 1) := by decide +kernel
theorem dX2_withPut_25 : decode cX2_withPut 25 = .ok (.getfield 34, 3) := by decide +kernel
theorem dX2_withPut_28 : decode cX2_withPut 28 = .ok (.ior, 1) := by decide +kernel
theorem dX2_withPut_29 : decode cX2_withPut 29 = .ok (.istore 4, 2) := by decide +kernel
theorem dX2_withPut_31 : decode cX2_withPut 31 = .ok (.iload_n 1, 1) := by decide +kernel
theorem dX2_withPut_32 : decode cX2_withPut 32 = .ok (.invokestatic 65, 3) := by decide +kernel
theorem dX2_withPut_35 : decode cX2_withPut 35 = .ok (.iload_n 3, 1) := by decide +kernel
theorem dX2_withPut_36 : decode cX2_withPut 36 = .ok (.ior, 1) := by decide +kernel
theorem dX2_withPut_37 : decode cX2_withPut 37 = .ok (.iload_n 1, 1) := by decide +kernel
theorem dX2_withPut_38 : decode cX2_withPut 38 = .ok (.invokestatic 83, 3) := by decide +kernel
theorem dX2_withPut_41 : decode cX2_withPut 41 = .ok (.iload_n 3, 1) := by decide +kernel
theorem dX2_withPut_42 : decode cX2_withPut 42 = .ok (.iload 4, 2) := by decide +kernel
theorem dX2_withPut_44 : decode cX2_withPut 44 = .ok (.iand, 1) := by decide +kernel
theorem dX2_withPut_45 : decode cX2_withPut 45 = .ok (.ior, 1) := by decide +kernel
theorem dX2_withPut_46 : decode cX2_withPut 46 = .ok (.invokestatic 86, 3) := by decide +kernel
theorem dX2_withPut_49 : decode cX2_withPut 49 = .ok (.ireturn, 1) := by decide +kernel
theorem dX2_withStruck_0 : decode cX2_withStruck 0 = .ok (.iload_n 2, 1) := by decide +kernel
theorem dX2_withStruck_1 : decode cX2_withStruck 1 = .ok (.iload_n 1, 1) := by decide +kernel
theorem dX2_withStruck_2 : decode cX2_withStruck 2 = .ok (.iload_n 2, 1) := by decide +kernel
theorem dX2_withStruck_3 : decode cX2_withStruck 3 = .ok (.invokestatic 77, 3) := by decide +kernel
theorem dX2_withStruck_6 : decode cX2_withStruck 6 = .ok (.iconst 1, 1) := by decide +kernel
theorem dX2_withStruck_7 : decode cX2_withStruck 7 = .ok (.isub, 1) := by decide +kernel
theorem dX2_withStruck_8 : decode cX2_withStruck 8 = .ok (.invokestatic 80, 3) := by decide +kernel
theorem dX2_withStruck_11 : decode cX2_withStruck 11 = .ok (.istore_n 3, 1) := by decide +kernel
theorem dX2_withStruck_12 : decode cX2_withStruck 12 = .ok (.iload_n 1, 1) := by decide +kernel
theorem dX2_withStruck_13 : decode cX2_withStruck 13 = .ok (.invokestatic 65, 3) := by decide +kernel
theorem dX2_withStruck_16 : decode cX2_withStruck 16 = .ok (.iload_n 3, 1) := by decide +kernel
theorem dX2_withStruck_17 : decode cX2_withStruck 17 = .ok (.iconst (-1), 1) := by decide +kernel
theorem dX2_withStruck_18 : decode cX2_withStruck 18 = .ok (.ixor, 1) := by decide +kernel
theorem dX2_withStruck_19 : decode cX2_withStruck 19 = .ok (.iand, 1) := by decide +kernel
theorem dX2_withStruck_20 : decode cX2_withStruck 20 = .ok (.istore 4, 2) := by decide +kernel
theorem dX2_withStruck_22 : decode cX2_withStruck 22 = .ok (.iload 4, 2) := by decide +kernel
theorem dX2_withStruck_24 : decode cX2_withStruck 24 = .ok (.aload_n 0, 1) := by decide +kernel
theorem dX2_withStruck_25 : decode cX2_withStruck 25 = .ok (.iload_n 1, 1) := by decide +kernel
theorem dX2_withStruck_26 : decode cX2_withStruck 26 = .ok (.invokestatic 83, 3) := by decide +kernel
theorem dX2_withStruck_29 : decode cX2_withStruck 29 = .ok (.iload 4, 2) := by decide +kernel
theorem dX2_withStruck_31 : decode cX2_withStruck 31 = .ok (.invokevirtual 89, 3) := by decide +kernel
theorem dX2_withStruck_34 : decode cX2_withStruck 34 = .ok (.invokestatic 86, 3) := by decide +kernel
theorem dX2_withStruck_37 : decode cX2_withStruck 37 = .ok (.ireturn, 1) := by decide +kernel
theorem dX2_withRain_0 : decode cX2_withRain 0 = .ok (.iload_n 1, 1) := by decide +kernel
theorem dX2_withRain_1 : decode cX2_withRain 1 = .ok (.invokestatic 65, 3) := by decide +kernel
theorem dX2_withRain_4 : decode cX2_withRain 4 = .ok (.istore_n 2, 1) := by decide +kernel
theorem dX2_withRain_5 : decode cX2_withRain 5 = .ok (.iload_n 1, 1) := by decide +kernel
theorem dX2_withRain_6 : decode cX2_withRain 6 = .ok (.invokestatic 83, 3) := by decide +kernel
theorem dX2_withRain_9 : decode cX2_withRain 9 = .ok (.aload_n 0, 1) := by decide +kernel
theorem dX2_withRain_10 : decode cX2_withRain 10 = .ok (.getfield 34, 3) := by decide +kernel
theorem dX2_withRain_13 : decode cX2_withRain 13 = .ok (.iload_n 2, 1) := by decide +kernel
theorem dX2_withRain_14 : decode cX2_withRain 14 = .ok (.iconst (-1), 1) := by decide +kernel
theorem dX2_withRain_15 : decode cX2_withRain 15 = .ok (.ixor, 1) := by decide +kernel
theorem dX2_withRain_16 : decode cX2_withRain 16 = .ok (.iand, 1) := by decide +kernel
theorem dX2_withRain_17 : decode cX2_withRain 17 = .ok (.iconst (-1), 1) := by decide +kernel
theorem dX2_withRain_18 : decode cX2_withRain 18 = .ok (.ixor, 1) := by decide +kernel
theorem dX2_withRain_19 : decode cX2_withRain 19 = .ok (.iand, 1) := by decide +kernel
theorem dX2_withRain_20 : decode cX2_withRain 20 = .ok (.istore_n 3, 1) := by decide +kernel
theorem dX2_withRain_21 : decode cX2_withRain 21 = .ok (.iload_n 2, 1) := by decide +kernel
theorem dX2_withRain_22 : decode cX2_withRain 22 = .ok (.aload_n 0, 1) := by decide +kernel
theorem dX2_withRain_23 : decode cX2_withRain 23 = .ok (.iload_n 3, 1) := by decide +kernel
theorem dX2_withRain_24 : decode cX2_withRain 24 = .ok (.iload_n 2, 1) := by decide +kernel
theorem dX2_withRain_25 : decode cX2_withRain 25 = .ok (.invokevirtual 89, 3) := by decide +kernel
theorem dX2_withRain_28 : decode cX2_withRain 28 = .ok (.invokestatic 86, 3) := by decide +kernel
theorem dX2_withRain_31 : decode cX2_withRain 31 = .ok (.ireturn, 1) := by decide +kernel
theorem dX2_countStanding_0 : decode cX2_countStanding 0 = .ok (.aload_n 0, 1) := by decide +kernel
theorem dX2_countStanding_1 : decode cX2_countStanding 1 = .ok (.aload_n 0, 1) := by decide +kernel
theorem dX2_countStanding_2 : decode cX2_countStanding 2 = .ok (.iload_n 1, 1) := by decide +kernel
theorem dX2_countStanding_3 : decode cX2_countStanding 3 = .ok (.invokevirtual 92, 3) := by decide +kernel
theorem dX2_countStanding_6 : decode cX2_countStanding 6 = .ok (.iconst 0, 1) := by decide +kernel
theorem dX2_countStanding_7 : decode cX2_countStanding 7 = .ok (.invokevirtual 89, 3) := by decide +kernel
theorem dX2_countStanding_10 : decode cX2_countStanding 10 = .ok (.invokestatic 69, 3) := by decide +kernel
theorem dX2_countStanding_13 : decode cX2_countStanding 13 = .ok (.ireturn, 1) := by decide +kernel
theorem dX2_standing_0 : decode cX2_standing 0 = .ok (.iload_n 1, 1) := by decide +kernel
theorem dX2_standing_1 : decode cX2_standing 1 = .ok (.iload_n 2, 1) := by decide +kernel
theorem dX2_standing_2 : decode cX2_standing 2 = .ok (.bipush 15, 2) := by decide +kernel
theorem dX2_standing_4 : decode cX2_standing 4 = .ok (.ior, 1) := by decide +kernel
theorem dX2_standing_5 : decode cX2_standing 5 = .ok (.aload_n 0, 1) := by decide +kernel
theorem dX2_standing_6 : decode cX2_standing 6 = .ok (.getfield 34, 3) := by decide +kernel
theorem dX2_standing_9 : decode cX2_standing 9 = .ok (.ior, 1) := by decide +kernel
theorem dX2_standing_10 : decode cX2_standing 10 = .ok (.iand, 1) := by decide +kernel
theorem dX2_standing_11 : decode cX2_standing 11 = .ok (.istore_n 3, 1) := by decide +kernel
theorem dX2_standing_12 : decode cX2_standing 12 = .ok (.iconst 0, 1) := by decide +kernel
theorem dX2_standing_13 : decode cX2_standing 13 = .ok (.istore 4, 2) := by decide +kernel
theorem dX2_standing_15 : decode cX2_standing 15 = .ok (.iload 4, 2) := by decide +kernel
theorem dX2_standing_17 : decode cX2_standing 17 = .ok (.bipush 7, 2) := by decide +kernel
theorem dX2_standing_19 : decode cX2_standing 19 = .ok (.if_icmp .ge 31, 3) := by decide +kernel
theorem dX2_standing_22 : decode cX2_standing 22 = .ok (.iload_n 3, 1) := by decide +kernel
theorem dX2_standing_23 : decode cX2_standing 23 = .ok (.iload_n 1, 1) := by decide +kernel
theorem dX2_standing_24 : decode cX2_standing 24 = .ok (.aload_n 0, 1) := by decide +kernel
theorem dX2_standing_25 : decode cX2_standing 25 = .ok (.iload_n 3, 1) := by decide +kernel
theorem dX2_standing_26 : decode cX2_standing 26 = .ok (.invokevirtual 95, 3) := by decide +kernel
theorem dX2_standing_29 : decode cX2_standing 29 = .ok (.iand, 1) := by decide +kernel
theorem dX2_standing_30 : decode cX2_standing 30 = .ok (.ior, 1) := by decide +kernel
theorem dX2_standing_31 : decode cX2_standing 31 = .ok (.istore 5, 2) := by decide +kernel
theorem dX2_standing_33 : decode cX2_standing 33 = .ok (.iload 5, 2) := by decide +kernel
theorem dX2_standing_35 : decode cX2_standing 35 = .ok (.iload_n 3, 1) := by decide +kernel
theorem dX2_standing_36 : decode cX2_standing 36 = .ok (.if_icmp .ne 5, 3) := by decide +kernel
theorem dX2_standing_39 : decode cX2_standing 39 = .ok (.iload_n 3, 1) := by decide +kernel
theorem dX2_standing_40 : decode cX2_standing 40 = .ok (.ireturn, 1) := by decide +kernel
theorem dX2_standing_41 : decode cX2_standing 41 = .ok (.iload 5, 2) := by decide +kernel
theorem dX2_standing_43 : decode cX2_standing 43 = .ok (.istore_n 3, 1) := by decide +kernel
theorem dX2_standing_44 : decode cX2_standing 44 = .ok (.iinc 4 1, 3) := by decide +kernel
theorem dX2_standing_47 : decode cX2_standing 47 = .ok (.goto (-32), 3) := by decide +kernel
theorem dX2_standing_50 : decode cX2_standing 50 = .ok (.iload_n 3, 1) := by decide +kernel
theorem dX2_standing_51 : decode cX2_standing 51 = .ok (.ireturn, 1) := by decide +kernel
theorem dX2_carriedBy_0 : decode cX2_carriedBy 0 = .ok (.iload_n 1, 1) := by decide +kernel
theorem dX2_carriedBy_1 : decode cX2_carriedBy 1 = .ok (.iconst 1, 1) := by decide +kernel
theorem dX2_carriedBy_2 : decode cX2_carriedBy 2 = .ok (.ishl, 1) := by decide +kernel
theorem dX2_carriedBy_3 : decode cX2_carriedBy 3 = .ok (.sipush (-4370), 3) := by decide +kernel
theorem dX2_carriedBy_6 : decode cX2_carriedBy 6 = .ok (.iand, 1) := by decide +kernel
theorem dX2_carriedBy_7 : decode cX2_carriedBy 7 = .ok (.istore_n 2, 1) := by decide +kernel
theorem dX2_carriedBy_8 : decode cX2_carriedBy 8 = .ok (.iload_n 1, 1) := by decide +kernel
theorem dX2_carriedBy_9 : decode cX2_carriedBy 9 = .ok (.iconst 1, 1) := by decide +kernel
theorem dX2_carriedBy_10 : decode cX2_carriedBy 10 = .ok (.ishr, 1) := by decide +kernel
theorem dX2_carriedBy_11 : decode cX2_carriedBy 11 = .ok (.ldc 98, 2) := by decide +kernel
theorem dX2_carriedBy_13 : decode cX2_carriedBy 13 = .ok (.iand, 1) := by decide +kernel
theorem dX2_carriedBy_14 : decode cX2_carriedBy 14 = .ok (.istore_n 3, 1) := by decide +kernel
theorem dX2_carriedBy_15 : decode cX2_carriedBy 15 = .ok (.iload_n 1, 1) := by decide +kernel
theorem dX2_carriedBy_16 : decode cX2_carriedBy 16 = .ok (.iload_n 2, 1) := by decide +kernel
theorem dX2_carriedBy_17 : decode cX2_carriedBy 17 = .ok (.ior, 1) := by decide +kernel
theorem dX2_carriedBy_18 : decode cX2_carriedBy 18 = .ok (.iload_n 3, 1) := by decide +kernel
theorem dX2_carriedBy_19 : decode cX2_carriedBy 19 = .ok (.ior, 1) := by decide +kernel
theorem dX2_carriedBy_20 : decode cX2_carriedBy 20 = .ok (.iconst 4, 1) := by decide +kernel
theorem dX2_carriedBy_21 : decode cX2_carriedBy 21 = .ok (.ishl, 1) := by decide +kernel
theorem dX2_carriedBy_22 : decode cX2_carriedBy 22 = .ok (.istore 4, 2) := by decide +kernel
theorem dX2_carriedBy_24 : decode cX2_carriedBy 24 = .ok (.aload_n 0, 1) := by decide +kernel
theorem dX2_carriedBy_25 : decode cX2_carriedBy 25 = .ok (.getfield 25, 3) := by decide +kernel
theorem dX2_carriedBy_28 : decode cX2_carriedBy 28 = .ok (.iload_n 1, 1) := by decide +kernel
theorem dX2_carriedBy_29 : decode cX2_carriedBy 29 = .ok (.iconst 4, 1) := by decide +kernel
theorem dX2_carriedBy_30 : decode cX2_carriedBy 30 = .ok (.ishl, 1) := by decide +kernel
theorem dX2_carriedBy_31 : decode cX2_carriedBy 31 = .ok (.iand, 1) := by decide +kernel
theorem dX2_carriedBy_32 : decode cX2_carriedBy 32 = .ok (.aload_n 0, 1) := by decide +kernel
theorem dX2_carriedBy_33 : decode cX2_carriedBy 33 = .ok (.getfield 28, 3) := by decide +kernel
theorem dX2_carriedBy_36 : decode cX2_carriedBy 36 = .ok (.iload_n 2, 1) := by decide +kernel
theorem dX2_carriedBy_37 : decode cX2_carriedBy 37 = .ok (.iand, 1) := by decide +kernel
theorem dX2_carriedBy_38 : decode cX2_carriedBy 38 = .ok (.iload_n 3, 1) := by decide +kernel
theorem dX2_carriedBy_39 : decode cX2_carriedBy 39 = .ok (.iand, 1) := by decide +kernel
theorem dX2_carriedBy_40 : decode cX2_carriedBy 40 = .ok (.ior, 1) := by decide +kernel
theorem dX2_carriedBy_41 : decode cX2_carriedBy 41 = .ok (.aload_n 0, 1) := by decide +kernel
theorem dX2_carriedBy_42 : decode cX2_carriedBy 42 = .ok (.getfield 31, 3) := by decide +kernel
theorem dX2_carriedBy_45 : decode cX2_carriedBy 45 = .ok (.iload 4, 2) := by decide +kernel
theorem dX2_carriedBy_47 : decode cX2_carriedBy 47 = .ok (.iand, 1) := by decide +kernel
theorem dX2_carriedBy_48 : decode cX2_carriedBy 48 = .ok (.ior, 1) := by decide +kernel
theorem dX2_carriedBy_49 : decode cX2_carriedBy 49 = .ok (.ireturn, 1) := by decide +kernel
theorem dX3_init_0 : decode cX3_init 0 = .ok (.aload_n 0, 1) := by decide +kernel
theorem dX3_init_1 : decode cX3_init 1 = .ok (.invokespecial 3, 3) := by decide +kernel
theorem dX3_init_4 : decode cX3_init 4 = .ok (.aload_n 0, 1) := by decide +kernel
theorem dX3_init_5 : decode cX3_init 5 = .ok (.bipush 32, 2) := by decide +kernel
theorem dX3_init_7 : decode cX3_init 7 = .ok (.newarray .int, 2) := by decide +kernel
theorem dX3_init_9 : decode cX3_init 9 = .ok (.putfield 11, 3) := by decide +kernel
theorem dX3_init_12 : decode cX3_init 12 = .ok (.aload_n 0, 1) := by decide +kernel
theorem dX3_init_13 : decode cX3_init 13 = .ok (.iconst 0, 1) := by decide +kernel
theorem dX3_init_14 : decode cX3_init 14 = .ok (.putfield 15, 3) := by decide +kernel
theorem dX3_init_17 : decode cX3_init 17 = .ok (.return_, 1) := by decide +kernel
theorem dX3_append_0 : decode cX3_append 0 = .ok (.aload_n 0, 1) := by decide +kernel
theorem dX3_append_1 : decode cX3_append 1 = .ok (.getfield 15, 3) := by decide +kernel
theorem dX3_append_4 : decode cX3_append 4 = .ok (.ifCond .lt 15, 3) := by decide +kernel
theorem dX3_append_7 : decode cX3_append 7 = .ok (.aload_n 0, 1) := by decide +kernel
theorem dX3_append_8 : decode cX3_append 8 = .ok (.getfield 15, 3) := by decide +kernel
theorem dX3_append_11 : decode cX3_append 11 = .ok (.aload_n 0, 1) := by decide +kernel
theorem dX3_append_12 : decode cX3_append 12 = .ok (.getfield 11, 3) := by decide +kernel
theorem dX3_append_15 : decode cX3_append 15 = .ok (.arraylength, 1) := by decide +kernel
theorem dX3_append_16 : decode cX3_append 16 = .ok (.if_icmp .lt 5, 3) := by decide +kernel
theorem dX3_append_19 : decode cX3_append 19 = .ok (.iconst 0, 1) := by decide +kernel
theorem dX3_append_20 : decode cX3_append 20 = .ok (.ireturn, 1) := by decide +kernel
theorem dX3_append_21 : decode cX3_append 21 = .ok (.aload_n 0, 1) := by decide +kernel
theorem dX3_append_22 : decode cX3_append 22 = .ok (.getfield 11, 3) := by decide +kernel
theorem dX3_append_25 : decode cX3_append 25 = .ok (.aload_n 0, 1) := by decide +kernel
theorem dX3_append_26 : decode cX3_append 26 = .ok (.getfield 15, 3) := by decide +kernel
theorem dX3_append_29 : decode cX3_append 29 = .ok (.iload_n 1, 1) := by decide +kernel
theorem dX3_append_30 : decode cX3_append 30 = .ok (.iastore, 1) := by decide +kernel
theorem dX3_append_31 : decode cX3_append 31 = .ok (.aload_n 0, 1) := by decide +kernel
theorem dX3_append_32 : decode cX3_append 32 = .ok (.dup, 1) := by decide +kernel
theorem dX3_append_33 : decode cX3_append 33 = .ok (.getfield 15, 3) := by decide +kernel
theorem dX3_append_36 : decode cX3_append 36 = .ok (.iconst 1, 1) := by decide +kernel
theorem dX3_append_37 : decode cX3_append 37 = .ok (.iadd, 1) := by decide +kernel
theorem dX3_append_38 : decode cX3_append 38 = .ok (.putfield 15, 3) := by decide +kernel
theorem dX3_append_41 : decode cX3_append 41 = .ok (.iconst 1, 1) := by decide +kernel
theorem dX3_append_42 : decode cX3_append 42 = .ok (.ireturn, 1) := by decide +kernel
theorem dX3_letterAt_0 : decode cX3_letterAt 0 = .ok (.iload_n 1, 1) := by decide +kernel
theorem dX3_letterAt_1 : decode cX3_letterAt 1 = .ok (.ifCond .lt 29, 3) := by decide +kernel
theorem dX3_letterAt_4 : decode cX3_letterAt 4 = .ok (.iload_n 1, 1) := by decide +kernel
theorem dX3_letterAt_5 : decode cX3_letterAt 5 = .ok (.aload_n 0, 1) := by decide +kernel
theorem dX3_letterAt_6 : decode cX3_letterAt 6 = .ok (.getfield 15, 3) := by decide +kernel
theorem dX3_letterAt_9 : decode cX3_letterAt 9 = .ok (.if_icmp .ge 21, 3) := by decide +kernel
theorem dX3_letterAt_12 : decode cX3_letterAt 12 = .ok (.iload_n 1, 1) := by decide +kernel
theorem dX3_letterAt_13 : decode cX3_letterAt 13 = .ok (.aload_n 0, 1) := by decide +kernel
theorem dX3_letterAt_14 : decode cX3_letterAt 14 = .ok (.getfield 11, 3) := by decide +kernel
theorem dX3_letterAt_17 : decode cX3_letterAt 17 = .ok (.arraylength, 1) := by decide +kernel
theorem dX3_letterAt_18 : decode cX3_letterAt 18 = .ok (.if_icmp .ge 12, 3) := by decide +kernel
theorem dX3_letterAt_21 : decode cX3_letterAt 21 = .ok (.aload_n 0, 1) := by decide +kernel
theorem dX3_letterAt_22 : decode cX3_letterAt 22 = .ok (.getfield 11, 3) := by decide +kernel
theorem dX3_letterAt_25 : decode cX3_letterAt 25 = .ok (.iload_n 1, 1) := by decide +kernel
theorem dX3_letterAt_26 : decode cX3_letterAt 26 = .ok (.iaload, 1) := by decide +kernel
theorem dX3_letterAt_27 : decode cX3_letterAt 27 = .ok (.goto 4, 3) := by decide +kernel
theorem dX3_letterAt_30 : decode cX3_letterAt 30 = .ok (.iconst 0, 1) := by decide +kernel
theorem dX3_letterAt_31 : decode cX3_letterAt 31 = .ok (.ireturn, 1) := by decide +kernel
theorem dX3_firstFault_0 : decode cX3_firstFault 0 = .ok (.iconst 0, 1) := by decide +kernel
theorem dX3_firstFault_1 : decode cX3_firstFault 1 = .ok (.istore_n 1, 1) := by decide +kernel
theorem dX3_firstFault_2 : decode cX3_firstFault 2 = .ok (.iconst 0, 1) := by decide +kernel
theorem dX3_firstFault_3 : decode cX3_firstFault 3 = .ok (.istore_n 2, 1) := by decide +kernel
theorem dX3_firstFault_4 : decode cX3_firstFault 4 = .ok (.iload_n 2, 1) := by decide +kernel
theorem dX3_firstFault_5 : decode cX3_firstFault 5 = .ok (.aload_n 0, 1) := by decide +kernel
theorem dX3_firstFault_6 : decode cX3_firstFault 6 = .ok (.getfield 15, 3) := by decide +kernel
theorem dX3_firstFault_9 : decode cX3_firstFault 9 = .ok (.if_icmp .ge 49, 3) := by decide +kernel
theorem dX3_firstFault_12 : decode cX3_firstFault 12 = .ok (.aload_n 0, 1) := by decide +kernel
theorem dX3_firstFault_13 : decode cX3_firstFault 13 = .ok (.iload_n 2, 1) := by decide +kernel
theorem dX3_firstFault_14 : decode cX3_firstFault 14 = .ok (.invokevirtual 19, 3) := by decide +kernel
theorem dX3_firstFault_17 : decode cX3_firstFault 17 = .ok (.istore_n 3, 1) := by decide +kernel
theorem dX3_firstFault_18 : decode cX3_firstFault 18 = .ok (.iload_n 2, 1) := by decide +kernel
theorem dX3_firstFault_19 : decode cX3_firstFault 19 = .ok (.iload_n 3, 1) := by decide +kernel
theorem dX3_firstFault_20 : decode cX3_firstFault 20 = .ok (.iload_n 1, 1) := by decide +kernel
theorem dX3_firstFault_21 : decode cX3_firstFault 21 = .ok (.invokestatic 23, 3) := by decide +kernel
theorem dX3_firstFault_24 : decode cX3_firstFault 24 = .ok (.ifCond .ne 5, 3) := by decide +kernel
theorem dX3_firstFault_27 : decode cX3_firstFault 27 = .ok (.iload_n 2, 1) := by decide +kernel
theorem dX3_firstFault_28 : decode cX3_firstFault 28 = .ok (.ireturn, 1) := by decide +kernel
theorem dX3_firstFault_29 : decode cX3_firstFault 29 = .ok (.iload_n 2, 1) := by decide +kernel
theorem dX3_firstFault_30 : decode cX3_firstFault 30 = .ok (.iconst 2, 1) := by decide +kernel
theorem dX3_firstFault_31 : decode cX3_firstFault 31 = .ok (.if_icmp .lt 21, 3) := by decide +kernel
theorem dX3_firstFault_34 : decode cX3_firstFault 34 = .ok (.iload_n 2, 1) := by decide +kernel
theorem dX3_firstFault_35 : decode cX3_firstFault 35 = .ok (.iconst 2, 1) := by decide +kernel
theorem dX3_firstFault_36 : decode cX3_firstFault 36 = .ok (.isub, 1) := by decide +kernel
theorem dX3_firstFault_37 : decode cX3_firstFault 37 = .ok (.iconst 3, 1) := by decide +kernel
theorem dX3_firstFault_38 : decode cX3_firstFault 38 = .ok (.irem, 1) := by decide +kernel
theorem dX3_firstFault_39 : decode cX3_firstFault 39 = .ok (.iconst 1, 1) := by decide +kernel
theorem dX3_firstFault_40 : decode cX3_firstFault 40 = .ok (.if_icmp .ne 12, 3) := by decide +kernel
theorem dX3_firstFault_43 : decode cX3_firstFault 43 = .ok (.iload_n 1, 1) := by decide +kernel
theorem dX3_firstFault_44 : decode cX3_firstFault 44 = .ok (.iconst 1, 1) := by decide +kernel
theorem dX3_firstFault_45 : decode cX3_firstFault 45 = .ok (.iload_n 3, 1) := by decide +kernel
theorem dX3_firstFault_46 : decode cX3_firstFault 46 = .ok (.bipush 97, 2) := by decide +kernel
theorem dX3_firstFault_48 : decode cX3_firstFault 48 = .ok (.isub, 1) := by decide +kernel
theorem dX3_firstFault_49 : decode cX3_firstFault 49 = .ok (.ishl, 1) := by decide +kernel
theorem dX3_firstFault_50 : decode cX3_firstFault 50 = .ok (.ior, 1) := by decide +kernel
theorem dX3_firstFault_51 : decode cX3_firstFault 51 = .ok (.istore_n 1, 1) := by decide +kernel
theorem dX3_firstFault_52 : decode cX3_firstFault 52 = .ok (.iinc 2 1, 3) := by decide +kernel
theorem dX3_firstFault_55 : decode cX3_firstFault 55 = .ok (.goto (-51), 3) := by decide +kernel
theorem dX3_firstFault_58 : decode cX3_firstFault 58 = .ok (.aload_n 0, 1) := by decide +kernel
theorem dX3_firstFault_59 : decode cX3_firstFault 59 = .ok (.getfield 15, 3) := by decide +kernel
theorem dX3_firstFault_62 : decode cX3_firstFault 62 = .ok (.iconst 2, 1) := by decide +kernel
theorem dX3_firstFault_63 : decode cX3_firstFault 63 = .ok (.if_icmp .lt 19, 3) := by decide +kernel
theorem dX3_firstFault_66 : decode cX3_firstFault 66 = .ok (.aload_n 0, 1) := by decide +kernel
theorem dX3_firstFault_67 : decode cX3_firstFault 67 = .ok (.getfield 15, 3) := by decide +kernel
theorem dX3_firstFault_70 : decode cX3_firstFault 70 = .ok (.iconst 2, 1) := by decide +kernel
theorem dX3_firstFault_71 : decode cX3_firstFault 71 = .ok (.isub, 1) := by decide +kernel
theorem dX3_firstFault_72 : decode cX3_firstFault 72 = .ok (.iconst 3, 1) := by decide +kernel
theorem dX3_firstFault_73 : decode cX3_firstFault 73 = .ok (.irem, 1) := by decide +kernel
theorem dX3_firstFault_74 : decode cX3_firstFault 74 = .ok (.ifCond .ne 8, 3) := by decide +kernel
theorem dX3_firstFault_77 : decode cX3_firstFault 77 = .ok (.bipush (-9), 2) := by decide +kernel
theorem dX3_firstFault_79 : decode cX3_firstFault 79 = .ok (.goto 7, 3) := by decide +kernel
theorem dX3_firstFault_82 : decode cX3_firstFault 82 = .ok (.aload_n 0, 1) := by decide +kernel
theorem dX3_firstFault_83 : decode cX3_firstFault 83 = .ok (.getfield 15, 3) := by decide +kernel
theorem dX3_firstFault_86 : decode cX3_firstFault 86 = .ok (.ireturn, 1) := by decide +kernel
theorem dX3_fits_0 : decode cX3_fits 0 = .ok (.iload_n 0, 1) := by decide +kernel
theorem dX3_fits_1 : decode cX3_fits 1 = .ok (.ifCond .ne 15, 3) := by decide +kernel
theorem dX3_fits_4 : decode cX3_fits 4 = .ok (.iload_n 1, 1) := by decide +kernel
theorem dX3_fits_5 : decode cX3_fits 5 = .ok (.bipush 73, 2) := by decide +kernel
theorem dX3_fits_7 : decode cX3_fits 7 = .ok (.if_icmp .ne 7, 3) := by decide +kernel
theorem dX3_fits_10 : decode cX3_fits 10 = .ok (.iconst 1, 1) := by decide +kernel
theorem dX3_fits_11 : decode cX3_fits 11 = .ok (.goto 4, 3) := by decide +kernel
theorem dX3_fits_14 : decode cX3_fits 14 = .ok (.iconst 0, 1) := by decide +kernel
theorem dX3_fits_15 : decode cX3_fits 15 = .ok (.ireturn, 1) := by decide +kernel
theorem dX3_fits_16 : decode cX3_fits 16 = .ok (.iload_n 0, 1) := by decide +kernel
theorem dX3_fits_17 : decode cX3_fits 17 = .ok (.iconst 1, 1) := by decide +kernel
theorem dX3_fits_18 : decode cX3_fits 18 = .ok (.if_icmp .ne 21, 3) := by decide +kernel
theorem dX3_fits_21 : decode cX3_fits 21 = .ok (.iload_n 1, 1) := by decide +kernel
theorem dX3_fits_22 : decode cX3_fits 22 = .ok (.bipush 48, 2) := by decide +kernel
theorem dX3_fits_24 : decode cX3_fits 24 = .ok (.if_icmp .lt 13, 3) := by decide +kernel
theorem dX3_fits_27 : decode cX3_fits 27 = .ok (.iload_n 1, 1) := by decide +kernel
theorem dX3_fits_28 : decode cX3_fits 28 = .ok (.bipush 57, 2) := by decide +kernel
theorem dX3_fits_30 : decode cX3_fits 30 = .ok (.if_icmp .gt 7, 3) := by decide +kernel
theorem dX3_fits_33 : decode cX3_fits 33 = .ok (.iconst 1, 1) := by decide +kernel
theorem dX3_fits_34 : decode cX3_fits 34 = .ok (.goto 4, 3) := by decide +kernel
theorem dX3_fits_37 : decode cX3_fits 37 = .ok (.iconst 0, 1) := by decide +kernel
theorem dX3_fits_38 : decode cX3_fits 38 = .ok (.ireturn, 1) := by decide +kernel
theorem dX3_fits_39 : decode cX3_fits 39 = .ok (.iload_n 0, 1) := by decide +kernel
theorem dX3_fits_40 : decode cX3_fits 40 = .ok (.bipush 23, 2) := by decide +kernel
theorem dX3_fits_42 : decode cX3_fits 42 = .ok (.if_icmp .lt 5, 3) := by decide +kernel
theorem dX3_fits_45 : decode cX3_fits 45 = .ok (.iconst 0, 1) := by decide +kernel
theorem dX3_fits_46 : decode cX3_fits 46 = .ok (.ireturn, 1) := by decide +kernel
theorem dX3_fits_47 : decode cX3_fits 47 = .ok (.iload_n 0, 1) := by decide +kernel
theorem dX3_fits_48 : decode cX3_fits 48 = .ok (.iconst 2, 1) := by decide +kernel
theorem dX3_fits_49 : decode cX3_fits 49 = .ok (.isub, 1) := by decide +kernel
theorem dX3_fits_50 : decode cX3_fits 50 = .ok (.iconst 3, 1) := by decide +kernel
theorem dX3_fits_51 : decode cX3_fits 51 = .ok (.irem, 1) := by decide +kernel
theorem dX3_fits_52 : decode cX3_fits 52 = .ok (.lookupswitch 69 #[(0, 28), (1, 40)], 28) := by decide +kernel
theorem dX3_fits_80 : decode cX3_fits 80 = .ok (.iload_n 1, 1) := by decide +kernel
theorem dX3_fits_81 : decode cX3_fits 81 = .ok (.bipush 80, 2) := by decide +kernel
theorem dX3_fits_83 : decode cX3_fits 83 = .ok (.if_icmp .ne 7, 3) := by decide +kernel
theorem dX3_fits_86 : decode cX3_fits 86 = .ok (.iconst 1, 1) := by decide +kernel
theorem dX3_fits_87 : decode cX3_fits 87 = .ok (.goto 4, 3) := by decide +kernel
theorem dX3_fits_90 : decode cX3_fits 90 = .ok (.iconst 0, 1) := by decide +kernel
theorem dX3_fits_91 : decode cX3_fits 91 = .ok (.ireturn, 1) := by decide +kernel
theorem dX3_fits_92 : decode cX3_fits 92 = .ok (.iload_n 1, 1) := by decide +kernel
theorem dX3_fits_93 : decode cX3_fits 93 = .ok (.bipush 97, 2) := by decide +kernel
theorem dX3_fits_95 : decode cX3_fits 95 = .ok (.if_icmp .lt 24, 3) := by decide +kernel
theorem dX3_fits_98 : decode cX3_fits 98 = .ok (.iload_n 1, 1) := by decide +kernel
theorem dX3_fits_99 : decode cX3_fits 99 = .ok (.bipush 112, 2) := by decide +kernel
theorem dX3_fits_101 : decode cX3_fits 101 = .ok (.if_icmp .gt 18, 3) := by decide +kernel
theorem dX3_fits_104 : decode cX3_fits 104 = .ok (.iload_n 2, 1) := by decide +kernel
theorem dX3_fits_105 : decode cX3_fits 105 = .ok (.iload_n 1, 1) := by decide +kernel
theorem dX3_fits_106 : decode cX3_fits 106 = .ok (.bipush 97, 2) := by decide +kernel
theorem dX3_fits_108 : decode cX3_fits 108 = .ok (.isub, 1) := by decide +kernel
theorem dX3_fits_109 : decode cX3_fits 109 = .ok (.ishr, 1) := by decide +kernel
theorem dX3_fits_110 : decode cX3_fits 110 = .ok (.iconst 1, 1) := by decide +kernel
theorem dX3_fits_111 : decode cX3_fits 111 = .ok (.iand, 1) := by decide +kernel
theorem dX3_fits_112 : decode cX3_fits 112 = .ok (.ifCond .ne 7, 3) := by decide +kernel
theorem dX3_fits_115 : decode cX3_fits 115 = .ok (.iconst 1, 1) := by decide +kernel
theorem dX3_fits_116 : decode cX3_fits 116 = .ok (.goto 4, 3) := by decide +kernel
theorem dX3_fits_119 : decode cX3_fits 119 = .ok (.iconst 0, 1) := by decide +kernel
theorem dX3_fits_120 : decode cX3_fits 120 = .ok (.ireturn, 1) := by decide +kernel
theorem dX3_fits_121 : decode cX3_fits 121 = .ok (.iload_n 1, 1) := by decide +kernel
theorem dX3_fits_122 : decode cX3_fits 122 = .ok (.bipush 48, 2) := by decide +kernel
theorem dX3_fits_124 : decode cX3_fits 124 = .ok (.if_icmp .lt 13, 3) := by decide +kernel
theorem dX3_fits_127 : decode cX3_fits 127 = .ok (.iload_n 1, 1) := by decide +kernel
theorem dX3_fits_128 : decode cX3_fits 128 = .ok (.bipush 51, 2) := by decide +kernel
theorem dX3_fits_130 : decode cX3_fits 130 = .ok (.if_icmp .gt 7, 3) := by decide +kernel
theorem dX3_fits_133 : decode cX3_fits 133 = .ok (.iconst 1, 1) := by decide +kernel
theorem dX3_fits_134 : decode cX3_fits 134 = .ok (.goto 4, 3) := by decide +kernel
theorem dX3_fits_137 : decode cX3_fits 137 = .ok (.iconst 0, 1) := by decide +kernel
theorem dX3_fits_138 : decode cX3_fits 138 = .ok (.ireturn, 1) := by decide +kernel
theorem dX3_parts_0 : decode cX3_parts 0 = .ok (.aload_n 0, 1) := by decide +kernel
theorem dX3_parts_1 : decode cX3_parts 1 = .ok (.getfield 15, 3) := by decide +kernel
theorem dX3_parts_4 : decode cX3_parts 4 = .ok (.iconst 2, 1) := by decide +kernel
theorem dX3_parts_5 : decode cX3_parts 5 = .ok (.if_icmp .ge 7, 3) := by decide +kernel
theorem dX3_parts_8 : decode cX3_parts 8 = .ok (.iconst 0, 1) := by decide +kernel
theorem dX3_parts_9 : decode cX3_parts 9 = .ok (.goto 11, 3) := by decide +kernel
theorem dX3_parts_12 : decode cX3_parts 12 = .ok (.aload_n 0, 1) := by decide +kernel
theorem dX3_parts_13 : decode cX3_parts 13 = .ok (.getfield 15, 3) := by decide +kernel
theorem dX3_parts_16 : decode cX3_parts 16 = .ok (.iconst 2, 1) := by decide +kernel
theorem dX3_parts_17 : decode cX3_parts 17 = .ok (.isub, 1) := by decide +kernel
theorem dX3_parts_18 : decode cX3_parts 18 = .ok (.iconst 3, 1) := by decide +kernel
theorem dX3_parts_19 : decode cX3_parts 19 = .ok (.idiv, 1) := by decide +kernel
theorem dX3_parts_20 : decode cX3_parts 20 = .ok (.ireturn, 1) := by decide +kernel
theorem dX3_cellOfPart_0 : decode cX3_cellOfPart 0 = .ok (.aload_n 0, 1) := by decide +kernel
theorem dX3_cellOfPart_1 : decode cX3_cellOfPart 1 = .ok (.iconst 2, 1) := by decide +kernel
theorem dX3_cellOfPart_2 : decode cX3_cellOfPart 2 = .ok (.iconst 3, 1) := by decide +kernel
theorem dX3_cellOfPart_3 : decode cX3_cellOfPart 3 = .ok (.iload_n 1, 1) := by decide +kernel
theorem dX3_cellOfPart_4 : decode cX3_cellOfPart 4 = .ok (.imul, 1) := by decide +kernel
theorem dX3_cellOfPart_5 : decode cX3_cellOfPart 5 = .ok (.iadd, 1) := by decide +kernel
theorem dX3_cellOfPart_6 : decode cX3_cellOfPart 6 = .ok (.iconst 1, 1) := by decide +kernel
theorem dX3_cellOfPart_7 : decode cX3_cellOfPart 7 = .ok (.iadd, 1) := by decide +kernel
theorem dX3_cellOfPart_8 : decode cX3_cellOfPart 8 = .ok (.invokevirtual 19, 3) := by decide +kernel
theorem dX3_cellOfPart_11 : decode cX3_cellOfPart 11 = .ok (.bipush 97, 2) := by decide +kernel
theorem dX3_cellOfPart_13 : decode cX3_cellOfPart 13 = .ok (.isub, 1) := by decide +kernel
theorem dX3_cellOfPart_14 : decode cX3_cellOfPart 14 = .ok (.ireturn, 1) := by decide +kernel
theorem dX3_kindOfPart_0 : decode cX3_kindOfPart 0 = .ok (.aload_n 0, 1) := by decide +kernel
theorem dX3_kindOfPart_1 : decode cX3_kindOfPart 1 = .ok (.iconst 2, 1) := by decide +kernel
theorem dX3_kindOfPart_2 : decode cX3_kindOfPart 2 = .ok (.iconst 3, 1) := by decide +kernel
theorem dX3_kindOfPart_3 : decode cX3_kindOfPart 3 = .ok (.iload_n 1, 1) := by decide +kernel
theorem dX3_kindOfPart_4 : decode cX3_kindOfPart 4 = .ok (.imul, 1) := by decide +kernel
theorem dX3_kindOfPart_5 : decode cX3_kindOfPart 5 = .ok (.iadd, 1) := by decide +kernel
theorem dX3_kindOfPart_6 : decode cX3_kindOfPart 6 = .ok (.iconst 2, 1) := by decide +kernel
theorem dX3_kindOfPart_7 : decode cX3_kindOfPart 7 = .ok (.iadd, 1) := by decide +kernel
theorem dX3_kindOfPart_8 : decode cX3_kindOfPart 8 = .ok (.invokevirtual 19, 3) := by decide +kernel
theorem dX3_kindOfPart_11 : decode cX3_kindOfPart 11 = .ok (.bipush 48, 2) := by decide +kernel
theorem dX3_kindOfPart_13 : decode cX3_kindOfPart 13 = .ok (.isub, 1) := by decide +kernel
theorem dX3_kindOfPart_14 : decode cX3_kindOfPart 14 = .ok (.ireturn, 1) := by decide +kernel
theorem dX4_init_0 : decode cX4_init 0 = .ok (.aload_n 0, 1) := by decide +kernel
theorem dX4_init_1 : decode cX4_init 1 = .ok (.invokespecial 3, 3) := by decide +kernel
theorem dX4_init_4 : decode cX4_init 4 = .ok (.aload_n 0, 1) := by decide +kernel
theorem dX4_init_5 : decode cX4_init 5 = .ok (.bipush 6, 2) := by decide +kernel
theorem dX4_init_7 : decode cX4_init 7 = .ok (.newarray .int, 2) := by decide +kernel
theorem dX4_init_9 : decode cX4_init 9 = .ok (.putfield 11, 3) := by decide +kernel
theorem dX4_init_12 : decode cX4_init 12 = .ok (.aload_n 0, 1) := by decide +kernel
theorem dX4_init_13 : decode cX4_init 13 = .ok (.bipush 6, 2) := by decide +kernel
theorem dX4_init_15 : decode cX4_init 15 = .ok (.newarray .boolean, 2) := by decide +kernel
theorem dX4_init_17 : decode cX4_init 17 = .ok (.putfield 15, 3) := by decide +kernel
theorem dX4_init_20 : decode cX4_init 20 = .ok (.aload_n 0, 1) := by decide +kernel
theorem dX4_init_21 : decode cX4_init 21 = .ok (.iconst 0, 1) := by decide +kernel
theorem dX4_init_22 : decode cX4_init 22 = .ok (.putfield 19, 3) := by decide +kernel
theorem dX4_init_25 : decode cX4_init 25 = .ok (.return_, 1) := by decide +kernel
theorem dX4_add_0 : decode cX4_add 0 = .ok (.aload_n 0, 1) := by decide +kernel
theorem dX4_add_1 : decode cX4_add 1 = .ok (.getfield 19, 3) := by decide +kernel
theorem dX4_add_4 : decode cX4_add 4 = .ok (.ifCond .lt 12, 3) := by decide +kernel
theorem dX4_add_7 : decode cX4_add 7 = .ok (.aload_n 0, 1) := by decide +kernel
theorem dX4_add_8 : decode cX4_add 8 = .ok (.getfield 19, 3) := by decide +kernel
theorem dX4_add_11 : decode cX4_add 11 = .ok (.bipush 6, 2) := by decide +kernel
theorem dX4_add_13 : decode cX4_add 13 = .ok (.if_icmp .lt 5, 3) := by decide +kernel
theorem dX4_add_16 : decode cX4_add 16 = .ok (.iconst 0, 1) := by decide +kernel
theorem dX4_add_17 : decode cX4_add 17 = .ok (.ireturn, 1) := by decide +kernel
theorem dX4_add_18 : decode cX4_add 18 = .ok (.aload_n 0, 1) := by decide +kernel
theorem dX4_add_19 : decode cX4_add 19 = .ok (.getfield 11, 3) := by decide +kernel
theorem dX4_add_22 : decode cX4_add 22 = .ok (.aload_n 0, 1) := by decide +kernel
theorem dX4_add_23 : decode cX4_add 23 = .ok (.getfield 19, 3) := by decide +kernel
theorem dX4_add_26 : decode cX4_add 26 = .ok (.iload_n 1, 1) := by decide +kernel
theorem dX4_add_27 : decode cX4_add 27 = .ok (.iastore, 1) := by decide +kernel
theorem dX4_add_28 : decode cX4_add 28 = .ok (.aload_n 0, 1) := by decide +kernel
theorem dX4_add_29 : decode cX4_add 29 = .ok (.getfield 15, 3) := by decide +kernel
theorem dX4_add_32 : decode cX4_add 32 = .ok (.aload_n 0, 1) := by decide +kernel
theorem dX4_add_33 : decode cX4_add 33 = .ok (.getfield 19, 3) := by decide +kernel
theorem dX4_add_36 : decode cX4_add 36 = .ok (.iload_n 2, 1) := by decide +kernel
theorem dX4_add_37 : decode cX4_add 37 = .ok (.bastore, 1) := by decide +kernel
theorem dX4_add_38 : decode cX4_add 38 = .ok (.aload_n 0, 1) := by decide +kernel
theorem dX4_add_39 : decode cX4_add 39 = .ok (.dup, 1) := by decide +kernel
theorem dX4_add_40 : decode cX4_add 40 = .ok (.getfield 19, 3) := by decide +kernel
theorem dX4_add_43 : decode cX4_add 43 = .ok (.iconst 1, 1) := by decide +kernel
theorem dX4_add_44 : decode cX4_add 44 = .ok (.iadd, 1) := by decide +kernel
theorem dX4_add_45 : decode cX4_add 45 = .ok (.putfield 19, 3) := by decide +kernel
theorem dX4_add_48 : decode cX4_add 48 = .ok (.iconst 1, 1) := by decide +kernel
theorem dX4_add_49 : decode cX4_add 49 = .ok (.ireturn, 1) := by decide +kernel
theorem dX4_agreeWith_0 : decode cX4_agreeWith 0 = .ok (.iconst 0, 1) := by decide +kernel
theorem dX4_agreeWith_1 : decode cX4_agreeWith 1 = .ok (.istore_n 3, 1) := by decide +kernel
theorem dX4_agreeWith_2 : decode cX4_agreeWith 2 = .ok (.iload_n 3, 1) := by decide +kernel
theorem dX4_agreeWith_3 : decode cX4_agreeWith 3 = .ok (.aload_n 0, 1) := by decide +kernel
theorem dX4_agreeWith_4 : decode cX4_agreeWith 4 = .ok (.getfield 19, 3) := by decide +kernel
theorem dX4_agreeWith_7 : decode cX4_agreeWith 7 = .ok (.if_icmp .ge 37, 3) := by decide +kernel
theorem dX4_agreeWith_10 : decode cX4_agreeWith 10 = .ok (.iload_n 3, 1) := by decide +kernel
theorem dX4_agreeWith_11 : decode cX4_agreeWith 11 = .ok (.bipush 6, 2) := by decide +kernel
theorem dX4_agreeWith_13 : decode cX4_agreeWith 13 = .ok (.if_icmp .ge 31, 3) := by decide +kernel
theorem dX4_agreeWith_16 : decode cX4_agreeWith 16 = .ok (.iload_n 1, 1) := by decide +kernel
theorem dX4_agreeWith_17 : decode cX4_agreeWith 17 = .ok (.iload_n 2, 1) := by decide +kernel
theorem dX4_agreeWith_18 : decode cX4_agreeWith 18 = .ok (.aload_n 0, 1) := by decide +kernel
theorem dX4_agreeWith_19 : decode cX4_agreeWith 19 = .ok (.getfield 11, 3) := by decide +kernel
theorem dX4_agreeWith_22 : decode cX4_agreeWith 22 = .ok (.iload_n 3, 1) := by decide +kernel
theorem dX4_agreeWith_23 : decode cX4_agreeWith 23 = .ok (.iaload, 1) := by decide +kernel
theorem dX4_agreeWith_24 : decode cX4_agreeWith 24 = .ok (.invokestatic 23, 3) := by decide +kernel
theorem dX4_agreeWith_27 : decode cX4_agreeWith 27 = .ok (.aload_n 0, 1) := by decide +kernel
theorem dX4_agreeWith_28 : decode cX4_agreeWith 28 = .ok (.getfield 15, 3) := by decide +kernel
theorem dX4_agreeWith_31 : decode cX4_agreeWith 31 = .ok (.iload_n 3, 1) := by decide +kernel
theorem dX4_agreeWith_32 : decode cX4_agreeWith 32 = .ok (.baload, 1) := by decide +kernel
theorem dX4_agreeWith_33 : decode cX4_agreeWith 33 = .ok (.if_icmp .eq 5, 3) := by decide +kernel
theorem dX4_agreeWith_36 : decode cX4_agreeWith 36 = .ok (.iconst 0, 1) := by decide +kernel
theorem dX4_agreeWith_37 : decode cX4_agreeWith 37 = .ok (.ireturn, 1) := by decide +kernel
theorem dX4_agreeWith_38 : decode cX4_agreeWith 38 = .ok (.iinc 3 1, 3) := by decide +kernel
theorem dX4_agreeWith_41 : decode cX4_agreeWith 41 = .ok (.goto (-39), 3) := by decide +kernel
theorem dX4_agreeWith_44 : decode cX4_agreeWith 44 = .ok (.iconst 1, 1) := by decide +kernel
theorem dX4_agreeWith_45 : decode cX4_agreeWith 45 = .ok (.ireturn, 1) := by decide +kernel
theorem dX4_wouldStand_0 : decode cX4_wouldStand 0 = .ok (.iload_n 1, 1) := by decide +kernel
theorem dX4_wouldStand_1 : decode cX4_wouldStand 1 = .ok (.ifCond .ne 5, 3) := by decide +kernel
theorem dX4_wouldStand_4 : decode cX4_wouldStand 4 = .ok (.iconst 1, 1) := by decide +kernel
theorem dX4_wouldStand_5 : decode cX4_wouldStand 5 = .ok (.ireturn, 1) := by decide +kernel
theorem dX4_wouldStand_6 : decode cX4_wouldStand 6 = .ok (.iload_n 0, 1) := by decide +kernel
theorem dX4_wouldStand_7 : decode cX4_wouldStand 7 = .ok (.tableswitch 65 0 2 #[25, 37, 52], 25) := by decide +kernel
theorem dX4_wouldStand_32 : decode cX4_wouldStand 32 = .ok (.iload_n 2, 1) := by decide +kernel
theorem dX4_wouldStand_33 : decode cX4_wouldStand 33 = .ok (.iconst 1, 1) := by decide +kernel
theorem dX4_wouldStand_34 : decode cX4_wouldStand 34 = .ok (.iand, 1) := by decide +kernel
theorem dX4_wouldStand_35 : decode cX4_wouldStand 35 = .ok (.ifCond .eq 7, 3) := by decide +kernel
theorem dX4_wouldStand_38 : decode cX4_wouldStand 38 = .ok (.iconst 1, 1) := by decide +kernel
theorem dX4_wouldStand_39 : decode cX4_wouldStand 39 = .ok (.goto 4, 3) := by decide +kernel
theorem dX4_wouldStand_42 : decode cX4_wouldStand 42 = .ok (.iconst 0, 1) := by decide +kernel
theorem dX4_wouldStand_43 : decode cX4_wouldStand 43 = .ok (.ireturn, 1) := by decide +kernel
theorem dX4_wouldStand_44 : decode cX4_wouldStand 44 = .ok (.iload_n 2, 1) := by decide +kernel
theorem dX4_wouldStand_45 : decode cX4_wouldStand 45 = .ok (.bipush 6, 2) := by decide +kernel
theorem dX4_wouldStand_47 : decode cX4_wouldStand 47 = .ok (.iand, 1) := by decide +kernel
theorem dX4_wouldStand_48 : decode cX4_wouldStand 48 = .ok (.bipush 6, 2) := by decide +kernel
theorem dX4_wouldStand_50 : decode cX4_wouldStand 50 = .ok (.if_icmp .ne 7, 3) := by decide +kernel
theorem dX4_wouldStand_53 : decode cX4_wouldStand 53 = .ok (.iconst 1, 1) := by decide +kernel
theorem dX4_wouldStand_54 : decode cX4_wouldStand 54 = .ok (.goto 4, 3) := by decide +kernel
theorem dX4_wouldStand_57 : decode cX4_wouldStand 57 = .ok (.iconst 0, 1) := by decide +kernel
theorem dX4_wouldStand_58 : decode cX4_wouldStand 58 = .ok (.ireturn, 1) := by decide +kernel
theorem dX4_wouldStand_59 : decode cX4_wouldStand 59 = .ok (.iload_n 2, 1) := by decide +kernel
theorem dX4_wouldStand_60 : decode cX4_wouldStand 60 = .ok (.bipush 25, 2) := by decide +kernel
theorem dX4_wouldStand_62 : decode cX4_wouldStand 62 = .ok (.iand, 1) := by decide +kernel
theorem dX4_wouldStand_63 : decode cX4_wouldStand 63 = .ok (.ifCond .eq 7, 3) := by decide +kernel
theorem dX4_wouldStand_66 : decode cX4_wouldStand 66 = .ok (.iconst 1, 1) := by decide +kernel
theorem dX4_wouldStand_67 : decode cX4_wouldStand 67 = .ok (.goto 4, 3) := by decide +kernel
theorem dX4_wouldStand_70 : decode cX4_wouldStand 70 = .ok (.iconst 0, 1) := by decide +kernel
theorem dX4_wouldStand_71 : decode cX4_wouldStand 71 = .ok (.ireturn, 1) := by decide +kernel
theorem dX4_wouldStand_72 : decode cX4_wouldStand 72 = .ok (.iconst 1, 1) := by decide +kernel
theorem dX4_wouldStand_73 : decode cX4_wouldStand 73 = .ok (.ireturn, 1) := by decide +kernel
theorem dJ6_bitCount_0f7a4_0 : decode cJ6_bitCount_0f7a4 0 = .ok (.iload_n 0, 1) := by decide +kernel
theorem dJ6_bitCount_0f7a4_1 : decode cJ6_bitCount_0f7a4 1 = .ok (.iload_n 0, 1) := by decide +kernel
theorem dJ6_bitCount_0f7a4_2 : decode cJ6_bitCount_0f7a4 2 = .ok (.iconst 1, 1) := by decide +kernel
theorem dJ6_bitCount_0f7a4_3 : decode cJ6_bitCount_0f7a4 3 = .ok (.iushr, 1) := by decide +kernel
theorem dJ6_bitCount_0f7a4_4 : decode cJ6_bitCount_0f7a4 4 = .ok (.ldc_w 265, 3) := by decide +kernel
theorem dJ6_bitCount_0f7a4_7 : decode cJ6_bitCount_0f7a4 7 = .ok (.iand, 1) := by decide +kernel
theorem dJ6_bitCount_0f7a4_8 : decode cJ6_bitCount_0f7a4 8 = .ok (.isub, 1) := by decide +kernel
theorem dJ6_bitCount_0f7a4_9 : decode cJ6_bitCount_0f7a4 9 = .ok (.istore_n 0, 1) := by decide +kernel
theorem dJ6_bitCount_0f7a4_10 : decode cJ6_bitCount_0f7a4 10 = .ok (.iload_n 0, 1) := by decide +kernel
theorem dJ6_bitCount_0f7a4_11 : decode cJ6_bitCount_0f7a4 11 = .ok (.ldc_w 266, 3) := by decide +kernel
theorem dJ6_bitCount_0f7a4_14 : decode cJ6_bitCount_0f7a4 14 = .ok (.iand, 1) := by decide +kernel
theorem dJ6_bitCount_0f7a4_15 : decode cJ6_bitCount_0f7a4 15 = .ok (.iload_n 0, 1) := by decide +kernel
theorem dJ6_bitCount_0f7a4_16 : decode cJ6_bitCount_0f7a4 16 = .ok (.iconst 2, 1) := by decide +kernel
theorem dJ6_bitCount_0f7a4_17 : decode cJ6_bitCount_0f7a4 17 = .ok (.iushr, 1) := by decide +kernel
theorem dJ6_bitCount_0f7a4_18 : decode cJ6_bitCount_0f7a4 18 = .ok (.ldc_w 266, 3) := by decide +kernel
theorem dJ6_bitCount_0f7a4_21 : decode cJ6_bitCount_0f7a4 21 = .ok (.iand, 1) := by decide +kernel
theorem dJ6_bitCount_0f7a4_22 : decode cJ6_bitCount_0f7a4 22 = .ok (.iadd, 1) := by decide +kernel
theorem dJ6_bitCount_0f7a4_23 : decode cJ6_bitCount_0f7a4 23 = .ok (.istore_n 0, 1) := by decide +kernel
theorem dJ6_bitCount_0f7a4_24 : decode cJ6_bitCount_0f7a4 24 = .ok (.iload_n 0, 1) := by decide +kernel
theorem dJ6_bitCount_0f7a4_25 : decode cJ6_bitCount_0f7a4 25 = .ok (.iload_n 0, 1) := by decide +kernel
theorem dJ6_bitCount_0f7a4_26 : decode cJ6_bitCount_0f7a4 26 = .ok (.iconst 4, 1) := by decide +kernel
theorem dJ6_bitCount_0f7a4_27 : decode cJ6_bitCount_0f7a4 27 = .ok (.iushr, 1) := by decide +kernel
theorem dJ6_bitCount_0f7a4_28 : decode cJ6_bitCount_0f7a4 28 = .ok (.iadd, 1) := by decide +kernel
theorem dJ6_bitCount_0f7a4_29 : decode cJ6_bitCount_0f7a4 29 = .ok (.ldc_w 267, 3) := by decide +kernel
theorem dJ6_bitCount_0f7a4_32 : decode cJ6_bitCount_0f7a4 32 = .ok (.iand, 1) := by decide +kernel
theorem dJ6_bitCount_0f7a4_33 : decode cJ6_bitCount_0f7a4 33 = .ok (.istore_n 0, 1) := by decide +kernel
theorem dJ6_bitCount_0f7a4_34 : decode cJ6_bitCount_0f7a4 34 = .ok (.iload_n 0, 1) := by decide +kernel
theorem dJ6_bitCount_0f7a4_35 : decode cJ6_bitCount_0f7a4 35 = .ok (.iload_n 0, 1) := by decide +kernel
theorem dJ6_bitCount_0f7a4_36 : decode cJ6_bitCount_0f7a4 36 = .ok (.bipush 8, 2) := by decide +kernel
theorem dJ6_bitCount_0f7a4_38 : decode cJ6_bitCount_0f7a4 38 = .ok (.iushr, 1) := by decide +kernel
theorem dJ6_bitCount_0f7a4_39 : decode cJ6_bitCount_0f7a4 39 = .ok (.iadd, 1) := by decide +kernel
theorem dJ6_bitCount_0f7a4_40 : decode cJ6_bitCount_0f7a4 40 = .ok (.istore_n 0, 1) := by decide +kernel
theorem dJ6_bitCount_0f7a4_41 : decode cJ6_bitCount_0f7a4 41 = .ok (.iload_n 0, 1) := by decide +kernel
theorem dJ6_bitCount_0f7a4_42 : decode cJ6_bitCount_0f7a4 42 = .ok (.iload_n 0, 1) := by decide +kernel
theorem dJ6_bitCount_0f7a4_43 : decode cJ6_bitCount_0f7a4 43 = .ok (.bipush 16, 2) := by decide +kernel
theorem dJ6_bitCount_0f7a4_45 : decode cJ6_bitCount_0f7a4 45 = .ok (.iushr, 1) := by decide +kernel
theorem dJ6_bitCount_0f7a4_46 : decode cJ6_bitCount_0f7a4 46 = .ok (.iadd, 1) := by decide +kernel
theorem dJ6_bitCount_0f7a4_47 : decode cJ6_bitCount_0f7a4 47 = .ok (.istore_n 0, 1) := by decide +kernel
theorem dJ6_bitCount_0f7a4_48 : decode cJ6_bitCount_0f7a4 48 = .ok (.iload_n 0, 1) := by decide +kernel
theorem dJ6_bitCount_0f7a4_49 : decode cJ6_bitCount_0f7a4 49 = .ok (.bipush 63, 2) := by decide +kernel
theorem dJ6_bitCount_0f7a4_51 : decode cJ6_bitCount_0f7a4 51 = .ok (.iand, 1) := by decide +kernel
theorem dJ6_bitCount_0f7a4_52 : decode cJ6_bitCount_0f7a4 52 = .ok (.ireturn, 1) := by decide +kernel
theorem dJ9_min_7cf53_0 : decode cJ9_min_7cf53 0 = .ok (.iload_n 0, 1) := by decide +kernel
theorem dJ9_min_7cf53_1 : decode cJ9_min_7cf53 1 = .ok (.iload_n 1, 1) := by decide +kernel
theorem dJ9_min_7cf53_2 : decode cJ9_min_7cf53 2 = .ok (.if_icmp .gt 7, 3) := by decide +kernel
theorem dJ9_min_7cf53_5 : decode cJ9_min_7cf53 5 = .ok (.iload_n 0, 1) := by decide +kernel
theorem dJ9_min_7cf53_6 : decode cJ9_min_7cf53 6 = .ok (.goto 4, 3) := by decide +kernel
theorem dJ9_min_7cf53_9 : decode cJ9_min_7cf53 9 = .ok (.iload_n 1, 1) := by decide +kernel
theorem dJ9_min_7cf53_10 : decode cJ9_min_7cf53 10 = .ok (.ireturn, 1) := by decide +kernel
