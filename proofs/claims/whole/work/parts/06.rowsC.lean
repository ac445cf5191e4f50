theorem dX6_init_0 : decode cX6_init 0 = .ok (.aload_n 0, 1) := by decide +kernel
theorem dX6_init_1 : decode cX6_init 1 = .ok (.invokespecial 1, 3) := by decide +kernel
theorem dX6_init_4 : decode cX6_init 4 = .ok (.aload_n 0, 1) := by decide +kernel
theorem dX6_init_5 : decode cX6_init 5 = .ok (.bipush 32, 2) := by decide +kernel
theorem dX6_init_7 : decode cX6_init 7 = .ok (.newarray .int, 2) := by decide +kernel
theorem dX6_init_9 : decode cX6_init 9 = .ok (.putfield 7, 3) := by decide +kernel
theorem dX6_init_12 : decode cX6_init 12 = .ok (.aload_n 0, 1) := by decide +kernel
theorem dX6_init_13 : decode cX6_init 13 = .ok (.bipush 7, 2) := by decide +kernel
theorem dX6_init_15 : decode cX6_init 15 = .ok (.newarray .int, 2) := by decide +kernel
theorem dX6_init_17 : decode cX6_init 17 = .ok (.putfield 13, 3) := by decide +kernel
theorem dX6_init_20 : decode cX6_init 20 = .ok (.aload_n 0, 1) := by decide +kernel
theorem dX6_init_21 : decode cX6_init 21 = .ok (.bipush 7, 2) := by decide +kernel
theorem dX6_init_23 : decode cX6_init 23 = .ok (.newarray .int, 2) := by decide +kernel
theorem dX6_init_25 : decode cX6_init 25 = .ok (.putfield 16, 3) := by decide +kernel
theorem dX6_init_28 : decode cX6_init 28 = .ok (.aload_n 0, 1) := by decide +kernel
theorem dX6_init_29 : decode cX6_init 29 = .ok (.bipush 14, 2) := by decide +kernel
theorem dX6_init_31 : decode cX6_init 31 = .ok (.newarray .int, 2) := by decide +kernel
theorem dX6_init_33 : decode cX6_init 33 = .ok (.putfield 19, 3) := by decide +kernel
theorem dX6_init_36 : decode cX6_init 36 = .ok (.aload_n 0, 1) := by decide +kernel
theorem dX6_init_37 : decode cX6_init 37 = .ok (.bipush 7, 2) := by decide +kernel
theorem dX6_init_39 : decode cX6_init 39 = .ok (.newarray .int, 2) := by decide +kernel
theorem dX6_init_41 : decode cX6_init 41 = .ok (.putfield 22, 3) := by decide +kernel
theorem dX6_init_44 : decode cX6_init 44 = .ok (.aload_n 0, 1) := by decide +kernel
theorem dX6_init_45 : decode cX6_init 45 = .ok (.bipush 7, 2) := by decide +kernel
theorem dX6_init_47 : decode cX6_init 47 = .ok (.newarray .int, 2) := by decide +kernel
theorem dX6_init_49 : decode cX6_init 49 = .ok (.putfield 25, 3) := by decide +kernel
theorem dX6_init_52 : decode cX6_init 52 = .ok (.aload_n 0, 1) := by decide +kernel
theorem dX6_init_53 : decode cX6_init 53 = .ok (.bipush 98, 2) := by decide +kernel
theorem dX6_init_55 : decode cX6_init 55 = .ok (.newarray .int, 2) := by decide +kernel
theorem dX6_init_57 : decode cX6_init 57 = .ok (.putfield 28, 3) := by decide +kernel
theorem dX6_init_60 : decode cX6_init 60 = .ok (.aload_n 0, 1) := by decide +kernel
theorem dX6_init_61 : decode cX6_init 61 = .ok (.bipush 14, 2) := by decide +kernel
theorem dX6_init_63 : decode cX6_init 63 = .ok (.newarray .int, 2) := by decide +kernel
theorem dX6_init_65 : decode cX6_init 65 = .ok (.putfield 31, 3) := by decide +kernel
theorem dX6_init_68 : decode cX6_init 68 = .ok (.aload_n 0, 1) := by decide +kernel
theorem dX6_init_69 : decode cX6_init 69 = .ok (.iconst 2, 1) := by decide +kernel
theorem dX6_init_70 : decode cX6_init 70 = .ok (.newarray .boolean, 2) := by decide +kernel
theorem dX6_init_72 : decode cX6_init 72 = .ok (.putfield 34, 3) := by decide +kernel
theorem dX6_init_75 : decode cX6_init 75 = .ok (.aload_n 0, 1) := by decide +kernel
theorem dX6_init_76 : decode cX6_init 76 = .ok (.bipush 6, 2) := by decide +kernel
theorem dX6_init_78 : decode cX6_init 78 = .ok (.newarray .int, 2) := by decide +kernel
theorem dX6_init_80 : decode cX6_init 80 = .ok (.putfield 38, 3) := by decide +kernel
theorem dX6_init_83 : decode cX6_init 83 = .ok (.aload_n 0, 1) := by decide +kernel
theorem dX6_init_84 : decode cX6_init 84 = .ok (.bipush 6, 2) := by decide +kernel
theorem dX6_init_86 : decode cX6_init 86 = .ok (.newarray .int, 2) := by decide +kernel
theorem dX6_init_88 : decode cX6_init 88 = .ok (.putfield 41, 3) := by decide +kernel
theorem dX6_init_91 : decode cX6_init 91 = .ok (.aload_n 0, 1) := by decide +kernel
theorem dX6_init_92 : decode cX6_init 92 = .ok (.bipush 18, 2) := by decide +kernel
theorem dX6_init_94 : decode cX6_init 94 = .ok (.newarray .int, 2) := by decide +kernel
theorem dX6_init_96 : decode cX6_init 96 = .ok (.putfield 44, 3) := by decide +kernel
theorem dX6_init_99 : decode cX6_init 99 = .ok (.aload_n 0, 1) := by decide +kernel
theorem dX6_init_100 : decode cX6_init 100 = .ok (.sipush 128, 3) := by decide +kernel
theorem dX6_init_103 : decode cX6_init 103 = .ok (.newarray .int, 2) := by decide +kernel
theorem dX6_init_105 : decode cX6_init 105 = .ok (.putfield 47, 3) := by decide +kernel
theorem dX6_init_108 : decode cX6_init 108 = .ok (.return_, 1) := by decide +kernel
theorem dX6_in_0 : decode cX6_in 0 = .ok (.lload_n 0, 1) := by decide +kernel
theorem dX6_in_1 : decode cX6_in 1 = .ok (.lload_n 2, 1) := by decide +kernel
theorem dX6_in_2 : decode cX6_in 2 = .ok (.lcmp, 1) := by decide +kernel
theorem dX6_in_3 : decode cX6_in 3 = .ok (.ifCond .lt 14, 3) := by decide +kernel
theorem dX6_in_6 : decode cX6_in 6 = .ok (.lload_n 0, 1) := by decide +kernel
theorem dX6_in_7 : decode cX6_in 7 = .ok (.lload 4, 2) := by decide +kernel
theorem dX6_in_9 : decode cX6_in 9 = .ok (.lcmp, 1) := by decide +kernel
theorem dX6_in_10 : decode cX6_in 10 = .ok (.ifCond .gt 7, 3) := by decide +kernel
theorem dX6_in_13 : decode cX6_in 13 = .ok (.iconst 1, 1) := by decide +kernel
theorem dX6_in_14 : decode cX6_in 14 = .ok (.goto 4, 3) := by decide +kernel
theorem dX6_in_17 : decode cX6_in 17 = .ok (.iconst 0, 1) := by decide +kernel
theorem dX6_in_18 : decode cX6_in 18 = .ok (.ireturn, 1) := by decide +kernel
theorem dX6_has_0 : decode cX6_has 0 = .ok (.iload_n 0, 1) := by decide +kernel
theorem dX6_has_1 : decode cX6_has 1 = .ok (.iload_n 1, 1) := by decide +kernel
theorem dX6_has_2 : decode cX6_has 2 = .ok (.ishr, 1) := by decide +kernel
theorem dX6_has_3 : decode cX6_has 3 = .ok (.iconst 1, 1) := by decide +kernel
theorem dX6_has_4 : decode cX6_has 4 = .ok (.iand, 1) := by decide +kernel
theorem dX6_has_5 : decode cX6_has 5 = .ok (.iconst 1, 1) := by decide +kernel
theorem dX6_has_6 : decode cX6_has 6 = .ok (.if_icmp .ne 7, 3) := by decide +kernel
theorem dX6_has_9 : decode cX6_has 9 = .ok (.iconst 1, 1) := by decide +kernel
theorem dX6_has_10 : decode cX6_has 10 = .ok (.goto 4, 3) := by decide +kernel
theorem dX6_has_13 : decode cX6_has 13 = .ok (.iconst 0, 1) := by decide +kernel
theorem dX6_has_14 : decode cX6_has 14 = .ok (.ireturn, 1) := by decide +kernel
theorem dX6_many_0 : decode cX6_many 0 = .ok (.iconst 0, 1) := by decide +kernel
theorem dX6_many_1 : decode cX6_many 1 = .ok (.istore_n 1, 1) := by decide +kernel
theorem dX6_many_2 : decode cX6_many 2 = .ok (.iconst 0, 1) := by decide +kernel
theorem dX6_many_3 : decode cX6_many 3 = .ok (.istore_n 2, 1) := by decide +kernel
theorem dX6_many_4 : decode cX6_many 4 = .ok (.iload_n 2, 1) := by decide +kernel
theorem dX6_many_5 : decode cX6_many 5 = .ok (.bipush 7, 2) := by decide +kernel
theorem dX6_many_7 : decode cX6_many 7 = .ok (.if_icmp .ge 17, 3) := by decide +kernel
theorem dX6_many_10 : decode cX6_many 10 = .ok (.iload_n 1, 1) := by decide +kernel
theorem dX6_many_11 : decode cX6_many 11 = .ok (.iload_n 0, 1) := by decide +kernel
theorem dX6_many_12 : decode cX6_many 12 = .ok (.iload_n 2, 1) := by decide +kernel
theorem dX6_many_13 : decode cX6_many 13 = .ok (.ishr, 1) := by decide +kernel
theorem dX6_many_14 : decode cX6_many 14 = .ok (.iconst 1, 1) := by decide +kernel
theorem dX6_many_15 : decode cX6_many 15 = .ok (.iand, 1) := by decide +kernel
theorem dX6_many_16 : decode cX6_many 16 = .ok (.iadd, 1) := by decide +kernel
theorem dX6_many_17 : decode cX6_many 17 = .ok (.istore_n 1, 1) := by decide +kernel
theorem dX6_many_18 : decode cX6_many 18 = .ok (.iinc 2 1, 3) := by decide +kernel
theorem dX6_many_21 : decode cX6_many 21 = .ok (.goto (-17), 3) := by decide +kernel
theorem dX6_many_24 : decode cX6_many 24 = .ok (.iload_n 1, 1) := by decide +kernel
theorem dX6_many_25 : decode cX6_many 25 = .ok (.ireturn, 1) := by decide +kernel
theorem dX6_power_0 : decode cX6_power 0 = .ok (.iconst 1, 1) := by decide +kernel
theorem dX6_power_1 : decode cX6_power 1 = .ok (.istore_n 2, 1) := by decide +kernel
theorem dX6_power_2 : decode cX6_power 2 = .ok (.iconst 0, 1) := by decide +kernel
theorem dX6_power_3 : decode cX6_power 3 = .ok (.istore_n 3, 1) := by decide +kernel
theorem dX6_power_4 : decode cX6_power 4 = .ok (.iload_n 3, 1) := by decide +kernel
theorem dX6_power_5 : decode cX6_power 5 = .ok (.iload_n 1, 1) := by decide +kernel
theorem dX6_power_6 : decode cX6_power 6 = .ok (.if_icmp .ge 13, 3) := by decide +kernel
theorem dX6_power_9 : decode cX6_power 9 = .ok (.iload_n 2, 1) := by decide +kernel
theorem dX6_power_10 : decode cX6_power 10 = .ok (.iload_n 0, 1) := by decide +kernel
theorem dX6_power_11 : decode cX6_power 11 = .ok (.imul, 1) := by decide +kernel
theorem dX6_power_12 : decode cX6_power 12 = .ok (.istore_n 2, 1) := by decide +kernel
theorem dX6_power_13 : decode cX6_power 13 = .ok (.iinc 3 1, 3) := by decide +kernel
theorem dX6_power_16 : decode cX6_power 16 = .ok (.goto (-12), 3) := by decide +kernel
theorem dX6_power_19 : decode cX6_power 19 = .ok (.iload_n 2, 1) := by decide +kernel
theorem dX6_power_20 : decode cX6_power 20 = .ok (.ireturn, 1) := by decide +kernel
theorem dX6_noColumn_0 : decode cX6_noColumn 0 = .ok (.iload_n 0, 1) := by decide +kernel
theorem dX6_noColumn_1 : decode cX6_noColumn 1 = .ok (.i2l, 1) := by decide +kernel
theorem dX6_noColumn_2 : decode cX6_noColumn 2 = .ok (.lconst 0, 1) := by decide +kernel
theorem dX6_noColumn_3 : decode cX6_noColumn 3 = .ok (.ldc2_w 54, 3) := by decide +kernel
theorem dX6_noColumn_6 : decode cX6_noColumn 6 = .ok (.invokestatic 56, 3) := by decide +kernel
theorem dX6_noColumn_9 : decode cX6_noColumn 9 = .ok (.ifCond .ne 7, 3) := by decide +kernel
theorem dX6_noColumn_12 : decode cX6_noColumn 12 = .ok (.iconst 1, 1) := by decide +kernel
theorem dX6_noColumn_13 : decode cX6_noColumn 13 = .ok (.goto 4, 3) := by decide +kernel
theorem dX6_noColumn_16 : decode cX6_noColumn 16 = .ok (.iconst 0, 1) := by decide +kernel
theorem dX6_noColumn_17 : decode cX6_noColumn 17 = .ok (.ireturn, 1) := by decide +kernel
theorem dX6_noPart_0 : decode cX6_noPart 0 = .ok (.iload_n 1, 1) := by decide +kernel
theorem dX6_noPart_1 : decode cX6_noPart 1 = .ok (.i2l, 1) := by decide +kernel
theorem dX6_noPart_2 : decode cX6_noPart 2 = .ok (.lconst 0, 1) := by decide +kernel
theorem dX6_noPart_3 : decode cX6_noPart 3 = .ok (.aload_n 0, 1) := by decide +kernel
theorem dX6_noPart_4 : decode cX6_noPart 4 = .ok (.getfield 60, 3) := by decide +kernel
theorem dX6_noPart_7 : decode cX6_noPart 7 = .ok (.iconst 1, 1) := by decide +kernel
theorem dX6_noPart_8 : decode cX6_noPart 8 = .ok (.isub, 1) := by decide +kernel
theorem dX6_noPart_9 : decode cX6_noPart 9 = .ok (.i2l, 1) := by decide +kernel
theorem dX6_noPart_10 : decode cX6_noPart 10 = .ok (.invokestatic 56, 3) := by decide +kernel
theorem dX6_noPart_13 : decode cX6_noPart 13 = .ok (.ifCond .ne 7, 3) := by decide +kernel
theorem dX6_noPart_16 : decode cX6_noPart 16 = .ok (.iconst 1, 1) := by decide +kernel
theorem dX6_noPart_17 : decode cX6_noPart 17 = .ok (.goto 4, 3) := by decide +kernel
theorem dX6_noPart_20 : decode cX6_noPart 20 = .ok (.iconst 0, 1) := by decide +kernel
theorem dX6_noPart_21 : decode cX6_noPart 21 = .ok (.ireturn, 1) := by decide +kernel
theorem dX6_write_0 : decode cX6_write 0 = .ok (.aload_n 0, 1) := by decide +kernel
theorem dX6_write_1 : decode cX6_write 1 = .ok (.iconst 0, 1) := by decide +kernel
theorem dX6_write_2 : decode cX6_write 2 = .ok (.putfield 50, 3) := by decide +kernel
theorem dX6_write_5 : decode cX6_write 5 = .ok (.iload_n 1, 1) := by decide +kernel
theorem dX6_write_6 : decode cX6_write 6 = .ok (.i2l, 1) := by decide +kernel
theorem dX6_write_7 : decode cX6_write 7 = .ok (.lconst 0, 1) := by decide +kernel
theorem dX6_write_8 : decode cX6_write 8 = .ok (.ldc2_w 63, 3) := by decide +kernel
theorem dX6_write_11 : decode cX6_write 11 = .ok (.invokestatic 56, 3) := by decide +kernel
theorem dX6_write_14 : decode cX6_write 14 = .ok (.ifCond .ne 6, 3) := by decide +kernel
theorem dX6_write_17 : decode cX6_write 17 = .ok (.bipush (-2), 2) := by decide +kernel
theorem dX6_write_19 : decode cX6_write 19 = .ok (.ireturn, 1) := by decide +kernel
theorem dX6_write_20 : decode cX6_write 20 = .ok (.aload_n 0, 1) := by decide +kernel
theorem dX6_write_21 : decode cX6_write 21 = .ok (.getfield 65, 3) := by decide +kernel
theorem dX6_write_24 : decode cX6_write 24 = .ok (.bipush 32, 2) := by decide +kernel
theorem dX6_write_26 : decode cX6_write 26 = .ok (.if_icmp .ne 6, 3) := by decide +kernel
theorem dX6_write_29 : decode cX6_write 29 = .ok (.bipush (-4), 2) := by decide +kernel
theorem dX6_write_31 : decode cX6_write 31 = .ok (.ireturn, 1) := by decide +kernel
theorem dX6_write_32 : decode cX6_write 32 = .ok (.aload_n 0, 1) := by decide +kernel
theorem dX6_write_33 : decode cX6_write 33 = .ok (.getfield 7, 3) := by decide +kernel
theorem dX6_write_36 : decode cX6_write 36 = .ok (.aload_n 0, 1) := by decide +kernel
theorem dX6_write_37 : decode cX6_write 37 = .ok (.getfield 65, 3) := by decide +kernel
theorem dX6_write_40 : decode cX6_write 40 = .ok (.iload_n 1, 1) := by decide +kernel
theorem dX6_write_41 : decode cX6_write 41 = .ok (.iastore, 1) := by decide +kernel
theorem dX6_write_42 : decode cX6_write 42 = .ok (.aload_n 0, 1) := by decide +kernel
theorem dX6_write_43 : decode cX6_write 43 = .ok (.dup, 1) := by decide +kernel
theorem dX6_write_44 : decode cX6_write 44 = .ok (.getfield 65, 3) := by decide +kernel
theorem dX6_write_47 : decode cX6_write 47 = .ok (.iconst 1, 1) := by decide +kernel
theorem dX6_write_48 : decode cX6_write 48 = .ok (.iadd, 1) := by decide +kernel
theorem dX6_write_49 : decode cX6_write 49 = .ok (.putfield 65, 3) := by decide +kernel
theorem dX6_write_52 : decode cX6_write 52 = .ok (.aload_n 0, 1) := by decide +kernel
theorem dX6_write_53 : decode cX6_write 53 = .ok (.getfield 65, 3) := by decide +kernel
theorem dX6_write_56 : decode cX6_write 56 = .ok (.ireturn, 1) := by decide +kernel
theorem dX6_wipe_0 : decode cX6_wipe 0 = .ok (.aload_n 0, 1) := by decide +kernel
theorem dX6_wipe_1 : decode cX6_wipe 1 = .ok (.iconst 0, 1) := by decide +kernel
theorem dX6_wipe_2 : decode cX6_wipe 2 = .ok (.putfield 50, 3) := by decide +kernel
theorem dX6_wipe_5 : decode cX6_wipe 5 = .ok (.aload_n 0, 1) := by decide +kernel
theorem dX6_wipe_6 : decode cX6_wipe 6 = .ok (.getfield 65, 3) := by decide +kernel
theorem dX6_wipe_9 : decode cX6_wipe 9 = .ok (.istore_n 1, 1) := by decide +kernel
theorem dX6_wipe_10 : decode cX6_wipe 10 = .ok (.aload_n 0, 1) := by decide +kernel
theorem dX6_wipe_11 : decode cX6_wipe 11 = .ok (.iconst 0, 1) := by decide +kernel
theorem dX6_wipe_12 : decode cX6_wipe 12 = .ok (.putfield 65, 3) := by decide +kernel
theorem dX6_wipe_15 : decode cX6_wipe 15 = .ok (.iload_n 1, 1) := by decide +kernel
theorem dX6_wipe_16 : decode cX6_wipe 16 = .ok (.ireturn, 1) := by decide +kernel
theorem dX6_readPart_0 : decode cX6_readPart 0 = .ok (.aload_n 0, 1) := by decide +kernel
theorem dX6_readPart_1 : decode cX6_readPart 1 = .ok (.getfield 7, 3) := by decide +kernel
theorem dX6_readPart_4 : decode cX6_readPart 4 = .ok (.aload_n 0, 1) := by decide +kernel
theorem dX6_readPart_5 : decode cX6_readPart 5 = .ok (.getfield 68, 3) := by decide +kernel
theorem dX6_readPart_8 : decode cX6_readPart 8 = .ok (.iaload, 1) := by decide +kernel
theorem dX6_readPart_9 : decode cX6_readPart 9 = .ok (.bipush 80, 2) := by decide +kernel
theorem dX6_readPart_11 : decode cX6_readPart 11 = .ok (.if_icmp .ne 12, 3) := by decide +kernel
theorem dX6_readPart_14 : decode cX6_readPart 14 = .ok (.aload_n 0, 1) := by decide +kernel
theorem dX6_readPart_15 : decode cX6_readPart 15 = .ok (.getfield 71, 3) := by decide +kernel
theorem dX6_readPart_18 : decode cX6_readPart 18 = .ok (.bipush 7, 2) := by decide +kernel
theorem dX6_readPart_20 : decode cX6_readPart 20 = .ok (.if_icmp .ne 5, 3) := by decide +kernel
theorem dX6_readPart_23 : decode cX6_readPart 23 = .ok (.iconst 0, 1) := by decide +kernel
theorem dX6_readPart_24 : decode cX6_readPart 24 = .ok (.ireturn, 1) := by decide +kernel
theorem dX6_readPart_25 : decode cX6_readPart 25 = .ok (.aload_n 0, 1) := by decide +kernel
theorem dX6_readPart_26 : decode cX6_readPart 26 = .ok (.dup, 1) := by decide +kernel
theorem dX6_readPart_27 : decode cX6_readPart 27 = .ok (.getfield 68, 3) := by decide +kernel
theorem dX6_readPart_30 : decode cX6_readPart 30 = .ok (.iconst 1, 1) := by decide +kernel
theorem dX6_readPart_31 : decode cX6_readPart 31 = .ok (.iadd, 1) := by decide +kernel
theorem dX6_readPart_32 : decode cX6_readPart 32 = .ok (.putfield 68, 3) := by decide +kernel
theorem dX6_readPart_35 : decode cX6_readPart 35 = .ok (.aload_n 0, 1) := by decide +kernel
theorem dX6_readPart_36 : decode cX6_readPart 36 = .ok (.getfield 68, 3) := by decide +kernel
theorem dX6_readPart_39 : decode cX6_readPart 39 = .ok (.aload_n 0, 1) := by decide +kernel
theorem dX6_readPart_40 : decode cX6_readPart 40 = .ok (.getfield 65, 3) := by decide +kernel
theorem dX6_readPart_43 : decode cX6_readPart 43 = .ok (.if_icmp .ge 18, 3) := by decide +kernel
theorem dX6_readPart_46 : decode cX6_readPart 46 = .ok (.aload_n 0, 1) := by decide +kernel
theorem dX6_readPart_47 : decode cX6_readPart 47 = .ok (.getfield 7, 3) := by decide +kernel
theorem dX6_readPart_50 : decode cX6_readPart 50 = .ok (.aload_n 0, 1) := by decide +kernel
theorem dX6_readPart_51 : decode cX6_readPart 51 = .ok (.getfield 68, 3) := by decide +kernel
theorem dX6_readPart_54 : decode cX6_readPart 54 = .ok (.iaload, 1) := by decide +kernel
theorem dX6_readPart_55 : decode cX6_readPart 55 = .ok (.bipush 97, 2) := by decide +kernel
theorem dX6_readPart_57 : decode cX6_readPart 57 = .ok (.isub, 1) := by decide +kernel
theorem dX6_readPart_58 : decode cX6_readPart 58 = .ok (.goto 5, 3) := by decide +kernel
theorem dX6_readPart_61 : decode cX6_readPart 61 = .ok (.bipush (-9), 2) := by decide +kernel
theorem dX6_readPart_63 : decode cX6_readPart 63 = .ok (.istore_n 1, 1) := by decide +kernel
theorem dX6_readPart_64 : decode cX6_readPart 64 = .ok (.iload_n 1, 1) := by decide +kernel
theorem dX6_readPart_65 : decode cX6_readPart 65 = .ok (.i2l, 1) := by decide +kernel
theorem dX6_readPart_66 : decode cX6_readPart 66 = .ok (.lconst 0, 1) := by decide +kernel
theorem dX6_readPart_67 : decode cX6_readPart 67 = .ok (.ldc2_w 74, 3) := by decide +kernel
theorem dX6_readPart_70 : decode cX6_readPart 70 = .ok (.invokestatic 56, 3) := by decide +kernel
theorem dX6_readPart_73 : decode cX6_readPart 73 = .ok (.ifCond .eq 14, 3) := by decide +kernel
theorem dX6_readPart_76 : decode cX6_readPart 76 = .ok (.aload_n 0, 1) := by decide +kernel
theorem dX6_readPart_77 : decode cX6_readPart 77 = .ok (.getfield 76, 3) := by decide +kernel
theorem dX6_readPart_80 : decode cX6_readPart 80 = .ok (.iload_n 1, 1) := by decide +kernel
theorem dX6_readPart_81 : decode cX6_readPart 81 = .ok (.invokestatic 79, 3) := by decide +kernel
theorem dX6_readPart_84 : decode cX6_readPart 84 = .ok (.ifCond .eq 5, 3) := by decide +kernel
theorem dX6_readPart_87 : decode cX6_readPart 87 = .ok (.iconst 0, 1) := by decide +kernel
theorem dX6_readPart_88 : decode cX6_readPart 88 = .ok (.ireturn, 1) := by decide +kernel
theorem dX6_readPart_89 : decode cX6_readPart 89 = .ok (.aload_n 0, 1) := by decide +kernel
theorem dX6_readPart_90 : decode cX6_readPart 90 = .ok (.dup, 1) := by decide +kernel
theorem dX6_readPart_91 : decode cX6_readPart 91 = .ok (.getfield 68, 3) := by decide +kernel
theorem dX6_readPart_94 : decode cX6_readPart 94 = .ok (.iconst 1, 1) := by decide +kernel
theorem dX6_readPart_95 : decode cX6_readPart 95 = .ok (.iadd, 1) := by decide +kernel
theorem dX6_readPart_96 : decode cX6_readPart 96 = .ok (.putfield 68, 3) := by decide +kernel
theorem dX6_readPart_99 : decode cX6_readPart 99 = .ok (.aload_n 0, 1) := by decide +kernel
theorem dX6_readPart_100 : decode cX6_readPart 100 = .ok (.getfield 68, 3) := by decide +kernel
theorem dX6_readPart_103 : decode cX6_readPart 103 = .ok (.aload_n 0, 1) := by decide +kernel
theorem dX6_readPart_104 : decode cX6_readPart 104 = .ok (.getfield 65, 3) := by decide +kernel
theorem dX6_readPart_107 : decode cX6_readPart 107 = .ok (.if_icmp .ge 18, 3) := by decide +kernel
theorem dX6_readPart_110 : decode cX6_readPart 110 = .ok (.aload_n 0, 1) := by decide +kernel
theorem dX6_readPart_111 : decode cX6_readPart 111 = .ok (.getfield 7, 3) := by decide +kernel
theorem dX6_readPart_114 : decode cX6_readPart 114 = .ok (.aload_n 0, 1) := by decide +kernel
theorem dX6_readPart_115 : decode cX6_readPart 115 = .ok (.getfield 68, 3) := by decide +kernel
theorem dX6_readPart_118 : decode cX6_readPart 118 = .ok (.iaload, 1) := by decide +kernel
theorem dX6_readPart_119 : decode cX6_readPart 119 = .ok (.bipush 48, 2) := by decide +kernel
theorem dX6_readPart_121 : decode cX6_readPart 121 = .ok (.isub, 1) := by decide +kernel
theorem dX6_readPart_122 : decode cX6_readPart 122 = .ok (.goto 5, 3) := by decide +kernel
theorem dX6_readPart_125 : decode cX6_readPart 125 = .ok (.bipush (-9), 2) := by decide +kernel
theorem dX6_readPart_127 : decode cX6_readPart 127 = .ok (.istore_n 2, 1) := by decide +kernel
theorem dX6_readPart_128 : decode cX6_readPart 128 = .ok (.iload_n 2, 1) := by decide +kernel
theorem dX6_readPart_129 : decode cX6_readPart 129 = .ok (.i2l, 1) := by decide +kernel
theorem dX6_readPart_130 : decode cX6_readPart 130 = .ok (.lconst 0, 1) := by decide +kernel
theorem dX6_readPart_131 : decode cX6_readPart 131 = .ok (.ldc2_w 54, 3) := by decide +kernel
theorem dX6_readPart_134 : decode cX6_readPart 134 = .ok (.invokestatic 56, 3) := by decide +kernel
theorem dX6_readPart_137 : decode cX6_readPart 137 = .ok (.ifCond .ne 5, 3) := by decide +kernel
theorem dX6_readPart_140 : decode cX6_readPart 140 = .ok (.iconst 0, 1) := by decide +kernel
theorem dX6_readPart_141 : decode cX6_readPart 141 = .ok (.ireturn, 1) := by decide +kernel
theorem dX6_readPart_142 : decode cX6_readPart 142 = .ok (.aload_n 0, 1) := by decide +kernel
theorem dX6_readPart_143 : decode cX6_readPart 143 = .ok (.dup, 1) := by decide +kernel
theorem dX6_readPart_144 : decode cX6_readPart 144 = .ok (.getfield 68, 3) := by decide +kernel
theorem dX6_readPart_147 : decode cX6_readPart 147 = .ok (.iconst 1, 1) := by decide +kernel
theorem dX6_readPart_148 : decode cX6_readPart 148 = .ok (.iadd, 1) := by decide +kernel
theorem dX6_readPart_149 : decode cX6_readPart 149 = .ok (.putfield 68, 3) := by decide +kernel
theorem dX6_readPart_152 : decode cX6_readPart 152 = .ok (.aload_n 0, 1) := by decide +kernel
theorem dX6_readPart_153 : decode cX6_readPart 153 = .ok (.dup, 1) := by decide +kernel
theorem dX6_readPart_154 : decode cX6_readPart 154 = .ok (.getfield 76, 3) := by decide +kernel
theorem dX6_readPart_157 : decode cX6_readPart 157 = .ok (.iconst 1, 1) := by decide +kernel
theorem dX6_readPart_158 : decode cX6_readPart 158 = .ok (.iload_n 1, 1) := by decide +kernel
theorem dX6_readPart_159 : decode cX6_readPart 159 = .ok (.ishl, 1) := by decide +kernel
theorem dX6_readPart_160 : decode cX6_readPart 160 = .ok (.ior, 1) := by decide +kernel
theorem dX6_readPart_161 : decode cX6_readPart 161 = .ok (.putfield 76, 3) := by decide +kernel
theorem dX6_readPart_164 : decode cX6_readPart 164 = .ok (.aload_n 0, 1) := by decide +kernel
theorem dX6_readPart_165 : decode cX6_readPart 165 = .ok (.getfield 19, 3) := by decide +kernel
theorem dX6_readPart_168 : decode cX6_readPart 168 = .ok (.iconst 2, 1) := by decide +kernel
theorem dX6_readPart_169 : decode cX6_readPart 169 = .ok (.aload_n 0, 1) := by decide +kernel
theorem dX6_readPart_170 : decode cX6_readPart 170 = .ok (.getfield 71, 3) := by decide +kernel
theorem dX6_readPart_173 : decode cX6_readPart 173 = .ok (.imul, 1) := by decide +kernel
theorem dX6_readPart_174 : decode cX6_readPart 174 = .ok (.iload_n 1, 1) := by decide +kernel
theorem dX6_readPart_175 : decode cX6_readPart 175 = .ok (.iastore, 1) := by decide +kernel
theorem dX6_readPart_176 : decode cX6_readPart 176 = .ok (.aload_n 0, 1) := by decide +kernel
theorem dX6_readPart_177 : decode cX6_readPart 177 = .ok (.getfield 19, 3) := by decide +kernel
theorem dX6_readPart_180 : decode cX6_readPart 180 = .ok (.iconst 2, 1) := by decide +kernel
theorem dX6_readPart_181 : decode cX6_readPart 181 = .ok (.aload_n 0, 1) := by decide +kernel
theorem dX6_readPart_182 : decode cX6_readPart 182 = .ok (.getfield 71, 3) := by decide +kernel
theorem dX6_readPart_185 : decode cX6_readPart 185 = .ok (.imul, 1) := by decide +kernel
theorem dX6_readPart_186 : decode cX6_readPart 186 = .ok (.iconst 1, 1) := by decide +kernel
theorem dX6_readPart_187 : decode cX6_readPart 187 = .ok (.iadd, 1) := by decide +kernel
theorem dX6_readPart_188 : decode cX6_readPart 188 = .ok (.iload_n 2, 1) := by decide +kernel
theorem dX6_readPart_189 : decode cX6_readPart 189 = .ok (.iastore, 1) := by decide +kernel
theorem dX6_readPart_190 : decode cX6_readPart 190 = .ok (.aload_n 0, 1) := by decide +kernel
theorem dX6_readPart_191 : decode cX6_readPart 191 = .ok (.dup, 1) := by decide +kernel
theorem dX6_readPart_192 : decode cX6_readPart 192 = .ok (.getfield 71, 3) := by decide +kernel
theorem dX6_readPart_195 : decode cX6_readPart 195 = .ok (.iconst 1, 1) := by decide +kernel
theorem dX6_readPart_196 : decode cX6_readPart 196 = .ok (.iadd, 1) := by decide +kernel
theorem dX6_readPart_197 : decode cX6_readPart 197 = .ok (.putfield 71, 3) := by decide +kernel
theorem dX6_readPart_200 : decode cX6_readPart 200 = .ok (.iconst 1, 1) := by decide +kernel
theorem dX6_readPart_201 : decode cX6_readPart 201 = .ok (.ireturn, 1) := by decide +kernel
theorem dX6_readIdea_0 : decode cX6_readIdea 0 = .ok (.aload_n 0, 1) := by decide +kernel
theorem dX6_readIdea_1 : decode cX6_readIdea 1 = .ok (.iconst 0, 1) := by decide +kernel
theorem dX6_readIdea_2 : decode cX6_readIdea 2 = .ok (.putfield 68, 3) := by decide +kernel
theorem dX6_readIdea_5 : decode cX6_readIdea 5 = .ok (.aload_n 0, 1) := by decide +kernel
theorem dX6_readIdea_6 : decode cX6_readIdea 6 = .ok (.iconst 0, 1) := by decide +kernel
theorem dX6_readIdea_7 : decode cX6_readIdea 7 = .ok (.putfield 76, 3) := by decide +kernel
theorem dX6_readIdea_10 : decode cX6_readIdea 10 = .ok (.aload_n 0, 1) := by decide +kernel
theorem dX6_readIdea_11 : decode cX6_readIdea 11 = .ok (.iconst 0, 1) := by decide +kernel
theorem dX6_readIdea_12 : decode cX6_readIdea 12 = .ok (.putfield 71, 3) := by decide +kernel
theorem dX6_readIdea_15 : decode cX6_readIdea 15 = .ok (.aload_n 0, 1) := by decide +kernel
theorem dX6_readIdea_16 : decode cX6_readIdea 16 = .ok (.getfield 65, 3) := by decide +kernel
theorem dX6_readIdea_19 : decode cX6_readIdea 19 = .ok (.ifCond .eq 14, 3) := by decide +kernel
theorem dX6_readIdea_22 : decode cX6_readIdea 22 = .ok (.aload_n 0, 1) := by decide +kernel
theorem dX6_readIdea_23 : decode cX6_readIdea 23 = .ok (.getfield 7, 3) := by decide +kernel
theorem dX6_readIdea_26 : decode cX6_readIdea 26 = .ok (.iconst 0, 1) := by decide +kernel
theorem dX6_readIdea_27 : decode cX6_readIdea 27 = .ok (.iaload, 1) := by decide +kernel
theorem dX6_readIdea_28 : decode cX6_readIdea 28 = .ok (.bipush 73, 2) := by decide +kernel
theorem dX6_readIdea_30 : decode cX6_readIdea 30 = .ok (.if_icmp .eq 5, 3) := by decide +kernel
theorem dX6_readIdea_33 : decode cX6_readIdea 33 = .ok (.iconst 0, 1) := by decide +kernel
theorem dX6_readIdea_34 : decode cX6_readIdea 34 = .ok (.ireturn, 1) := by decide +kernel
theorem dX6_readIdea_35 : decode cX6_readIdea 35 = .ok (.aload_n 0, 1) := by decide +kernel
theorem dX6_readIdea_36 : decode cX6_readIdea 36 = .ok (.aload_n 0, 1) := by decide +kernel
theorem dX6_readIdea_37 : decode cX6_readIdea 37 = .ok (.getfield 65, 3) := by decide +kernel
theorem dX6_readIdea_40 : decode cX6_readIdea 40 = .ok (.iconst 1, 1) := by decide +kernel
theorem dX6_readIdea_41 : decode cX6_readIdea 41 = .ok (.if_icmp .le 15, 3) := by decide +kernel
theorem dX6_readIdea_44 : decode cX6_readIdea 44 = .ok (.aload_n 0, 1) := by decide +kernel
theorem dX6_readIdea_45 : decode cX6_readIdea 45 = .ok (.getfield 7, 3) := by decide +kernel
theorem dX6_readIdea_48 : decode cX6_readIdea 48 = .ok (.iconst 1, 1) := by decide +kernel
theorem dX6_readIdea_49 : decode cX6_readIdea 49 = .ok (.iaload, 1) := by decide +kernel
theorem dX6_readIdea_50 : decode cX6_readIdea 50 = .ok (.bipush 48, 2) := by decide +kernel
theorem dX6_readIdea_52 : decode cX6_readIdea 52 = .ok (.isub, 1) := by decide +kernel
theorem dX6_readIdea_53 : decode cX6_readIdea 53 = .ok (.goto 5, 3) := by decide +kernel
theorem dX6_readIdea_56 : decode cX6_readIdea 56 = .ok (.bipush (-9), 2) := by decide +kernel
theorem dX6_readIdea_58 : decode cX6_readIdea 58 = .ok (.putfield 83, 3) := by decide +kernel
theorem dX6_readIdea_61 : decode cX6_readIdea 61 = .ok (.aload_n 0, 1) := by decide +kernel
theorem dX6_readIdea_62 : decode cX6_readIdea 62 = .ok (.getfield 83, 3) := by decide +kernel
theorem dX6_readIdea_65 : decode cX6_readIdea 65 = .ok (.i2l, 1) := by decide +kernel
theorem dX6_readIdea_66 : decode cX6_readIdea 66 = .ok (.lconst 0, 1) := by decide +kernel
theorem dX6_readIdea_67 : decode cX6_readIdea 67 = .ok (.ldc2_w 86, 3) := by decide +kernel
theorem dX6_readIdea_70 : decode cX6_readIdea 70 = .ok (.invokestatic 56, 3) := by decide +kernel
theorem dX6_readIdea_73 : decode cX6_readIdea 73 = .ok (.ifCond .ne 5, 3) := by decide +kernel
theorem dX6_readIdea_76 : decode cX6_readIdea 76 = .ok (.iconst 1, 1) := by decide +kernel
theorem dX6_readIdea_77 : decode cX6_readIdea 77 = .ok (.ireturn, 1) := by decide +kernel
theorem dX6_readIdea_78 : decode cX6_readIdea 78 = .ok (.aload_n 0, 1) := by decide +kernel
theorem dX6_readIdea_79 : decode cX6_readIdea 79 = .ok (.iconst 2, 1) := by decide +kernel
theorem dX6_readIdea_80 : decode cX6_readIdea 80 = .ok (.putfield 68, 3) := by decide +kernel
theorem dX6_readIdea_83 : decode cX6_readIdea 83 = .ok (.aload_n 0, 1) := by decide +kernel
theorem dX6_readIdea_84 : decode cX6_readIdea 84 = .ok (.getfield 68, 3) := by decide +kernel
theorem dX6_readIdea_87 : decode cX6_readIdea 87 = .ok (.aload_n 0, 1) := by decide +kernel
theorem dX6_readIdea_88 : decode cX6_readIdea 88 = .ok (.getfield 65, 3) := by decide +kernel
theorem dX6_readIdea_91 : decode cX6_readIdea 91 = .ok (.if_icmp .ge 15, 3) := by decide +kernel
theorem dX6_readIdea_94 : decode cX6_readIdea 94 = .ok (.aload_n 0, 1) := by decide +kernel
theorem dX6_readIdea_95 : decode cX6_readIdea 95 = .ok (.invokevirtual 88, 3) := by decide +kernel
theorem dX6_readIdea_98 : decode cX6_readIdea 98 = .ok (.ifCond .ne (-15), 3) := by decide +kernel
theorem dX6_readIdea_101 : decode cX6_readIdea 101 = .ok (.aload_n 0, 1) := by decide +kernel
theorem dX6_readIdea_102 : decode cX6_readIdea 102 = .ok (.getfield 68, 3) := by decide +kernel
theorem dX6_readIdea_105 : decode cX6_readIdea 105 = .ok (.ireturn, 1) := by decide +kernel
theorem dX6_readIdea_106 : decode cX6_readIdea 106 = .ok (.bipush (-9), 2) := by decide +kernel
theorem dX6_readIdea_108 : decode cX6_readIdea 108 = .ok (.ireturn, 1) := by decide +kernel
theorem dX6_fault_0 : decode cX6_fault 0 = .ok (.aload_n 0, 1) := by decide +kernel
theorem dX6_fault_1 : decode cX6_fault 1 = .ok (.iconst 0, 1) := by decide +kernel
theorem dX6_fault_2 : decode cX6_fault 2 = .ok (.putfield 50, 3) := by decide +kernel
theorem dX6_fault_5 : decode cX6_fault 5 = .ok (.aload_n 0, 1) := by decide +kernel
theorem dX6_fault_6 : decode cX6_fault 6 = .ok (.invokevirtual 91, 3) := by decide +kernel
theorem dX6_fault_9 : decode cX6_fault 9 = .ok (.ireturn, 1) := by decide +kernel
theorem dX6_idea_0 : decode cX6_idea 0 = .ok (.aload_n 0, 1) := by decide +kernel
theorem dX6_idea_1 : decode cX6_idea 1 = .ok (.iconst 0, 1) := by decide +kernel
theorem dX6_idea_2 : decode cX6_idea 2 = .ok (.putfield 50, 3) := by decide +kernel
theorem dX6_idea_5 : decode cX6_idea 5 = .ok (.aload_n 0, 1) := by decide +kernel
theorem dX6_idea_6 : decode cX6_idea 6 = .ok (.invokevirtual 91, 3) := by decide +kernel
theorem dX6_idea_9 : decode cX6_idea 9 = .ok (.bipush (-9), 2) := by decide +kernel
theorem dX6_idea_11 : decode cX6_idea 11 = .ok (.if_icmp .eq 6, 3) := by decide +kernel
theorem dX6_idea_14 : decode cX6_idea 14 = .ok (.bipush (-3), 2) := by decide +kernel
theorem dX6_idea_16 : decode cX6_idea 16 = .ok (.ireturn, 1) := by decide +kernel
theorem dX6_idea_17 : decode cX6_idea 17 = .ok (.aload_n 0, 1) := by decide +kernel
theorem dX6_idea_18 : decode cX6_idea 18 = .ok (.aload_n 0, 1) := by decide +kernel
theorem dX6_idea_19 : decode cX6_idea 19 = .ok (.getfield 83, 3) := by decide +kernel
theorem dX6_idea_22 : decode cX6_idea 22 = .ok (.putfield 95, 3) := by decide +kernel
theorem dX6_idea_25 : decode cX6_idea 25 = .ok (.aload_n 0, 1) := by decide +kernel
theorem dX6_idea_26 : decode cX6_idea 26 = .ok (.aload_n 0, 1) := by decide +kernel
theorem dX6_idea_27 : decode cX6_idea 27 = .ok (.getfield 71, 3) := by decide +kernel
theorem dX6_idea_30 : decode cX6_idea 30 = .ok (.putfield 60, 3) := by decide +kernel
theorem dX6_idea_33 : decode cX6_idea 33 = .ok (.iconst 0, 1) := by decide +kernel
theorem dX6_idea_34 : decode cX6_idea 34 = .ok (.istore_n 1, 1) := by decide +kernel
theorem dX6_idea_35 : decode cX6_idea 35 = .ok (.iload_n 1, 1) := by decide +kernel
theorem dX6_idea_36 : decode cX6_idea 36 = .ok (.aload_n 0, 1) := by decide +kernel
theorem dX6_idea_37 : decode cX6_idea 37 = .ok (.getfield 60, 3) := by decide +kernel
theorem dX6_idea_40 : decode cX6_idea 40 = .ok (.if_icmp .ge 39, 3) := by decide +kernel
theorem dX6_idea_43 : decode cX6_idea 43 = .ok (.aload_n 0, 1) := by decide +kernel
theorem dX6_idea_44 : decode cX6_idea 44 = .ok (.getfield 13, 3) := by decide +kernel
theorem dX6_idea_47 : decode cX6_idea 47 = .ok (.iload_n 1, 1) := by decide +kernel
theorem dX6_idea_48 : decode cX6_idea 48 = .ok (.aload_n 0, 1) := by decide +kernel
theorem dX6_idea_49 : decode cX6_idea 49 = .ok (.getfield 19, 3) := by decide +kernel
theorem dX6_idea_52 : decode cX6_idea 52 = .ok (.iconst 2, 1) := by decide +kernel
theorem dX6_idea_53 : decode cX6_idea 53 = .ok (.iload_n 1, 1) := by decide +kernel
theorem dX6_idea_54 : decode cX6_idea 54 = .ok (.imul, 1) := by decide +kernel
theorem dX6_idea_55 : decode cX6_idea 55 = .ok (.iaload, 1) := by decide +kernel
theorem dX6_idea_56 : decode cX6_idea 56 = .ok (.iastore, 1) := by decide +kernel
theorem dX6_idea_57 : decode cX6_idea 57 = .ok (.aload_n 0, 1) := by decide +kernel
theorem dX6_idea_58 : decode cX6_idea 58 = .ok (.getfield 16, 3) := by decide +kernel
theorem dX6_idea_61 : decode cX6_idea 61 = .ok (.iload_n 1, 1) := by decide +kernel
theorem dX6_idea_62 : decode cX6_idea 62 = .ok (.aload_n 0, 1) := by decide +kernel
theorem dX6_idea_63 : decode cX6_idea 63 = .ok (.getfield 19, 3) := by decide +kernel
theorem dX6_idea_66 : decode cX6_idea 66 = .ok (.iconst 2, 1) := by decide +kernel
theorem dX6_idea_67 : decode cX6_idea 67 = .ok (.iload_n 1, 1) := by decide +kernel
theorem dX6_idea_68 : decode cX6_idea 68 = .ok (.imul, 1) := by decide +kernel
theorem dX6_idea_69 : decode cX6_idea 69 = .ok (.iconst 1, 1) := by decide +kernel
theorem dX6_idea_70 : decode cX6_idea 70 = .ok (.iadd, 1) := by decide +kernel
theorem dX6_idea_71 : decode cX6_idea 71 = .ok (.iaload, 1) := by decide +kernel
theorem dX6_idea_72 : decode cX6_idea 72 = .ok (.iastore, 1) := by decide +kernel
theorem dX6_idea_73 : decode cX6_idea 73 = .ok (.iinc 1 1, 3) := by decide +kernel
theorem dX6_idea_76 : decode cX6_idea 76 = .ok (.goto (-41), 3) := by decide +kernel
theorem dX6_idea_79 : decode cX6_idea 79 = .ok (.iconst 0, 1) := by decide +kernel
theorem dX6_idea_80 : decode cX6_idea 80 = .ok (.istore_n 1, 1) := by decide +kernel
theorem dX6_idea_81 : decode cX6_idea 81 = .ok (.iload_n 1, 1) := by decide +kernel
theorem dX6_idea_82 : decode cX6_idea 82 = .ok (.bipush 7, 2) := by decide +kernel
theorem dX6_idea_84 : decode cX6_idea 84 = .ok (.if_icmp .ge 16, 3) := by decide +kernel
theorem dX6_idea_87 : decode cX6_idea 87 = .ok (.aload_n 0, 1) := by decide +kernel
theorem dX6_idea_88 : decode cX6_idea 88 = .ok (.getfield 22, 3) := by decide +kernel
theorem dX6_idea_91 : decode cX6_idea 91 = .ok (.iload_n 1, 1) := by decide +kernel
theorem dX6_idea_92 : decode cX6_idea 92 = .ok (.iconst 0, 1) := by decide +kernel
theorem dX6_idea_93 : decode cX6_idea 93 = .ok (.iastore, 1) := by decide +kernel
theorem dX6_idea_94 : decode cX6_idea 94 = .ok (.iinc 1 1, 3) := by decide +kernel
theorem dX6_idea_97 : decode cX6_idea 97 = .ok (.goto (-16), 3) := by decide +kernel
theorem dX6_idea_100 : decode cX6_idea 100 = .ok (.aload_n 0, 1) := by decide +kernel
theorem dX6_idea_101 : decode cX6_idea 101 = .ok (.getfield 22, 3) := by decide +kernel
theorem dX6_idea_104 : decode cX6_idea 104 = .ok (.iconst 4, 1) := by decide +kernel
theorem dX6_idea_105 : decode cX6_idea 105 = .ok (.aload_n 0, 1) := by decide +kernel
theorem dX6_idea_106 : decode cX6_idea 106 = .ok (.getfield 95, 3) := by decide +kernel
theorem dX6_idea_109 : decode cX6_idea 109 = .ok (.iastore, 1) := by decide +kernel
theorem dX6_idea_110 : decode cX6_idea 110 = .ok (.aload_n 0, 1) := by decide +kernel
theorem dX6_idea_111 : decode cX6_idea 111 = .ok (.iconst 0, 1) := by decide +kernel
theorem dX6_idea_112 : decode cX6_idea 112 = .ok (.putfield 98, 3) := by decide +kernel
theorem dX6_idea_115 : decode cX6_idea 115 = .ok (.aload_n 0, 1) := by decide +kernel
theorem dX6_idea_116 : decode cX6_idea 116 = .ok (.getfield 34, 3) := by decide +kernel
theorem dX6_idea_119 : decode cX6_idea 119 = .ok (.iconst 0, 1) := by decide +kernel
theorem dX6_idea_120 : decode cX6_idea 120 = .ok (.iconst 0, 1) := by decide +kernel
theorem dX6_idea_121 : decode cX6_idea 121 = .ok (.bastore, 1) := by decide +kernel
theorem dX6_idea_122 : decode cX6_idea 122 = .ok (.aload_n 0, 1) := by decide +kernel
theorem dX6_idea_123 : decode cX6_idea 123 = .ok (.getfield 34, 3) := by decide +kernel
theorem dX6_idea_126 : decode cX6_idea 126 = .ok (.iconst 1, 1) := by decide +kernel
theorem dX6_idea_127 : decode cX6_idea 127 = .ok (.iconst 0, 1) := by decide +kernel
theorem dX6_idea_128 : decode cX6_idea 128 = .ok (.bastore, 1) := by decide +kernel
theorem dX6_idea_129 : decode cX6_idea 129 = .ok (.bipush 10, 2) := by decide +kernel
theorem dX6_idea_131 : decode cX6_idea 131 = .ok (.aload_n 0, 1) := by decide +kernel
theorem dX6_idea_132 : decode cX6_idea 132 = .ok (.getfield 95, 3) := by decide +kernel
theorem dX6_idea_135 : decode cX6_idea 135 = .ok (.imul, 1) := by decide +kernel
theorem dX6_idea_136 : decode cX6_idea 136 = .ok (.aload_n 0, 1) := by decide +kernel
theorem dX6_idea_137 : decode cX6_idea 137 = .ok (.getfield 60, 3) := by decide +kernel
theorem dX6_idea_140 : decode cX6_idea 140 = .ok (.iadd, 1) := by decide +kernel
theorem dX6_idea_141 : decode cX6_idea 141 = .ok (.ireturn, 1) := by decide +kernel
theorem dX6_partAt_0 : decode cX6_partAt 0 = .ok (.bipush (-9), 2) := by decide +kernel
theorem dX6_partAt_2 : decode cX6_partAt 2 = .ok (.istore_n 2, 1) := by decide +kernel
theorem dX6_partAt_3 : decode cX6_partAt 3 = .ok (.iconst 0, 1) := by decide +kernel
theorem dX6_partAt_4 : decode cX6_partAt 4 = .ok (.istore_n 3, 1) := by decide +kernel
theorem dX6_partAt_5 : decode cX6_partAt 5 = .ok (.iload_n 3, 1) := by decide +kernel
theorem dX6_partAt_6 : decode cX6_partAt 6 = .ok (.aload_n 0, 1) := by decide +kernel
theorem dX6_partAt_7 : decode cX6_partAt 7 = .ok (.getfield 60, 3) := by decide +kernel
theorem dX6_partAt_10 : decode cX6_partAt 10 = .ok (.if_icmp .ge 25, 3) := by decide +kernel
theorem dX6_partAt_13 : decode cX6_partAt 13 = .ok (.aload_n 0, 1) := by decide +kernel
theorem dX6_partAt_14 : decode cX6_partAt 14 = .ok (.getfield 13, 3) := by decide +kernel
theorem dX6_partAt_17 : decode cX6_partAt 17 = .ok (.iload_n 3, 1) := by decide +kernel
theorem dX6_partAt_18 : decode cX6_partAt 18 = .ok (.iaload, 1) := by decide +kernel
theorem dX6_partAt_19 : decode cX6_partAt 19 = .ok (.iload_n 1, 1) := by decide +kernel
theorem dX6_partAt_20 : decode cX6_partAt 20 = .ok (.if_icmp .ne 7, 3) := by decide +kernel
theorem dX6_partAt_23 : decode cX6_partAt 23 = .ok (.iload_n 3, 1) := by decide +kernel
theorem dX6_partAt_24 : decode cX6_partAt 24 = .ok (.goto 4, 3) := by decide +kernel
theorem dX6_partAt_27 : decode cX6_partAt 27 = .ok (.iload_n 2, 1) := by decide +kernel
theorem dX6_partAt_28 : decode cX6_partAt 28 = .ok (.istore_n 2, 1) := by decide +kernel
theorem dX6_partAt_29 : decode cX6_partAt 29 = .ok (.iinc 3 1, 3) := by decide +kernel
theorem dX6_partAt_32 : decode cX6_partAt 32 = .ok (.goto (-27), 3) := by decide +kernel
theorem dX6_partAt_35 : decode cX6_partAt 35 = .ok (.iload_n 2, 1) := by decide +kernel
theorem dX6_partAt_36 : decode cX6_partAt 36 = .ok (.ireturn, 1) := by decide +kernel
theorem dX6_hasPole_0 : decode cX6_hasPole 0 = .ok (.aload_n 0, 1) := by decide +kernel
theorem dX6_hasPole_1 : decode cX6_hasPole 1 = .ok (.getfield 13, 3) := by decide +kernel
theorem dX6_hasPole_4 : decode cX6_hasPole 4 = .ok (.iload_n 2, 1) := by decide +kernel
theorem dX6_hasPole_5 : decode cX6_hasPole 5 = .ok (.iaload, 1) := by decide +kernel
theorem dX6_hasPole_6 : decode cX6_hasPole 6 = .ok (.iconst 4, 1) := by decide +kernel
theorem dX6_hasPole_7 : decode cX6_hasPole 7 = .ok (.idiv, 1) := by decide +kernel
theorem dX6_hasPole_8 : decode cX6_hasPole 8 = .ok (.aload_n 1, 1) := by decide +kernel
theorem dX6_hasPole_9 : decode cX6_hasPole 9 = .ok (.aload_n 0, 1) := by decide +kernel
theorem dX6_hasPole_10 : decode cX6_hasPole 10 = .ok (.getfield 13, 3) := by decide +kernel
theorem dX6_hasPole_13 : decode cX6_hasPole 13 = .ok (.iload_n 2, 1) := by decide +kernel
theorem dX6_hasPole_14 : decode cX6_hasPole 14 = .ok (.iaload, 1) := by decide +kernel
theorem dX6_hasPole_15 : decode cX6_hasPole 15 = .ok (.iconst 4, 1) := by decide +kernel
theorem dX6_hasPole_16 : decode cX6_hasPole 16 = .ok (.irem, 1) := by decide +kernel
theorem dX6_hasPole_17 : decode cX6_hasPole 17 = .ok (.iaload, 1) := by decide +kernel
theorem dX6_hasPole_18 : decode cX6_hasPole 18 = .ok (.if_icmp .ge 7, 3) := by decide +kernel
theorem dX6_hasPole_21 : decode cX6_hasPole 21 = .ok (.iconst 1, 1) := by decide +kernel
theorem dX6_hasPole_22 : decode cX6_hasPole 22 = .ok (.goto 4, 3) := by decide +kernel
theorem dX6_hasPole_25 : decode cX6_hasPole 25 = .ok (.iconst 0, 1) := by decide +kernel
theorem dX6_hasPole_26 : decode cX6_hasPole 26 = .ok (.ireturn, 1) := by decide +kernel
theorem dX6_isBy_0 : decode cX6_isBy 0 = .ok (.iload_n 2, 1) := by decide +kernel
theorem dX6_isBy_1 : decode cX6_isBy 1 = .ok (.iconst 4, 1) := by decide +kernel
theorem dX6_isBy_2 : decode cX6_isBy 2 = .ok (.irem, 1) := by decide +kernel
theorem dX6_isBy_3 : decode cX6_isBy 3 = .ok (.iload 4, 2) := by decide +kernel
theorem dX6_isBy_5 : decode cX6_isBy 5 = .ok (.iadd, 1) := by decide +kernel
theorem dX6_isBy_6 : decode cX6_isBy 6 = .ok (.istore 5, 2) := by decide +kernel
theorem dX6_isBy_8 : decode cX6_isBy 8 = .ok (.iload_n 2, 1) := by decide +kernel
theorem dX6_isBy_9 : decode cX6_isBy 9 = .ok (.iconst 4, 1) := by decide +kernel
theorem dX6_isBy_10 : decode cX6_isBy 10 = .ok (.idiv, 1) := by decide +kernel
theorem dX6_isBy_11 : decode cX6_isBy 11 = .ok (.iload_n 3, 1) := by decide +kernel
theorem dX6_isBy_12 : decode cX6_isBy 12 = .ok (.iadd, 1) := by decide +kernel
theorem dX6_isBy_13 : decode cX6_isBy 13 = .ok (.istore 6, 2) := by decide +kernel
theorem dX6_isBy_15 : decode cX6_isBy 15 = .ok (.iload 5, 2) := by decide +kernel
theorem dX6_isBy_17 : decode cX6_isBy 17 = .ok (.invokestatic 101, 3) := by decide +kernel
theorem dX6_isBy_20 : decode cX6_isBy 20 = .ok (.ifCond .ne 8, 3) := by decide +kernel
theorem dX6_isBy_23 : decode cX6_isBy 23 = .ok (.iload 6, 2) := by decide +kernel
theorem dX6_isBy_25 : decode cX6_isBy 25 = .ok (.ifCond .ge 5, 3) := by decide +kernel
theorem dX6_isBy_28 : decode cX6_isBy 28 = .ok (.iconst 0, 1) := by decide +kernel
theorem dX6_isBy_29 : decode cX6_isBy 29 = .ok (.ireturn, 1) := by decide +kernel
theorem dX6_isBy_30 : decode cX6_isBy 30 = .ok (.aload_n 0, 1) := by decide +kernel
theorem dX6_isBy_31 : decode cX6_isBy 31 = .ok (.iconst 4, 1) := by decide +kernel
theorem dX6_isBy_32 : decode cX6_isBy 32 = .ok (.iload 6, 2) := by decide +kernel
theorem dX6_isBy_34 : decode cX6_isBy 34 = .ok (.imul, 1) := by decide +kernel
theorem dX6_isBy_35 : decode cX6_isBy 35 = .ok (.iload 5, 2) := by decide +kernel
theorem dX6_isBy_37 : decode cX6_isBy 37 = .ok (.iadd, 1) := by decide +kernel
theorem dX6_isBy_38 : decode cX6_isBy 38 = .ok (.invokevirtual 105, 3) := by decide +kernel
theorem dX6_isBy_41 : decode cX6_isBy 41 = .ok (.istore 7, 2) := by decide +kernel
theorem dX6_isBy_43 : decode cX6_isBy 43 = .ok (.iload 7, 2) := by decide +kernel
theorem dX6_isBy_45 : decode cX6_isBy 45 = .ok (.bipush (-9), 2) := by decide +kernel
theorem dX6_isBy_47 : decode cX6_isBy 47 = .ok (.if_icmp .eq 16, 3) := by decide +kernel
theorem dX6_isBy_50 : decode cX6_isBy 50 = .ok (.iload_n 1, 1) := by decide +kernel
theorem dX6_isBy_51 : decode cX6_isBy 51 = .ok (.iload 7, 2) := by decide +kernel
theorem dX6_isBy_53 : decode cX6_isBy 53 = .ok (.invokestatic 79, 3) := by decide +kernel
theorem dX6_isBy_56 : decode cX6_isBy 56 = .ok (.ifCond .eq 7, 3) := by decide +kernel
theorem dX6_isBy_59 : decode cX6_isBy 59 = .ok (.iconst 1, 1) := by decide +kernel
theorem dX6_isBy_60 : decode cX6_isBy 60 = .ok (.goto 4, 3) := by decide +kernel
theorem dX6_isBy_63 : decode cX6_isBy 63 = .ok (.iconst 0, 1) := by decide +kernel
theorem dX6_isBy_64 : decode cX6_isBy 64 = .ok (.ireturn, 1) := by decide +kernel
theorem dX6_standsBy_0 : decode cX6_standsBy 0 = .ok (.iload_n 0, 1) := by decide +kernel
theorem dX6_standsBy_1 : decode cX6_standsBy 1 = .ok (.tableswitch 63 1 3 #[27, 41, 61], 27) := by decide +kernel
theorem dX6_standsBy_28 : decode cX6_standsBy 28 = .ok (.iload_n 2, 1) := by decide +kernel
theorem dX6_standsBy_29 : decode cX6_standsBy 29 = .ok (.ifCond .eq 11, 3) := by decide +kernel
theorem dX6_standsBy_32 : decode cX6_standsBy 32 = .ok (.iload_n 3, 1) := by decide +kernel
theorem dX6_standsBy_33 : decode cX6_standsBy 33 = .ok (.ifCond .eq 7, 3) := by decide +kernel
theorem dX6_standsBy_36 : decode cX6_standsBy 36 = .ok (.iconst 1, 1) := by decide +kernel
theorem dX6_standsBy_37 : decode cX6_standsBy 37 = .ok (.goto 4, 3) := by decide +kernel
theorem dX6_standsBy_40 : decode cX6_standsBy 40 = .ok (.iconst 0, 1) := by decide +kernel
theorem dX6_standsBy_41 : decode cX6_standsBy 41 = .ok (.ireturn, 1) := by decide +kernel
theorem dX6_standsBy_42 : decode cX6_standsBy 42 = .ok (.iload_n 1, 1) := by decide +kernel
theorem dX6_standsBy_43 : decode cX6_standsBy 43 = .ok (.ifCond .ne 13, 3) := by decide +kernel
theorem dX6_standsBy_46 : decode cX6_standsBy 46 = .ok (.iload 4, 2) := by decide +kernel
theorem dX6_standsBy_48 : decode cX6_standsBy 48 = .ok (.ifCond .ne 8, 3) := by decide +kernel
theorem dX6_standsBy_51 : decode cX6_standsBy 51 = .ok (.iload 5, 2) := by decide +kernel
theorem dX6_standsBy_53 : decode cX6_standsBy 53 = .ok (.ifCond .eq 7, 3) := by decide +kernel
theorem dX6_standsBy_56 : decode cX6_standsBy 56 = .ok (.iconst 1, 1) := by decide +kernel
theorem dX6_standsBy_57 : decode cX6_standsBy 57 = .ok (.goto 4, 3) := by decide +kernel
theorem dX6_standsBy_60 : decode cX6_standsBy 60 = .ok (.iconst 0, 1) := by decide +kernel
theorem dX6_standsBy_61 : decode cX6_standsBy 61 = .ok (.ireturn, 1) := by decide +kernel
theorem dX6_standsBy_62 : decode cX6_standsBy 62 = .ok (.iconst 1, 1) := by decide +kernel
theorem dX6_standsBy_63 : decode cX6_standsBy 63 = .ok (.ireturn, 1) := by decide +kernel
theorem dX6_standsBy_64 : decode cX6_standsBy 64 = .ok (.iload_n 1, 1) := by decide +kernel
theorem dX6_standsBy_65 : decode cX6_standsBy 65 = .ok (.ireturn, 1) := by decide +kernel
theorem dX6_stands_0 : decode cX6_stands 0 = .ok (.aload_n 0, 1) := by decide +kernel
theorem dX6_stands_1 : decode cX6_stands 1 = .ok (.getfield 13, 3) := by decide +kernel
theorem dX6_stands_4 : decode cX6_stands 4 = .ok (.iload_n 2, 1) := by decide +kernel
theorem dX6_stands_5 : decode cX6_stands 5 = .ok (.iaload, 1) := by decide +kernel
theorem dX6_stands_6 : decode cX6_stands 6 = .ok (.istore 4, 2) := by decide +kernel
theorem dX6_stands_8 : decode cX6_stands 8 = .ok (.iload 4, 2) := by decide +kernel
theorem dX6_stands_10 : decode cX6_stands 10 = .ok (.iconst 4, 1) := by decide +kernel
theorem dX6_stands_11 : decode cX6_stands 11 = .ok (.if_icmp .lt 12, 3) := by decide +kernel
theorem dX6_stands_14 : decode cX6_stands 14 = .ok (.aload_n 0, 1) := by decide +kernel
theorem dX6_stands_15 : decode cX6_stands 15 = .ok (.aload_n 1, 1) := by decide +kernel
theorem dX6_stands_16 : decode cX6_stands 16 = .ok (.iload_n 2, 1) := by decide +kernel
theorem dX6_stands_17 : decode cX6_stands 17 = .ok (.invokevirtual 109, 3) := by decide +kernel
theorem dX6_stands_20 : decode cX6_stands 20 = .ok (.ifCond .eq 5, 3) := by decide +kernel
theorem dX6_stands_23 : decode cX6_stands 23 = .ok (.iconst 1, 1) := by decide +kernel
theorem dX6_stands_24 : decode cX6_stands 24 = .ok (.ireturn, 1) := by decide +kernel
theorem dX6_stands_25 : decode cX6_stands 25 = .ok (.aload_n 0, 1) := by decide +kernel
theorem dX6_stands_26 : decode cX6_stands 26 = .ok (.getfield 16, 3) := by decide +kernel
theorem dX6_stands_29 : decode cX6_stands 29 = .ok (.iload_n 2, 1) := by decide +kernel
theorem dX6_stands_30 : decode cX6_stands 30 = .ok (.iaload, 1) := by decide +kernel
theorem dX6_stands_31 : decode cX6_stands 31 = .ok (.aload_n 0, 1) := by decide +kernel
theorem dX6_stands_32 : decode cX6_stands 32 = .ok (.iload_n 3, 1) := by decide +kernel
theorem dX6_stands_33 : decode cX6_stands 33 = .ok (.iload 4, 2) := by decide +kernel
theorem dX6_stands_35 : decode cX6_stands 35 = .ok (.iconst (-1), 1) := by decide +kernel
theorem dX6_stands_36 : decode cX6_stands 36 = .ok (.iconst 0, 1) := by decide +kernel
theorem dX6_stands_37 : decode cX6_stands 37 = .ok (.invokevirtual 113, 3) := by decide +kernel
theorem dX6_stands_40 : decode cX6_stands 40 = .ok (.aload_n 0, 1) := by decide +kernel
theorem dX6_stands_41 : decode cX6_stands 41 = .ok (.iload_n 3, 1) := by decide +kernel
theorem dX6_stands_42 : decode cX6_stands 42 = .ok (.iload 4, 2) := by decide +kernel
theorem dX6_stands_44 : decode cX6_stands 44 = .ok (.iconst 0, 1) := by decide +kernel
theorem dX6_stands_45 : decode cX6_stands 45 = .ok (.iconst (-1), 1) := by decide +kernel
theorem dX6_stands_46 : decode cX6_stands 46 = .ok (.invokevirtual 113, 3) := by decide +kernel
theorem dX6_stands_49 : decode cX6_stands 49 = .ok (.aload_n 0, 1) := by decide +kernel
theorem dX6_stands_50 : decode cX6_stands 50 = .ok (.iload_n 3, 1) := by decide +kernel
theorem dX6_stands_51 : decode cX6_stands 51 = .ok (.iload 4, 2) := by decide +kernel
theorem dX6_stands_53 : decode cX6_stands 53 = .ok (.iconst 0, 1) := by decide +kernel
theorem dX6_stands_54 : decode cX6_stands 54 = .ok (.iconst 1, 1) := by decide +kernel
theorem dX6_stands_55 : decode cX6_stands 55 = .ok (.invokevirtual 113, 3) := by decide +kernel
theorem dX6_stands_58 : decode cX6_stands 58 = .ok (.aload_n 0, 1) := by decide +kernel
theorem dX6_stands_59 : decode cX6_stands 59 = .ok (.iload_n 3, 1) := by decide +kernel
theorem dX6_stands_60 : decode cX6_stands 60 = .ok (.iload 4, 2) := by decide +kernel
theorem dX6_stands_62 : decode cX6_stands 62 = .ok (.iconst (-1), 1) := by decide +kernel
theorem dX6_stands_63 : decode cX6_stands 63 = .ok (.iconst (-1), 1) := by decide +kernel
theorem dX6_stands_64 : decode cX6_stands 64 = .ok (.invokevirtual 113, 3) := by decide +kernel
theorem dX6_stands_67 : decode cX6_stands 67 = .ok (.aload_n 0, 1) := by decide +kernel
theorem dX6_stands_68 : decode cX6_stands 68 = .ok (.iload_n 3, 1) := by decide +kernel
theorem dX6_stands_69 : decode cX6_stands 69 = .ok (.iload 4, 2) := by decide +kernel
theorem dX6_stands_71 : decode cX6_stands 71 = .ok (.iconst (-1), 1) := by decide +kernel
theorem dX6_stands_72 : decode cX6_stands 72 = .ok (.iconst 1, 1) := by decide +kernel
theorem dX6_stands_73 : decode cX6_stands 73 = .ok (.invokevirtual 113, 3) := by decide +kernel
theorem dX6_stands_76 : decode cX6_stands 76 = .ok (.invokestatic 117, 3) := by decide +kernel
theorem dX6_stands_79 : decode cX6_stands 79 = .ok (.ireturn, 1) := by decide +kernel
theorem dX6_standing_0 : decode cX6_standing 0 = .ok (.iconst 0, 1) := by decide +kernel
theorem dX6_standing_1 : decode cX6_standing 1 = .ok (.istore_n 2, 1) := by decide +kernel
theorem dX6_standing_2 : decode cX6_standing 2 = .ok (.iconst 0, 1) := by decide +kernel
theorem dX6_standing_3 : decode cX6_standing 3 = .ok (.istore_n 3, 1) := by decide +kernel
theorem dX6_standing_4 : decode cX6_standing 4 = .ok (.iload_n 3, 1) := by decide +kernel
theorem dX6_standing_5 : decode cX6_standing 5 = .ok (.bipush 7, 2) := by decide +kernel
theorem dX6_standing_7 : decode cX6_standing 7 = .ok (.if_icmp .ge 60, 3) := by decide +kernel
theorem dX6_standing_10 : decode cX6_standing 10 = .ok (.iconst 0, 1) := by decide +kernel
theorem dX6_standing_11 : decode cX6_standing 11 = .ok (.istore 4, 2) := by decide +kernel
theorem dX6_standing_13 : decode cX6_standing 13 = .ok (.iload 4, 2) := by decide +kernel
theorem dX6_standing_15 : decode cX6_standing 15 = .ok (.aload_n 0, 1) := by decide +kernel
theorem dX6_standing_16 : decode cX6_standing 16 = .ok (.getfield 60, 3) := by decide +kernel
theorem dX6_standing_19 : decode cX6_standing 19 = .ok (.if_icmp .ge 42, 3) := by decide +kernel
theorem dX6_standing_22 : decode cX6_standing 22 = .ok (.iload_n 2, 1) := by decide +kernel
theorem dX6_standing_23 : decode cX6_standing 23 = .ok (.aload_n 1, 1) := by decide +kernel
theorem dX6_standing_24 : decode cX6_standing 24 = .ok (.iconst 5, 1) := by decide +kernel
theorem dX6_standing_25 : decode cX6_standing 25 = .ok (.iaload, 1) := by decide +kernel
theorem dX6_standing_26 : decode cX6_standing 26 = .ok (.iload 4, 2) := by decide +kernel
theorem dX6_standing_28 : decode cX6_standing 28 = .ok (.invokestatic 79, 3) := by decide +kernel
theorem dX6_standing_31 : decode cX6_standing 31 = .ok (.ifCond .eq 21, 3) := by decide +kernel
theorem dX6_standing_34 : decode cX6_standing 34 = .ok (.aload_n 0, 1) := by decide +kernel
theorem dX6_standing_35 : decode cX6_standing 35 = .ok (.aload_n 1, 1) := by decide +kernel
theorem dX6_standing_36 : decode cX6_standing 36 = .ok (.iload 4, 2) := by decide +kernel
theorem dX6_standing_38 : decode cX6_standing 38 = .ok (.iload_n 2, 1) := by decide +kernel
theorem dX6_standing_39 : decode cX6_standing 39 = .ok (.invokevirtual 121, 3) := by decide +kernel
theorem dX6_standing_42 : decode cX6_standing 42 = .ok (.ifCond .eq 10, 3) := by decide +kernel
theorem dX6_standing_45 : decode cX6_standing 45 = .ok (.iconst 1, 1) := by decide +kernel
theorem dX6_standing_46 : decode cX6_standing 46 = .ok (.iload 4, 2) := by decide +kernel
theorem dX6_standing_48 : decode cX6_standing 48 = .ok (.ishl, 1) := by decide +kernel
theorem dX6_standing_49 : decode cX6_standing 49 = .ok (.goto 4, 3) := by decide +kernel
theorem dX6_standing_52 : decode cX6_standing 52 = .ok (.iconst 0, 1) := by decide +kernel
theorem dX6_standing_53 : decode cX6_standing 53 = .ok (.ior, 1) := by decide +kernel
theorem dX6_standing_54 : decode cX6_standing 54 = .ok (.istore_n 2, 1) := by decide +kernel
theorem dX6_standing_55 : decode cX6_standing 55 = .ok (.iinc 4 1, 3) := by decide +kernel
theorem dX6_standing_58 : decode cX6_standing 58 = .ok (.goto (-45), 3) := by decide +kernel
theorem dX6_standing_61 : decode cX6_standing 61 = .ok (.iinc 3 1, 3) := by decide +kernel
theorem dX6_standing_64 : decode cX6_standing 64 = .ok (.goto (-60), 3) := by decide +kernel
theorem dX6_standing_67 : decode cX6_standing 67 = .ok (.iload_n 2, 1) := by decide +kernel
theorem dX6_standing_68 : decode cX6_standing 68 = .ok (.ireturn, 1) := by decide +kernel
theorem dX6_settle_0 : decode cX6_settle 0 = .ok (.aload_n 1, 1) := by decide +kernel
theorem dX6_settle_1 : decode cX6_settle 1 = .ok (.iconst 5, 1) := by decide +kernel
theorem dX6_settle_2 : decode cX6_settle 2 = .ok (.iaload, 1) := by decide +kernel
theorem dX6_settle_3 : decode cX6_settle 3 = .ok (.istore_n 2, 1) := by decide +kernel
theorem dX6_settle_4 : decode cX6_settle 4 = .ok (.aload_n 1, 1) := by decide +kernel
theorem dX6_settle_5 : decode cX6_settle 5 = .ok (.iconst 5, 1) := by decide +kernel
theorem dX6_settle_6 : decode cX6_settle 6 = .ok (.aload_n 0, 1) := by decide +kernel
theorem dX6_settle_7 : decode cX6_settle 7 = .ok (.aload_n 1, 1) := by decide +kernel
theorem dX6_settle_8 : decode cX6_settle 8 = .ok (.invokevirtual 125, 3) := by decide +kernel
theorem dX6_settle_11 : decode cX6_settle 11 = .ok (.iastore, 1) := by decide +kernel
theorem dX6_settle_12 : decode cX6_settle 12 = .ok (.iload_n 2, 1) := by decide +kernel
theorem dX6_settle_13 : decode cX6_settle 13 = .ok (.invokestatic 129, 3) := by decide +kernel
theorem dX6_settle_16 : decode cX6_settle 16 = .ok (.aload_n 1, 1) := by decide +kernel
theorem dX6_settle_17 : decode cX6_settle 17 = .ok (.iconst 5, 1) := by decide +kernel
theorem dX6_settle_18 : decode cX6_settle 18 = .ok (.iaload, 1) := by decide +kernel
theorem dX6_settle_19 : decode cX6_settle 19 = .ok (.invokestatic 129, 3) := by decide +kernel
theorem dX6_settle_22 : decode cX6_settle 22 = .ok (.isub, 1) := by decide +kernel
theorem dX6_settle_23 : decode cX6_settle 23 = .ok (.ireturn, 1) := by decide +kernel
theorem dX6_poles_0 : decode cX6_poles 0 = .ok (.aload_n 0, 1) := by decide +kernel
theorem dX6_poles_1 : decode cX6_poles 1 = .ok (.iconst 0, 1) := by decide +kernel
theorem dX6_poles_2 : decode cX6_poles 2 = .ok (.iaload, 1) := by decide +kernel
theorem dX6_poles_3 : decode cX6_poles 3 = .ok (.aload_n 0, 1) := by decide +kernel
theorem dX6_poles_4 : decode cX6_poles 4 = .ok (.iconst 1, 1) := by decide +kernel
theorem dX6_poles_5 : decode cX6_poles 5 = .ok (.iaload, 1) := by decide +kernel
theorem dX6_poles_6 : decode cX6_poles 6 = .ok (.iadd, 1) := by decide +kernel
theorem dX6_poles_7 : decode cX6_poles 7 = .ok (.aload_n 0, 1) := by decide +kernel
theorem dX6_poles_8 : decode cX6_poles 8 = .ok (.iconst 2, 1) := by decide +kernel
theorem dX6_poles_9 : decode cX6_poles 9 = .ok (.iaload, 1) := by decide +kernel
theorem dX6_poles_10 : decode cX6_poles 10 = .ok (.iadd, 1) := by decide +kernel
theorem dX6_poles_11 : decode cX6_poles 11 = .ok (.aload_n 0, 1) := by decide +kernel
theorem dX6_poles_12 : decode cX6_poles 12 = .ok (.iconst 3, 1) := by decide +kernel
theorem dX6_poles_13 : decode cX6_poles 13 = .ok (.iaload, 1) := by decide +kernel
theorem dX6_poles_14 : decode cX6_poles 14 = .ok (.iadd, 1) := by decide +kernel
theorem dX6_poles_15 : decode cX6_poles 15 = .ok (.ireturn, 1) := by decide +kernel
theorem dX6_begin_0 : decode cX6_begin 0 = .ok (.iconst 0, 1) := by decide +kernel
theorem dX6_begin_1 : decode cX6_begin 1 = .ok (.istore_n 1, 1) := by decide +kernel
theorem dX6_begin_2 : decode cX6_begin 2 = .ok (.iload_n 1, 1) := by decide +kernel
theorem dX6_begin_3 : decode cX6_begin 3 = .ok (.bipush 7, 2) := by decide +kernel
theorem dX6_begin_5 : decode cX6_begin 5 = .ok (.if_icmp .ge 21, 3) := by decide +kernel
theorem dX6_begin_8 : decode cX6_begin 8 = .ok (.aload_n 0, 1) := by decide +kernel
theorem dX6_begin_9 : decode cX6_begin 9 = .ok (.getfield 25, 3) := by decide +kernel
theorem dX6_begin_12 : decode cX6_begin 12 = .ok (.iload_n 1, 1) := by decide +kernel
theorem dX6_begin_13 : decode cX6_begin 13 = .ok (.aload_n 0, 1) := by decide +kernel
theorem dX6_begin_14 : decode cX6_begin 14 = .ok (.getfield 22, 3) := by decide +kernel
theorem dX6_begin_17 : decode cX6_begin 17 = .ok (.iload_n 1, 1) := by decide +kernel
theorem dX6_begin_18 : decode cX6_begin 18 = .ok (.iaload, 1) := by decide +kernel
theorem dX6_begin_19 : decode cX6_begin 19 = .ok (.iastore, 1) := by decide +kernel
theorem dX6_begin_20 : decode cX6_begin 20 = .ok (.iinc 1 1, 3) := by decide +kernel
theorem dX6_begin_23 : decode cX6_begin 23 = .ok (.goto (-21), 3) := by decide +kernel
theorem dX6_begin_26 : decode cX6_begin 26 = .ok (.return_, 1) := by decide +kernel
theorem dX6_left_0 : decode cX6_left 0 = .ok (.aload_n 0, 1) := by decide +kernel
theorem dX6_left_1 : decode cX6_left 1 = .ok (.invokevirtual 132, 3) := by decide +kernel
theorem dX6_left_4 : decode cX6_left 4 = .ok (.iconst 0, 1) := by decide +kernel
theorem dX6_left_5 : decode cX6_left 5 = .ok (.istore_n 1, 1) := by decide +kernel
theorem dX6_left_6 : decode cX6_left 6 = .ok (.iload_n 1, 1) := by decide +kernel
theorem dX6_left_7 : decode cX6_left 7 = .ok (.iconst 4, 1) := by decide +kernel
theorem dX6_left_8 : decode cX6_left 8 = .ok (.if_icmp .ge 16, 3) := by decide +kernel
theorem dX6_left_11 : decode cX6_left 11 = .ok (.aload_n 0, 1) := by decide +kernel
theorem dX6_left_12 : decode cX6_left 12 = .ok (.getfield 25, 3) := by decide +kernel
theorem dX6_left_15 : decode cX6_left 15 = .ok (.iload_n 1, 1) := by decide +kernel
theorem dX6_left_16 : decode cX6_left 16 = .ok (.iconst 0, 1) := by decide +kernel
theorem dX6_left_17 : decode cX6_left 17 = .ok (.iastore, 1) := by decide +kernel
theorem dX6_left_18 : decode cX6_left 18 = .ok (.iinc 1 1, 3) := by decide +kernel
theorem dX6_left_21 : decode cX6_left 21 = .ok (.goto (-15), 3) := by decide +kernel
theorem dX6_left_24 : decode cX6_left 24 = .ok (.aload_n 0, 1) := by decide +kernel
theorem dX6_left_25 : decode cX6_left 25 = .ok (.aload_n 0, 1) := by decide +kernel
theorem dX6_left_26 : decode cX6_left 26 = .ok (.getfield 25, 3) := by decide +kernel
theorem dX6_left_29 : decode cX6_left 29 = .ok (.invokevirtual 135, 3) := by decide +kernel
theorem dX6_left_32 : decode cX6_left 32 = .ok (.pop, 1) := by decide +kernel
theorem dX6_left_33 : decode cX6_left 33 = .ok (.aload_n 0, 1) := by decide +kernel
theorem dX6_left_34 : decode cX6_left 34 = .ok (.getfield 25, 3) := by decide +kernel
theorem dX6_left_37 : decode cX6_left 37 = .ok (.iconst 5, 1) := by decide +kernel
theorem dX6_left_38 : decode cX6_left 38 = .ok (.iaload, 1) := by decide +kernel
theorem dX6_left_39 : decode cX6_left 39 = .ok (.ireturn, 1) := by decide +kernel
theorem dX6_about_0 : decode cX6_about 0 = .ok (.aload_n 0, 1) := by decide +kernel
theorem dX6_about_1 : decode cX6_about 1 = .ok (.iconst 0, 1) := by decide +kernel
theorem dX6_about_2 : decode cX6_about 2 = .ok (.putfield 50, 3) := by decide +kernel
theorem dX6_about_5 : decode cX6_about 5 = .ok (.iload_n 1, 1) := by decide +kernel
theorem dX6_about_6 : decode cX6_about 6 = .ok (.tableswitch 105 0 8 #[50, 55, 62, 70, 77, 85, 90, 95, 100], 50) := by decide +kernel
theorem dX6_about_56 : decode cX6_about 56 = .ok (.aload_n 0, 1) := by decide +kernel
theorem dX6_about_57 : decode cX6_about 57 = .ok (.getfield 60, 3) := by decide +kernel
theorem dX6_about_60 : decode cX6_about 60 = .ok (.ireturn, 1) := by decide +kernel
theorem dX6_about_61 : decode cX6_about 61 = .ok (.aload_n 0, 1) := by decide +kernel
theorem dX6_about_62 : decode cX6_about 62 = .ok (.getfield 22, 3) := by decide +kernel
theorem dX6_about_65 : decode cX6_about 65 = .ok (.iconst 4, 1) := by decide +kernel
theorem dX6_about_66 : decode cX6_about 66 = .ok (.iaload, 1) := by decide +kernel
theorem dX6_about_67 : decode cX6_about 67 = .ok (.ireturn, 1) := by decide +kernel
theorem dX6_about_68 : decode cX6_about 68 = .ok (.aload_n 0, 1) := by decide +kernel
theorem dX6_about_69 : decode cX6_about 69 = .ok (.getfield 22, 3) := by decide +kernel
theorem dX6_about_72 : decode cX6_about 72 = .ok (.invokestatic 138, 3) := by decide +kernel
theorem dX6_about_75 : decode cX6_about 75 = .ok (.ireturn, 1) := by decide +kernel
theorem dX6_about_76 : decode cX6_about 76 = .ok (.aload_n 0, 1) := by decide +kernel
theorem dX6_about_77 : decode cX6_about 77 = .ok (.getfield 22, 3) := by decide +kernel
theorem dX6_about_80 : decode cX6_about 80 = .ok (.iconst 5, 1) := by decide +kernel
theorem dX6_about_81 : decode cX6_about 81 = .ok (.iaload, 1) := by decide +kernel
theorem dX6_about_82 : decode cX6_about 82 = .ok (.ireturn, 1) := by decide +kernel
theorem dX6_about_83 : decode cX6_about 83 = .ok (.aload_n 0, 1) := by decide +kernel
theorem dX6_about_84 : decode cX6_about 84 = .ok (.getfield 22, 3) := by decide +kernel
theorem dX6_about_87 : decode cX6_about 87 = .ok (.bipush 6, 2) := by decide +kernel
theorem dX6_about_89 : decode cX6_about 89 = .ok (.iaload, 1) := by decide +kernel
theorem dX6_about_90 : decode cX6_about 90 = .ok (.ireturn, 1) := by decide +kernel
theorem dX6_about_91 : decode cX6_about 91 = .ok (.aload_n 0, 1) := by decide +kernel
theorem dX6_about_92 : decode cX6_about 92 = .ok (.invokevirtual 141, 3) := by decide +kernel
theorem dX6_about_95 : decode cX6_about 95 = .ok (.ireturn, 1) := by decide +kernel
theorem dX6_about_96 : decode cX6_about 96 = .ok (.aload_n 0, 1) := by decide +kernel
theorem dX6_about_97 : decode cX6_about 97 = .ok (.getfield 98, 3) := by decide +kernel
theorem dX6_about_100 : decode cX6_about 100 = .ok (.ireturn, 1) := by decide +kernel
theorem dX6_about_101 : decode cX6_about 101 = .ok (.aload_n 0, 1) := by decide +kernel
theorem dX6_about_102 : decode cX6_about 102 = .ok (.getfield 144, 3) := by decide +kernel
theorem dX6_about_105 : decode cX6_about 105 = .ok (.ireturn, 1) := by decide +kernel
theorem dX6_about_106 : decode cX6_about 106 = .ok (.aload_n 0, 1) := by decide +kernel
theorem dX6_about_107 : decode cX6_about 107 = .ok (.getfield 65, 3) := by decide +kernel
theorem dX6_about_110 : decode cX6_about 110 = .ok (.ireturn, 1) := by decide +kernel
theorem dX6_about_111 : decode cX6_about 111 = .ok (.bipush (-2), 2) := by decide +kernel
theorem dX6_about_113 : decode cX6_about 113 = .ok (.ireturn, 1) := by decide +kernel
theorem dX6_part_0 : decode cX6_part 0 = .ok (.aload_n 0, 1) := by decide +kernel
theorem dX6_part_1 : decode cX6_part 1 = .ok (.iconst 0, 1) := by decide +kernel
theorem dX6_part_2 : decode cX6_part 2 = .ok (.putfield 50, 3) := by decide +kernel
theorem dX6_part_5 : decode cX6_part 5 = .ok (.aload_n 0, 1) := by decide +kernel
theorem dX6_part_6 : decode cX6_part 6 = .ok (.iload_n 1, 1) := by decide +kernel
theorem dX6_part_7 : decode cX6_part 7 = .ok (.invokevirtual 147, 3) := by decide +kernel
theorem dX6_part_10 : decode cX6_part 10 = .ok (.ifCond .eq 5, 3) := by decide +kernel
theorem dX6_part_13 : decode cX6_part 13 = .ok (.iconst (-1), 1) := by decide +kernel
theorem dX6_part_14 : decode cX6_part 14 = .ok (.ireturn, 1) := by decide +kernel
theorem dX6_part_15 : decode cX6_part 15 = .ok (.iload_n 2, 1) := by decide +kernel
theorem dX6_part_16 : decode cX6_part 16 = .ok (.tableswitch 75 0 3 #[32, 39, 46, 57], 32) := by decide +kernel
theorem dX6_part_48 : decode cX6_part 48 = .ok (.aload_n 0, 1) := by decide +kernel
theorem dX6_part_49 : decode cX6_part 49 = .ok (.getfield 13, 3) := by decide +kernel
theorem dX6_part_52 : decode cX6_part 52 = .ok (.iload_n 1, 1) := by decide +kernel
theorem dX6_part_53 : decode cX6_part 53 = .ok (.iaload, 1) := by decide +kernel
theorem dX6_part_54 : decode cX6_part 54 = .ok (.ireturn, 1) := by decide +kernel
theorem dX6_part_55 : decode cX6_part 55 = .ok (.aload_n 0, 1) := by decide +kernel
theorem dX6_part_56 : decode cX6_part 56 = .ok (.getfield 16, 3) := by decide +kernel
theorem dX6_part_59 : decode cX6_part 59 = .ok (.iload_n 1, 1) := by decide +kernel
theorem dX6_part_60 : decode cX6_part 60 = .ok (.iaload, 1) := by decide +kernel
theorem dX6_part_61 : decode cX6_part 61 = .ok (.ireturn, 1) := by decide +kernel
theorem dX6_part_62 : decode cX6_part 62 = .ok (.aload_n 0, 1) := by decide +kernel
theorem dX6_part_63 : decode cX6_part 63 = .ok (.getfield 22, 3) := by decide +kernel
theorem dX6_part_66 : decode cX6_part 66 = .ok (.iconst 5, 1) := by decide +kernel
theorem dX6_part_67 : decode cX6_part 67 = .ok (.iaload, 1) := by decide +kernel
theorem dX6_part_68 : decode cX6_part 68 = .ok (.iload_n 1, 1) := by decide +kernel
theorem dX6_part_69 : decode cX6_part 69 = .ok (.ishr, 1) := by decide +kernel
theorem dX6_part_70 : decode cX6_part 70 = .ok (.iconst 1, 1) := by decide +kernel
theorem dX6_part_71 : decode cX6_part 71 = .ok (.iand, 1) := by decide +kernel
theorem dX6_part_72 : decode cX6_part 72 = .ok (.ireturn, 1) := by decide +kernel
theorem dX6_part_73 : decode cX6_part 73 = .ok (.aload_n 0, 1) := by decide +kernel
theorem dX6_part_74 : decode cX6_part 74 = .ok (.aload_n 0, 1) := by decide +kernel
theorem dX6_part_75 : decode cX6_part 75 = .ok (.getfield 22, 3) := by decide +kernel
theorem dX6_part_78 : decode cX6_part 78 = .ok (.iload_n 1, 1) := by decide +kernel
theorem dX6_part_79 : decode cX6_part 79 = .ok (.invokevirtual 109, 3) := by decide +kernel
theorem dX6_part_82 : decode cX6_part 82 = .ok (.ifCond .eq 7, 3) := by decide +kernel
theorem dX6_part_85 : decode cX6_part 85 = .ok (.iconst 1, 1) := by decide +kernel
theorem dX6_part_86 : decode cX6_part 86 = .ok (.goto 4, 3) := by decide +kernel
theorem dX6_part_89 : decode cX6_part 89 = .ok (.iconst 0, 1) := by decide +kernel
theorem dX6_part_90 : decode cX6_part 90 = .ok (.ireturn, 1) := by decide +kernel
theorem dX6_part_91 : decode cX6_part 91 = .ok (.bipush (-2), 2) := by decide +kernel
theorem dX6_part_93 : decode cX6_part 93 = .ok (.ireturn, 1) := by decide +kernel
theorem dX6_column_0 : decode cX6_column 0 = .ok (.aload_n 0, 1) := by decide +kernel
theorem dX6_column_1 : decode cX6_column 1 = .ok (.iconst 0, 1) := by decide +kernel
theorem dX6_column_2 : decode cX6_column 2 = .ok (.putfield 50, 3) := by decide +kernel
theorem dX6_column_5 : decode cX6_column 5 = .ok (.iload_n 1, 1) := by decide +kernel
theorem dX6_column_6 : decode cX6_column 6 = .ok (.invokestatic 101, 3) := by decide +kernel
theorem dX6_column_9 : decode cX6_column 9 = .ok (.ifCond .eq 7, 3) := by decide +kernel
theorem dX6_column_12 : decode cX6_column 12 = .ok (.iconst (-1), 1) := by decide +kernel
theorem dX6_column_13 : decode cX6_column 13 = .ok (.goto 9, 3) := by decide +kernel
theorem dX6_column_16 : decode cX6_column 16 = .ok (.aload_n 0, 1) := by decide +kernel
theorem dX6_column_17 : decode cX6_column 17 = .ok (.getfield 22, 3) := by decide +kernel
theorem dX6_column_20 : decode cX6_column 20 = .ok (.iload_n 1, 1) := by decide +kernel
theorem dX6_column_21 : decode cX6_column 21 = .ok (.iaload, 1) := by decide +kernel
theorem dX6_column_22 : decode cX6_column 22 = .ok (.ireturn, 1) := by decide +kernel
theorem dX6_at_0 : decode cX6_at 0 = .ok (.aload_n 0, 1) := by decide +kernel
theorem dX6_at_1 : decode cX6_at 1 = .ok (.iconst 0, 1) := by decide +kernel
theorem dX6_at_2 : decode cX6_at 2 = .ok (.putfield 50, 3) := by decide +kernel
theorem dX6_at_5 : decode cX6_at 5 = .ok (.iload_n 1, 1) := by decide +kernel
theorem dX6_at_6 : decode cX6_at 6 = .ok (.i2l, 1) := by decide +kernel
theorem dX6_at_7 : decode cX6_at 7 = .ok (.lconst 0, 1) := by decide +kernel
theorem dX6_at_8 : decode cX6_at 8 = .ok (.ldc2_w 74, 3) := by decide +kernel
theorem dX6_at_11 : decode cX6_at 11 = .ok (.invokestatic 56, 3) := by decide +kernel
theorem dX6_at_14 : decode cX6_at 14 = .ok (.ifCond .eq 11, 3) := by decide +kernel
theorem dX6_at_17 : decode cX6_at 17 = .ok (.aload_n 0, 1) := by decide +kernel
theorem dX6_at_18 : decode cX6_at 18 = .ok (.iload_n 1, 1) := by decide +kernel
theorem dX6_at_19 : decode cX6_at 19 = .ok (.invokevirtual 105, 3) := by decide +kernel
theorem dX6_at_22 : decode cX6_at 22 = .ok (.goto 4, 3) := by decide +kernel
theorem dX6_at_25 : decode cX6_at 25 = .ok (.iconst (-1), 1) := by decide +kernel
theorem dX6_at_26 : decode cX6_at 26 = .ok (.ireturn, 1) := by decide +kernel
theorem dX6_note_0 : decode cX6_note 0 = .ok (.aload_n 0, 1) := by decide +kernel
theorem dX6_note_1 : decode cX6_note 1 = .ok (.getfield 98, 3) := by decide +kernel
theorem dX6_note_4 : decode cX6_note 4 = .ok (.bipush 14, 2) := by decide +kernel
theorem dX6_note_6 : decode cX6_note 6 = .ok (.if_icmp .ne 42, 3) := by decide +kernel
theorem dX6_note_9 : decode cX6_note 9 = .ok (.iconst 0, 1) := by decide +kernel
theorem dX6_note_10 : decode cX6_note 10 = .ok (.istore_n 1, 1) := by decide +kernel
theorem dX6_note_11 : decode cX6_note 11 = .ok (.iload_n 1, 1) := by decide +kernel
theorem dX6_note_12 : decode cX6_note 12 = .ok (.bipush 91, 2) := by decide +kernel
theorem dX6_note_14 : decode cX6_note 14 = .ok (.if_icmp .ge 24, 3) := by decide +kernel
theorem dX6_note_17 : decode cX6_note 17 = .ok (.aload_n 0, 1) := by decide +kernel
theorem dX6_note_18 : decode cX6_note 18 = .ok (.getfield 28, 3) := by decide +kernel
theorem dX6_note_21 : decode cX6_note 21 = .ok (.iload_n 1, 1) := by decide +kernel
theorem dX6_note_22 : decode cX6_note 22 = .ok (.aload_n 0, 1) := by decide +kernel
theorem dX6_note_23 : decode cX6_note 23 = .ok (.getfield 28, 3) := by decide +kernel
theorem dX6_note_26 : decode cX6_note 26 = .ok (.iload_n 1, 1) := by decide +kernel
theorem dX6_note_27 : decode cX6_note 27 = .ok (.bipush 7, 2) := by decide +kernel
theorem dX6_note_29 : decode cX6_note 29 = .ok (.iadd, 1) := by decide +kernel
theorem dX6_note_30 : decode cX6_note 30 = .ok (.iaload, 1) := by decide +kernel
theorem dX6_note_31 : decode cX6_note 31 = .ok (.iastore, 1) := by decide +kernel
theorem dX6_note_32 : decode cX6_note 32 = .ok (.iinc 1 1, 3) := by decide +kernel
theorem dX6_note_35 : decode cX6_note 35 = .ok (.goto (-24), 3) := by decide +kernel
theorem dX6_note_38 : decode cX6_note 38 = .ok (.aload_n 0, 1) := by decide +kernel
theorem dX6_note_39 : decode cX6_note 39 = .ok (.dup, 1) := by decide +kernel
theorem dX6_note_40 : decode cX6_note 40 = .ok (.getfield 98, 3) := by decide +kernel
theorem dX6_note_43 : decode cX6_note 43 = .ok (.iconst 1, 1) := by decide +kernel
theorem dX6_note_44 : decode cX6_note 44 = .ok (.isub, 1) := by decide +kernel
theorem dX6_note_45 : decode cX6_note 45 = .ok (.putfield 98, 3) := by decide +kernel
theorem dX6_note_48 : decode cX6_note 48 = .ok (.iconst 0, 1) := by decide +kernel
theorem dX6_note_49 : decode cX6_note 49 = .ok (.istore_n 1, 1) := by decide +kernel
theorem dX6_note_50 : decode cX6_note 50 = .ok (.iload_n 1, 1) := by decide +kernel
theorem dX6_note_51 : decode cX6_note 51 = .ok (.bipush 7, 2) := by decide +kernel
theorem dX6_note_53 : decode cX6_note 53 = .ok (.if_icmp .ge 29, 3) := by decide +kernel
theorem dX6_note_56 : decode cX6_note 56 = .ok (.aload_n 0, 1) := by decide +kernel
theorem dX6_note_57 : decode cX6_note 57 = .ok (.getfield 28, 3) := by decide +kernel
theorem dX6_note_60 : decode cX6_note 60 = .ok (.bipush 7, 2) := by decide +kernel
theorem dX6_note_62 : decode cX6_note 62 = .ok (.aload_n 0, 1) := by decide +kernel
theorem dX6_note_63 : decode cX6_note 63 = .ok (.getfield 98, 3) := by decide +kernel
theorem dX6_note_66 : decode cX6_note 66 = .ok (.imul, 1) := by decide +kernel
theorem dX6_note_67 : decode cX6_note 67 = .ok (.iload_n 1, 1) := by decide +kernel
theorem dX6_note_68 : decode cX6_note 68 = .ok (.iadd, 1) := by decide +kernel
theorem dX6_note_69 : decode cX6_note 69 = .ok (.aload_n 0, 1) := by decide +kernel
theorem dX6_note_70 : decode cX6_note 70 = .ok (.getfield 22, 3) := by decide +kernel
theorem dX6_note_73 : decode cX6_note 73 = .ok (.iload_n 1, 1) := by decide +kernel
theorem dX6_note_74 : decode cX6_note 74 = .ok (.iaload, 1) := by decide +kernel
theorem dX6_note_75 : decode cX6_note 75 = .ok (.iastore, 1) := by decide +kernel
theorem dX6_note_76 : decode cX6_note 76 = .ok (.iinc 1 1, 3) := by decide +kernel
theorem dX6_note_79 : decode cX6_note 79 = .ok (.goto (-29), 3) := by decide +kernel
theorem dX6_note_82 : decode cX6_note 82 = .ok (.aload_n 0, 1) := by decide +kernel
theorem dX6_note_83 : decode cX6_note 83 = .ok (.dup, 1) := by decide +kernel
theorem dX6_note_84 : decode cX6_note 84 = .ok (.getfield 98, 3) := by decide +kernel
theorem dX6_note_87 : decode cX6_note 87 = .ok (.iconst 1, 1) := by decide +kernel
theorem dX6_note_88 : decode cX6_note 88 = .ok (.iadd, 1) := by decide +kernel
theorem dX6_note_89 : decode cX6_note 89 = .ok (.putfield 98, 3) := by decide +kernel
theorem dX6_note_92 : decode cX6_note 92 = .ok (.return_, 1) := by decide +kernel
theorem dX6_goPut_0 : decode cX6_goPut 0 = .ok (.aload_n 1, 1) := by decide +kernel
theorem dX6_goPut_1 : decode cX6_goPut 1 = .ok (.iconst 4, 1) := by decide +kernel
theorem dX6_goPut_2 : decode cX6_goPut 2 = .ok (.iaload, 1) := by decide +kernel
theorem dX6_goPut_3 : decode cX6_goPut 3 = .ok (.ifCond .eq 10, 3) := by decide +kernel
theorem dX6_goPut_6 : decode cX6_goPut 6 = .ok (.aload_n 1, 1) := by decide +kernel
theorem dX6_goPut_7 : decode cX6_goPut 7 = .ok (.iload_n 2, 1) := by decide +kernel
theorem dX6_goPut_8 : decode cX6_goPut 8 = .ok (.iaload, 1) := by decide +kernel
theorem dX6_goPut_9 : decode cX6_goPut 9 = .ok (.iconst 4, 1) := by decide +kernel
theorem dX6_goPut_10 : decode cX6_goPut 10 = .ok (.if_icmp .ne 5, 3) := by decide +kernel
theorem dX6_goPut_13 : decode cX6_goPut 13 = .ok (.iconst 0, 1) := by decide +kernel
theorem dX6_goPut_14 : decode cX6_goPut 14 = .ok (.ireturn, 1) := by decide +kernel
theorem dX6_goPut_15 : decode cX6_goPut 15 = .ok (.aload_n 0, 1) := by decide +kernel
theorem dX6_goPut_16 : decode cX6_goPut 16 = .ok (.iconst 4, 1) := by decide +kernel
theorem dX6_goPut_17 : decode cX6_goPut 17 = .ok (.aload_n 1, 1) := by decide +kernel
theorem dX6_goPut_18 : decode cX6_goPut 18 = .ok (.iload_n 2, 1) := by decide +kernel
theorem dX6_goPut_19 : decode cX6_goPut 19 = .ok (.iaload, 1) := by decide +kernel
theorem dX6_goPut_20 : decode cX6_goPut 20 = .ok (.imul, 1) := by decide +kernel
theorem dX6_goPut_21 : decode cX6_goPut 21 = .ok (.iload_n 2, 1) := by decide +kernel
theorem dX6_goPut_22 : decode cX6_goPut 22 = .ok (.iadd, 1) := by decide +kernel
theorem dX6_goPut_23 : decode cX6_goPut 23 = .ok (.invokevirtual 105, 3) := by decide +kernel
theorem dX6_goPut_26 : decode cX6_goPut 26 = .ok (.istore_n 3, 1) := by decide +kernel
theorem dX6_goPut_27 : decode cX6_goPut 27 = .ok (.aload_n 1, 1) := by decide +kernel
theorem dX6_goPut_28 : decode cX6_goPut 28 = .ok (.iconst 5, 1) := by decide +kernel
theorem dX6_goPut_29 : decode cX6_goPut 29 = .ok (.dup2, 1) := by decide +kernel
theorem dX6_goPut_30 : decode cX6_goPut 30 = .ok (.iaload, 1) := by decide +kernel
theorem dX6_goPut_31 : decode cX6_goPut 31 = .ok (.iload_n 3, 1) := by decide +kernel
theorem dX6_goPut_32 : decode cX6_goPut 32 = .ok (.bipush (-9), 2) := by decide +kernel
theorem dX6_goPut_34 : decode cX6_goPut 34 = .ok (.if_icmp .ne 7, 3) := by decide +kernel
theorem dX6_goPut_37 : decode cX6_goPut 37 = .ok (.iconst 0, 1) := by decide +kernel
theorem dX6_goPut_38 : decode cX6_goPut 38 = .ok (.goto 6, 3) := by decide +kernel
theorem dX6_goPut_41 : decode cX6_goPut 41 = .ok (.iconst 1, 1) := by decide +kernel
theorem dX6_goPut_42 : decode cX6_goPut 42 = .ok (.iload_n 3, 1) := by decide +kernel
theorem dX6_goPut_43 : decode cX6_goPut 43 = .ok (.ishl, 1) := by decide +kernel
theorem dX6_goPut_44 : decode cX6_goPut 44 = .ok (.ior, 1) := by decide +kernel
theorem dX6_goPut_45 : decode cX6_goPut 45 = .ok (.iastore, 1) := by decide +kernel
theorem dX6_goPut_46 : decode cX6_goPut 46 = .ok (.aload_n 1, 1) := by decide +kernel
theorem dX6_goPut_47 : decode cX6_goPut 47 = .ok (.iload_n 2, 1) := by decide +kernel
theorem dX6_goPut_48 : decode cX6_goPut 48 = .ok (.dup2, 1) := by decide +kernel
theorem dX6_goPut_49 : decode cX6_goPut 49 = .ok (.iaload, 1) := by decide +kernel
theorem dX6_goPut_50 : decode cX6_goPut 50 = .ok (.iconst 1, 1) := by decide +kernel
theorem dX6_goPut_51 : decode cX6_goPut 51 = .ok (.iadd, 1) := by decide +kernel
theorem dX6_goPut_52 : decode cX6_goPut 52 = .ok (.iastore, 1) := by decide +kernel
theorem dX6_goPut_53 : decode cX6_goPut 53 = .ok (.aload_n 1, 1) := by decide +kernel
theorem dX6_goPut_54 : decode cX6_goPut 54 = .ok (.iconst 4, 1) := by decide +kernel
theorem dX6_goPut_55 : decode cX6_goPut 55 = .ok (.dup2, 1) := by decide +kernel
theorem dX6_goPut_56 : decode cX6_goPut 56 = .ok (.iaload, 1) := by decide +kernel
theorem dX6_goPut_57 : decode cX6_goPut 57 = .ok (.iconst 1, 1) := by decide +kernel
theorem dX6_goPut_58 : decode cX6_goPut 58 = .ok (.isub, 1) := by decide +kernel
theorem dX6_goPut_59 : decode cX6_goPut 59 = .ok (.iastore, 1) := by decide +kernel
theorem dX6_goPut_60 : decode cX6_goPut 60 = .ok (.aload_n 0, 1) := by decide +kernel
theorem dX6_goPut_61 : decode cX6_goPut 61 = .ok (.aload_n 1, 1) := by decide +kernel
theorem dX6_goPut_62 : decode cX6_goPut 62 = .ok (.invokevirtual 135, 3) := by decide +kernel
theorem dX6_goPut_65 : decode cX6_goPut 65 = .ok (.pop, 1) := by decide +kernel
theorem dX6_goPut_66 : decode cX6_goPut 66 = .ok (.iconst 1, 1) := by decide +kernel
theorem dX6_goPut_67 : decode cX6_goPut 67 = .ok (.ireturn, 1) := by decide +kernel
theorem dX6_goStrike_0 : decode cX6_goStrike 0 = .ok (.aload_n 1, 1) := by decide +kernel
theorem dX6_goStrike_1 : decode cX6_goStrike 1 = .ok (.iload_n 2, 1) := by decide +kernel
theorem dX6_goStrike_2 : decode cX6_goStrike 2 = .ok (.dup2, 1) := by decide +kernel
theorem dX6_goStrike_3 : decode cX6_goStrike 3 = .ok (.iaload, 1) := by decide +kernel
theorem dX6_goStrike_4 : decode cX6_goStrike 4 = .ok (.iconst 1, 1) := by decide +kernel
theorem dX6_goStrike_5 : decode cX6_goStrike 5 = .ok (.isub, 1) := by decide +kernel
theorem dX6_goStrike_6 : decode cX6_goStrike 6 = .ok (.iastore, 1) := by decide +kernel
theorem dX6_goStrike_7 : decode cX6_goStrike 7 = .ok (.aload_n 1, 1) := by decide +kernel
theorem dX6_goStrike_8 : decode cX6_goStrike 8 = .ok (.iconst 4, 1) := by decide +kernel
theorem dX6_goStrike_9 : decode cX6_goStrike 9 = .ok (.dup2, 1) := by decide +kernel
theorem dX6_goStrike_10 : decode cX6_goStrike 10 = .ok (.iaload, 1) := by decide +kernel
theorem dX6_goStrike_11 : decode cX6_goStrike 11 = .ok (.iconst 1, 1) := by decide +kernel
theorem dX6_goStrike_12 : decode cX6_goStrike 12 = .ok (.iadd, 1) := by decide +kernel
theorem dX6_goStrike_13 : decode cX6_goStrike 13 = .ok (.iastore, 1) := by decide +kernel
theorem dX6_goStrike_14 : decode cX6_goStrike 14 = .ok (.aload_n 0, 1) := by decide +kernel
theorem dX6_goStrike_15 : decode cX6_goStrike 15 = .ok (.aload_n 1, 1) := by decide +kernel
theorem dX6_goStrike_16 : decode cX6_goStrike 16 = .ok (.invokevirtual 135, 3) := by decide +kernel
theorem dX6_goStrike_19 : decode cX6_goStrike 19 = .ok (.ireturn, 1) := by decide +kernel
theorem dX6_goRain_0 : decode cX6_goRain 0 = .ok (.aload_n 1, 1) := by decide +kernel
theorem dX6_goRain_1 : decode cX6_goRain 1 = .ok (.iconst 5, 1) := by decide +kernel
theorem dX6_goRain_2 : decode cX6_goRain 2 = .ok (.iaload, 1) := by decide +kernel
theorem dX6_goRain_3 : decode cX6_goRain 3 = .ok (.istore_n 2, 1) := by decide +kernel
theorem dX6_goRain_4 : decode cX6_goRain 4 = .ok (.iconst 0, 1) := by decide +kernel
theorem dX6_goRain_5 : decode cX6_goRain 5 = .ok (.istore_n 3, 1) := by decide +kernel
theorem dX6_goRain_6 : decode cX6_goRain 6 = .ok (.iload_n 3, 1) := by decide +kernel
theorem dX6_goRain_7 : decode cX6_goRain 7 = .ok (.aload_n 0, 1) := by decide +kernel
theorem dX6_goRain_8 : decode cX6_goRain 8 = .ok (.getfield 60, 3) := by decide +kernel
theorem dX6_goRain_11 : decode cX6_goRain 11 = .ok (.if_icmp .ge 43, 3) := by decide +kernel
theorem dX6_goRain_14 : decode cX6_goRain 14 = .ok (.aload_n 1, 1) := by decide +kernel
theorem dX6_goRain_15 : decode cX6_goRain 15 = .ok (.iconst 5, 1) := by decide +kernel
theorem dX6_goRain_16 : decode cX6_goRain 16 = .ok (.dup2, 1) := by decide +kernel
theorem dX6_goRain_17 : decode cX6_goRain 17 = .ok (.iaload, 1) := by decide +kernel
theorem dX6_goRain_18 : decode cX6_goRain 18 = .ok (.aload_n 0, 1) := by decide +kernel
theorem dX6_goRain_19 : decode cX6_goRain 19 = .ok (.getfield 16, 3) := by decide +kernel
theorem dX6_goRain_22 : decode cX6_goRain 22 = .ok (.iload_n 3, 1) := by decide +kernel
theorem dX6_goRain_23 : decode cX6_goRain 23 = .ok (.iaload, 1) := by decide +kernel
theorem dX6_goRain_24 : decode cX6_goRain 24 = .ok (.iconst 3, 1) := by decide +kernel
theorem dX6_goRain_25 : decode cX6_goRain 25 = .ok (.if_icmp .ne 20, 3) := by decide +kernel
theorem dX6_goRain_28 : decode cX6_goRain 28 = .ok (.aload_n 0, 1) := by decide +kernel
theorem dX6_goRain_29 : decode cX6_goRain 29 = .ok (.aload_n 1, 1) := by decide +kernel
theorem dX6_goRain_30 : decode cX6_goRain 30 = .ok (.iload_n 3, 1) := by decide +kernel
theorem dX6_goRain_31 : decode cX6_goRain 31 = .ok (.invokevirtual 109, 3) := by decide +kernel
theorem dX6_goRain_34 : decode cX6_goRain 34 = .ok (.ifCond .ne 11, 3) := by decide +kernel
theorem dX6_goRain_37 : decode cX6_goRain 37 = .ok (.iconst 1, 1) := by decide +kernel
theorem dX6_goRain_38 : decode cX6_goRain 38 = .ok (.iload_n 3, 1) := by decide +kernel
theorem dX6_goRain_39 : decode cX6_goRain 39 = .ok (.ishl, 1) := by decide +kernel
theorem dX6_goRain_40 : decode cX6_goRain 40 = .ok (.iconst (-1), 1) := by decide +kernel
theorem dX6_goRain_41 : decode cX6_goRain 41 = .ok (.ixor, 1) := by decide +kernel
theorem dX6_goRain_42 : decode cX6_goRain 42 = .ok (.goto 4, 3) := by decide +kernel
theorem dX6_goRain_45 : decode cX6_goRain 45 = .ok (.iconst (-1), 1) := by decide +kernel
theorem dX6_goRain_46 : decode cX6_goRain 46 = .ok (.iand, 1) := by decide +kernel
theorem dX6_goRain_47 : decode cX6_goRain 47 = .ok (.iastore, 1) := by decide +kernel
theorem dX6_goRain_48 : decode cX6_goRain 48 = .ok (.iinc 3 1, 3) := by decide +kernel
theorem dX6_goRain_51 : decode cX6_goRain 51 = .ok (.goto (-45), 3) := by decide +kernel
theorem dX6_goRain_54 : decode cX6_goRain 54 = .ok (.aload_n 0, 1) := by decide +kernel
theorem dX6_goRain_55 : decode cX6_goRain 55 = .ok (.aload_n 1, 1) := by decide +kernel
theorem dX6_goRain_56 : decode cX6_goRain 56 = .ok (.invokevirtual 135, 3) := by decide +kernel
theorem dX6_goRain_59 : decode cX6_goRain 59 = .ok (.pop, 1) := by decide +kernel
theorem dX6_goRain_60 : decode cX6_goRain 60 = .ok (.aload_n 1, 1) := by decide +kernel
theorem dX6_goRain_61 : decode cX6_goRain 61 = .ok (.bipush 6, 2) := by decide +kernel
theorem dX6_goRain_63 : decode cX6_goRain 63 = .ok (.dup2, 1) := by decide +kernel
theorem dX6_goRain_64 : decode cX6_goRain 64 = .ok (.iaload, 1) := by decide +kernel
theorem dX6_goRain_65 : decode cX6_goRain 65 = .ok (.iconst 1, 1) := by decide +kernel
theorem dX6_goRain_66 : decode cX6_goRain 66 = .ok (.iadd, 1) := by decide +kernel
theorem dX6_goRain_67 : decode cX6_goRain 67 = .ok (.iastore, 1) := by decide +kernel
theorem dX6_goRain_68 : decode cX6_goRain 68 = .ok (.iload_n 2, 1) := by decide +kernel
theorem dX6_goRain_69 : decode cX6_goRain 69 = .ok (.invokestatic 129, 3) := by decide +kernel
theorem dX6_goRain_72 : decode cX6_goRain 72 = .ok (.aload_n 1, 1) := by decide +kernel
theorem dX6_goRain_73 : decode cX6_goRain 73 = .ok (.iconst 5, 1) := by decide +kernel
theorem dX6_goRain_74 : decode cX6_goRain 74 = .ok (.iaload, 1) := by decide +kernel
theorem dX6_goRain_75 : decode cX6_goRain 75 = .ok (.invokestatic 129, 3) := by decide +kernel
theorem dX6_goRain_78 : decode cX6_goRain 78 = .ok (.isub, 1) := by decide +kernel
theorem dX6_goRain_79 : decode cX6_goRain 79 = .ok (.ireturn, 1) := by decide +kernel
theorem dX6_put_0 : decode cX6_put 0 = .ok (.aload_n 0, 1) := by decide +kernel
theorem dX6_put_1 : decode cX6_put 1 = .ok (.iconst 0, 1) := by decide +kernel
theorem dX6_put_2 : decode cX6_put 2 = .ok (.putfield 50, 3) := by decide +kernel
theorem dX6_put_5 : decode cX6_put 5 = .ok (.iload_n 1, 1) := by decide +kernel
theorem dX6_put_6 : decode cX6_put 6 = .ok (.invokestatic 101, 3) := by decide +kernel
theorem dX6_put_9 : decode cX6_put 9 = .ok (.ifCond .eq 5, 3) := by decide +kernel
theorem dX6_put_12 : decode cX6_put 12 = .ok (.iconst (-1), 1) := by decide +kernel
theorem dX6_put_13 : decode cX6_put 13 = .ok (.ireturn, 1) := by decide +kernel
theorem dX6_put_14 : decode cX6_put 14 = .ok (.aload_n 0, 1) := by decide +kernel
theorem dX6_put_15 : decode cX6_put 15 = .ok (.getfield 22, 3) := by decide +kernel
theorem dX6_put_18 : decode cX6_put 18 = .ok (.iconst 4, 1) := by decide +kernel
theorem dX6_put_19 : decode cX6_put 19 = .ok (.iaload, 1) := by decide +kernel
theorem dX6_put_20 : decode cX6_put 20 = .ok (.ifCond .ne 6, 3) := by decide +kernel
theorem dX6_put_23 : decode cX6_put 23 = .ok (.bipush (-3), 2) := by decide +kernel
theorem dX6_put_25 : decode cX6_put 25 = .ok (.ireturn, 1) := by decide +kernel
theorem dX6_put_26 : decode cX6_put 26 = .ok (.aload_n 0, 1) := by decide +kernel
theorem dX6_put_27 : decode cX6_put 27 = .ok (.getfield 22, 3) := by decide +kernel
theorem dX6_put_30 : decode cX6_put 30 = .ok (.iload_n 1, 1) := by decide +kernel
theorem dX6_put_31 : decode cX6_put 31 = .ok (.iaload, 1) := by decide +kernel
theorem dX6_put_32 : decode cX6_put 32 = .ok (.iconst 4, 1) := by decide +kernel
theorem dX6_put_33 : decode cX6_put 33 = .ok (.if_icmp .ne 6, 3) := by decide +kernel
theorem dX6_put_36 : decode cX6_put 36 = .ok (.bipush (-4), 2) := by decide +kernel
theorem dX6_put_38 : decode cX6_put 38 = .ok (.ireturn, 1) := by decide +kernel
theorem dX6_put_39 : decode cX6_put 39 = .ok (.aload_n 0, 1) := by decide +kernel
theorem dX6_put_40 : decode cX6_put 40 = .ok (.invokevirtual 150, 3) := by decide +kernel
theorem dX6_put_43 : decode cX6_put 43 = .ok (.aload_n 0, 1) := by decide +kernel
theorem dX6_put_44 : decode cX6_put 44 = .ok (.aload_n 0, 1) := by decide +kernel
theorem dX6_put_45 : decode cX6_put 45 = .ok (.getfield 22, 3) := by decide +kernel
theorem dX6_put_48 : decode cX6_put 48 = .ok (.iload_n 1, 1) := by decide +kernel
theorem dX6_put_49 : decode cX6_put 49 = .ok (.invokevirtual 153, 3) := by decide +kernel
theorem dX6_put_52 : decode cX6_put 52 = .ok (.pop, 1) := by decide +kernel
theorem dX6_put_53 : decode cX6_put 53 = .ok (.aload_n 0, 1) := by decide +kernel
theorem dX6_put_54 : decode cX6_put 54 = .ok (.getfield 22, 3) := by decide +kernel
theorem dX6_put_57 : decode cX6_put 57 = .ok (.iconst 5, 1) := by decide +kernel
theorem dX6_put_58 : decode cX6_put 58 = .ok (.iaload, 1) := by decide +kernel
theorem dX6_put_59 : decode cX6_put 59 = .ok (.invokestatic 129, 3) := by decide +kernel
theorem dX6_put_62 : decode cX6_put 62 = .ok (.ireturn, 1) := by decide +kernel
theorem dX6_strike_0 : decode cX6_strike 0 = .ok (.aload_n 0, 1) := by decide +kernel
theorem dX6_strike_1 : decode cX6_strike 1 = .ok (.iconst 0, 1) := by decide +kernel
theorem dX6_strike_2 : decode cX6_strike 2 = .ok (.putfield 50, 3) := by decide +kernel
theorem dX6_strike_5 : decode cX6_strike 5 = .ok (.iload_n 1, 1) := by decide +kernel
theorem dX6_strike_6 : decode cX6_strike 6 = .ok (.invokestatic 101, 3) := by decide +kernel
theorem dX6_strike_9 : decode cX6_strike 9 = .ok (.ifCond .eq 5, 3) := by decide +kernel
theorem dX6_strike_12 : decode cX6_strike 12 = .ok (.iconst (-1), 1) := by decide +kernel
theorem dX6_strike_13 : decode cX6_strike 13 = .ok (.ireturn, 1) := by decide +kernel
theorem dX6_strike_14 : decode cX6_strike 14 = .ok (.aload_n 0, 1) := by decide +kernel
theorem dX6_strike_15 : decode cX6_strike 15 = .ok (.getfield 22, 3) := by decide +kernel
theorem dX6_strike_18 : decode cX6_strike 18 = .ok (.iload_n 1, 1) := by decide +kernel
theorem dX6_strike_19 : decode cX6_strike 19 = .ok (.iaload, 1) := by decide +kernel
theorem dX6_strike_20 : decode cX6_strike 20 = .ok (.ifCond .ne 6, 3) := by decide +kernel
theorem dX6_strike_23 : decode cX6_strike 23 = .ok (.bipush (-3), 2) := by decide +kernel
theorem dX6_strike_25 : decode cX6_strike 25 = .ok (.ireturn, 1) := by decide +kernel
theorem dX6_strike_26 : decode cX6_strike 26 = .ok (.aload_n 0, 1) := by decide +kernel
theorem dX6_strike_27 : decode cX6_strike 27 = .ok (.invokevirtual 150, 3) := by decide +kernel
theorem dX6_strike_30 : decode cX6_strike 30 = .ok (.aload_n 0, 1) := by decide +kernel
theorem dX6_strike_31 : decode cX6_strike 31 = .ok (.aload_n 0, 1) := by decide +kernel
theorem dX6_strike_32 : decode cX6_strike 32 = .ok (.getfield 22, 3) := by decide +kernel
theorem dX6_strike_35 : decode cX6_strike 35 = .ok (.iload_n 1, 1) := by decide +kernel
theorem dX6_strike_36 : decode cX6_strike 36 = .ok (.invokevirtual 156, 3) := by decide +kernel
theorem dX6_strike_39 : decode cX6_strike 39 = .ok (.ireturn, 1) := by decide +kernel
theorem dX6_rain_0 : decode cX6_rain 0 = .ok (.aload_n 0, 1) := by decide +kernel
theorem dX6_rain_1 : decode cX6_rain 1 = .ok (.iconst 0, 1) := by decide +kernel
theorem dX6_rain_2 : decode cX6_rain 2 = .ok (.putfield 50, 3) := by decide +kernel
theorem dX6_rain_5 : decode cX6_rain 5 = .ok (.aload_n 0, 1) := by decide +kernel
theorem dX6_rain_6 : decode cX6_rain 6 = .ok (.invokevirtual 150, 3) := by decide +kernel
theorem dX6_rain_9 : decode cX6_rain 9 = .ok (.aload_n 0, 1) := by decide +kernel
theorem dX6_rain_10 : decode cX6_rain 10 = .ok (.aload_n 0, 1) := by decide +kernel
theorem dX6_rain_11 : decode cX6_rain 11 = .ok (.getfield 22, 3) := by decide +kernel
theorem dX6_rain_14 : decode cX6_rain 14 = .ok (.invokevirtual 160, 3) := by decide +kernel
theorem dX6_rain_17 : decode cX6_rain 17 = .ok (.ireturn, 1) := by decide +kernel
theorem dX6_undo_0 : decode cX6_undo 0 = .ok (.aload_n 0, 1) := by decide +kernel
theorem dX6_undo_1 : decode cX6_undo 1 = .ok (.iconst 0, 1) := by decide +kernel
theorem dX6_undo_2 : decode cX6_undo 2 = .ok (.putfield 50, 3) := by decide +kernel
theorem dX6_undo_5 : decode cX6_undo 5 = .ok (.aload_n 0, 1) := by decide +kernel
theorem dX6_undo_6 : decode cX6_undo 6 = .ok (.getfield 98, 3) := by decide +kernel
theorem dX6_undo_9 : decode cX6_undo 9 = .ok (.ifCond .ne 6, 3) := by decide +kernel
theorem dX6_undo_12 : decode cX6_undo 12 = .ok (.bipush (-3), 2) := by decide +kernel
theorem dX6_undo_14 : decode cX6_undo 14 = .ok (.ireturn, 1) := by decide +kernel
theorem dX6_undo_15 : decode cX6_undo 15 = .ok (.aload_n 0, 1) := by decide +kernel
theorem dX6_undo_16 : decode cX6_undo 16 = .ok (.dup, 1) := by decide +kernel
theorem dX6_undo_17 : decode cX6_undo 17 = .ok (.getfield 98, 3) := by decide +kernel
theorem dX6_undo_20 : decode cX6_undo 20 = .ok (.iconst 1, 1) := by decide +kernel
theorem dX6_undo_21 : decode cX6_undo 21 = .ok (.isub, 1) := by decide +kernel
theorem dX6_undo_22 : decode cX6_undo 22 = .ok (.putfield 98, 3) := by decide +kernel
theorem dX6_undo_25 : decode cX6_undo 25 = .ok (.iconst 0, 1) := by decide +kernel
theorem dX6_undo_26 : decode cX6_undo 26 = .ok (.istore_n 1, 1) := by decide +kernel
theorem dX6_undo_27 : decode cX6_undo 27 = .ok (.iload_n 1, 1) := by decide +kernel
theorem dX6_undo_28 : decode cX6_undo 28 = .ok (.bipush 7, 2) := by decide +kernel
theorem dX6_undo_30 : decode cX6_undo 30 = .ok (.if_icmp .ge 29, 3) := by decide +kernel
theorem dX6_undo_33 : decode cX6_undo 33 = .ok (.aload_n 0, 1) := by decide +kernel
theorem dX6_undo_34 : decode cX6_undo 34 = .ok (.getfield 22, 3) := by decide +kernel
theorem dX6_undo_37 : decode cX6_undo 37 = .ok (.iload_n 1, 1) := by decide +kernel
theorem dX6_undo_38 : decode cX6_undo 38 = .ok (.aload_n 0, 1) := by decide +kernel
theorem dX6_undo_39 : decode cX6_undo 39 = .ok (.getfield 28, 3) := by decide +kernel
theorem dX6_undo_42 : decode cX6_undo 42 = .ok (.bipush 7, 2) := by decide +kernel
theorem dX6_undo_44 : decode cX6_undo 44 = .ok (.aload_n 0, 1) := by decide +kernel
theorem dX6_undo_45 : decode cX6_undo 45 = .ok (.getfield 98, 3) := by decide +kernel
theorem dX6_undo_48 : decode cX6_undo 48 = .ok (.imul, 1) := by decide +kernel
theorem dX6_undo_49 : decode cX6_undo 49 = .ok (.iload_n 1, 1) := by decide +kernel
theorem dX6_undo_50 : decode cX6_undo 50 = .ok (.iadd, 1) := by decide +kernel
theorem dX6_undo_51 : decode cX6_undo 51 = .ok (.iaload, 1) := by decide +kernel
theorem dX6_undo_52 : decode cX6_undo 52 = .ok (.iastore, 1) := by decide +kernel
theorem dX6_undo_53 : decode cX6_undo 53 = .ok (.iinc 1 1, 3) := by decide +kernel
theorem dX6_undo_56 : decode cX6_undo 56 = .ok (.goto (-29), 3) := by decide +kernel
theorem dX6_undo_59 : decode cX6_undo 59 = .ok (.aload_n 0, 1) := by decide +kernel
theorem dX6_undo_60 : decode cX6_undo 60 = .ok (.getfield 98, 3) := by decide +kernel
theorem dX6_undo_63 : decode cX6_undo 63 = .ok (.ireturn, 1) := by decide +kernel
theorem dX6_loses_0 : decode cX6_loses 0 = .ok (.aload_n 0, 1) := by decide +kernel
theorem dX6_loses_1 : decode cX6_loses 1 = .ok (.iconst 0, 1) := by decide +kernel
theorem dX6_loses_2 : decode cX6_loses 2 = .ok (.putfield 50, 3) := by decide +kernel
theorem dX6_loses_5 : decode cX6_loses 5 = .ok (.iload_n 1, 1) := by decide +kernel
theorem dX6_loses_6 : decode cX6_loses 6 = .ok (.invokestatic 101, 3) := by decide +kernel
theorem dX6_loses_9 : decode cX6_loses 9 = .ok (.ifCond .eq 5, 3) := by decide +kernel
theorem dX6_loses_12 : decode cX6_loses 12 = .ok (.iconst (-1), 1) := by decide +kernel
theorem dX6_loses_13 : decode cX6_loses 13 = .ok (.ireturn, 1) := by decide +kernel
theorem dX6_loses_14 : decode cX6_loses 14 = .ok (.aload_n 0, 1) := by decide +kernel
theorem dX6_loses_15 : decode cX6_loses 15 = .ok (.getfield 22, 3) := by decide +kernel
theorem dX6_loses_18 : decode cX6_loses 18 = .ok (.iload_n 1, 1) := by decide +kernel
theorem dX6_loses_19 : decode cX6_loses 19 = .ok (.iaload, 1) := by decide +kernel
theorem dX6_loses_20 : decode cX6_loses 20 = .ok (.ifCond .ne 6, 3) := by decide +kernel
theorem dX6_loses_23 : decode cX6_loses 23 = .ok (.bipush (-3), 2) := by decide +kernel
theorem dX6_loses_25 : decode cX6_loses 25 = .ok (.ireturn, 1) := by decide +kernel
theorem dX6_loses_26 : decode cX6_loses 26 = .ok (.aload_n 0, 1) := by decide +kernel
theorem dX6_loses_27 : decode cX6_loses 27 = .ok (.invokevirtual 132, 3) := by decide +kernel
theorem dX6_loses_30 : decode cX6_loses 30 = .ok (.aload_n 0, 1) := by decide +kernel
theorem dX6_loses_31 : decode cX6_loses 31 = .ok (.aload_n 0, 1) := by decide +kernel
theorem dX6_loses_32 : decode cX6_loses 32 = .ok (.getfield 25, 3) := by decide +kernel
theorem dX6_loses_35 : decode cX6_loses 35 = .ok (.iload_n 1, 1) := by decide +kernel
theorem dX6_loses_36 : decode cX6_loses 36 = .ok (.invokevirtual 156, 3) := by decide +kernel
theorem dX6_loses_39 : decode cX6_loses 39 = .ok (.pop, 1) := by decide +kernel
theorem dX6_loses_40 : decode cX6_loses 40 = .ok (.aload_n 0, 1) := by decide +kernel
theorem dX6_loses_41 : decode cX6_loses 41 = .ok (.getfield 22, 3) := by decide +kernel
theorem dX6_loses_44 : decode cX6_loses 44 = .ok (.iconst 5, 1) := by decide +kernel
theorem dX6_loses_45 : decode cX6_loses 45 = .ok (.iaload, 1) := by decide +kernel
theorem dX6_loses_46 : decode cX6_loses 46 = .ok (.aload_n 0, 1) := by decide +kernel
theorem dX6_loses_47 : decode cX6_loses 47 = .ok (.getfield 25, 3) := by decide +kernel
theorem dX6_loses_50 : decode cX6_loses 50 = .ok (.iconst 5, 1) := by decide +kernel
theorem dX6_loses_51 : decode cX6_loses 51 = .ok (.iaload, 1) := by decide +kernel
theorem dX6_loses_52 : decode cX6_loses 52 = .ok (.iconst (-1), 1) := by decide +kernel
theorem dX6_loses_53 : decode cX6_loses 53 = .ok (.ixor, 1) := by decide +kernel
theorem dX6_loses_54 : decode cX6_loses 54 = .ok (.iand, 1) := by decide +kernel
theorem dX6_loses_55 : decode cX6_loses 55 = .ok (.ireturn, 1) := by decide +kernel
theorem dX6_down_0 : decode cX6_down 0 = .ok (.aload_n 0, 1) := by decide +kernel
theorem dX6_down_1 : decode cX6_down 1 = .ok (.iconst 0, 1) := by decide +kernel
theorem dX6_down_2 : decode cX6_down 2 = .ok (.putfield 50, 3) := by decide +kernel
theorem dX6_down_5 : decode cX6_down 5 = .ok (.iload_n 1, 1) := by decide +kernel
theorem dX6_down_6 : decode cX6_down 6 = .ok (.invokestatic 101, 3) := by decide +kernel
theorem dX6_down_9 : decode cX6_down 9 = .ok (.ifCond .eq 5, 3) := by decide +kernel
theorem dX6_down_12 : decode cX6_down 12 = .ok (.iconst (-1), 1) := by decide +kernel
theorem dX6_down_13 : decode cX6_down 13 = .ok (.ireturn, 1) := by decide +kernel
theorem dX6_down_14 : decode cX6_down 14 = .ok (.aload_n 0, 1) := by decide +kernel
theorem dX6_down_15 : decode cX6_down 15 = .ok (.invokevirtual 132, 3) := by decide +kernel
theorem dX6_down_18 : decode cX6_down 18 = .ok (.aload_n 0, 1) := by decide +kernel
theorem dX6_down_19 : decode cX6_down 19 = .ok (.getfield 25, 3) := by decide +kernel
theorem dX6_down_22 : decode cX6_down 22 = .ok (.iload_n 1, 1) := by decide +kernel
theorem dX6_down_23 : decode cX6_down 23 = .ok (.iaload, 1) := by decide +kernel
theorem dX6_down_24 : decode cX6_down 24 = .ok (.ifCond .le 24, 3) := by decide +kernel
theorem dX6_down_27 : decode cX6_down 27 = .ok (.aload_n 0, 1) := by decide +kernel
theorem dX6_down_28 : decode cX6_down 28 = .ok (.aload_n 0, 1) := by decide +kernel
theorem dX6_down_29 : decode cX6_down 29 = .ok (.getfield 25, 3) := by decide +kernel
theorem dX6_down_32 : decode cX6_down 32 = .ok (.iload_n 1, 1) := by decide +kernel
theorem dX6_down_33 : decode cX6_down 33 = .ok (.invokevirtual 156, 3) := by decide +kernel
theorem dX6_down_36 : decode cX6_down 36 = .ok (.ifCond .le (-18), 3) := by decide +kernel
theorem dX6_down_39 : decode cX6_down 39 = .ok (.aload_n 0, 1) := by decide +kernel
theorem dX6_down_40 : decode cX6_down 40 = .ok (.getfield 25, 3) := by decide +kernel
theorem dX6_down_43 : decode cX6_down 43 = .ok (.iload_n 1, 1) := by decide +kernel
theorem dX6_down_44 : decode cX6_down 44 = .ok (.iaload, 1) := by decide +kernel
theorem dX6_down_45 : decode cX6_down 45 = .ok (.iconst 1, 1) := by decide +kernel
theorem dX6_down_46 : decode cX6_down 46 = .ok (.iadd, 1) := by decide +kernel
theorem dX6_down_47 : decode cX6_down 47 = .ok (.ireturn, 1) := by decide +kernel
theorem dX6_down_48 : decode cX6_down 48 = .ok (.iconst 0, 1) := by decide +kernel
theorem dX6_down_49 : decode cX6_down 49 = .ok (.ireturn, 1) := by decide +kernel
theorem dX6_actsBy_0 : decode cX6_actsBy 0 = .ok (.aload_n 0, 1) := by decide +kernel
theorem dX6_actsBy_1 : decode cX6_actsBy 1 = .ok (.iconst 0, 1) := by decide +kernel
theorem dX6_actsBy_2 : decode cX6_actsBy 2 = .ok (.putfield 163, 3) := by decide +kernel
theorem dX6_actsBy_5 : decode cX6_actsBy 5 = .ok (.aload_n 0, 1) := by decide +kernel
theorem dX6_actsBy_6 : decode cX6_actsBy 6 = .ok (.invokevirtual 132, 3) := by decide +kernel
theorem dX6_actsBy_9 : decode cX6_actsBy 9 = .ok (.iconst 0, 1) := by decide +kernel
theorem dX6_actsBy_10 : decode cX6_actsBy 10 = .ok (.istore_n 3, 1) := by decide +kernel
theorem dX6_actsBy_11 : decode cX6_actsBy 11 = .ok (.iload_n 3, 1) := by decide +kernel
theorem dX6_actsBy_12 : decode cX6_actsBy 12 = .ok (.iload_n 1, 1) := by decide +kernel
theorem dX6_actsBy_13 : decode cX6_actsBy 13 = .ok (.if_icmp .ge 108, 3) := by decide +kernel
theorem dX6_actsBy_16 : decode cX6_actsBy 16 = .ok (.iload_n 2, 1) := by decide +kernel
theorem dX6_actsBy_17 : decode cX6_actsBy 17 = .ok (.bipush 8, 2) := by decide +kernel
theorem dX6_actsBy_19 : decode cX6_actsBy 19 = .ok (.iload_n 1, 1) := by decide +kernel
theorem dX6_actsBy_20 : decode cX6_actsBy 20 = .ok (.iconst 1, 1) := by decide +kernel
theorem dX6_actsBy_21 : decode cX6_actsBy 21 = .ok (.isub, 1) := by decide +kernel
theorem dX6_actsBy_22 : decode cX6_actsBy 22 = .ok (.iload_n 3, 1) := by decide +kernel
theorem dX6_actsBy_23 : decode cX6_actsBy 23 = .ok (.isub, 1) := by decide +kernel
theorem dX6_actsBy_24 : decode cX6_actsBy 24 = .ok (.invokestatic 166, 3) := by decide +kernel
theorem dX6_actsBy_27 : decode cX6_actsBy 27 = .ok (.idiv, 1) := by decide +kernel
theorem dX6_actsBy_28 : decode cX6_actsBy 28 = .ok (.bipush 8, 2) := by decide +kernel
theorem dX6_actsBy_30 : decode cX6_actsBy 30 = .ok (.irem, 1) := by decide +kernel
theorem dX6_actsBy_31 : decode cX6_actsBy 31 = .ok (.istore 4, 2) := by decide +kernel
theorem dX6_actsBy_33 : decode cX6_actsBy 33 = .ok (.aload_n 0, 1) := by decide +kernel
theorem dX6_actsBy_34 : decode cX6_actsBy 34 = .ok (.bipush 10, 2) := by decide +kernel
theorem dX6_actsBy_36 : decode cX6_actsBy 36 = .ok (.aload_n 0, 1) := by decide +kernel
theorem dX6_actsBy_37 : decode cX6_actsBy 37 = .ok (.getfield 163, 3) := by decide +kernel
theorem dX6_actsBy_40 : decode cX6_actsBy 40 = .ok (.imul, 1) := by decide +kernel
theorem dX6_actsBy_41 : decode cX6_actsBy 41 = .ok (.iload 4, 2) := by decide +kernel
theorem dX6_actsBy_43 : decode cX6_actsBy 43 = .ok (.iadd, 1) := by decide +kernel
theorem dX6_actsBy_44 : decode cX6_actsBy 44 = .ok (.iconst 1, 1) := by decide +kernel
theorem dX6_actsBy_45 : decode cX6_actsBy 45 = .ok (.iadd, 1) := by decide +kernel
theorem dX6_actsBy_46 : decode cX6_actsBy 46 = .ok (.putfield 163, 3) := by decide +kernel
theorem dX6_actsBy_49 : decode cX6_actsBy 49 = .ok (.iload 4, 2) := by decide +kernel
theorem dX6_actsBy_51 : decode cX6_actsBy 51 = .ok (.iconst 4, 1) := by decide +kernel
theorem dX6_actsBy_52 : decode cX6_actsBy 52 = .ok (.irem, 1) := by decide +kernel
theorem dX6_actsBy_53 : decode cX6_actsBy 53 = .ok (.istore 5, 2) := by decide +kernel
theorem dX6_actsBy_55 : decode cX6_actsBy 55 = .ok (.iload 4, 2) := by decide +kernel
theorem dX6_actsBy_57 : decode cX6_actsBy 57 = .ok (.iconst 4, 1) := by decide +kernel
theorem dX6_actsBy_58 : decode cX6_actsBy 58 = .ok (.if_icmp .ge 16, 3) := by decide +kernel
theorem dX6_actsBy_61 : decode cX6_actsBy 61 = .ok (.aload_n 0, 1) := by decide +kernel
theorem dX6_actsBy_62 : decode cX6_actsBy 62 = .ok (.aload_n 0, 1) := by decide +kernel
theorem dX6_actsBy_63 : decode cX6_actsBy 63 = .ok (.getfield 25, 3) := by decide +kernel
theorem dX6_actsBy_66 : decode cX6_actsBy 66 = .ok (.iload 5, 2) := by decide +kernel
theorem dX6_actsBy_68 : decode cX6_actsBy 68 = .ok (.invokevirtual 153, 3) := by decide +kernel
theorem dX6_actsBy_71 : decode cX6_actsBy 71 = .ok (.goto 18, 3) := by decide +kernel
theorem dX6_actsBy_74 : decode cX6_actsBy 74 = .ok (.aload_n 0, 1) := by decide +kernel
theorem dX6_actsBy_75 : decode cX6_actsBy 75 = .ok (.getfield 25, 3) := by decide +kernel
theorem dX6_actsBy_78 : decode cX6_actsBy 78 = .ok (.iload 5, 2) := by decide +kernel
theorem dX6_actsBy_80 : decode cX6_actsBy 80 = .ok (.iaload, 1) := by decide +kernel
theorem dX6_actsBy_81 : decode cX6_actsBy 81 = .ok (.ifCond .le 7, 3) := by decide +kernel
theorem dX6_actsBy_84 : decode cX6_actsBy 84 = .ok (.iconst 1, 1) := by decide +kernel
theorem dX6_actsBy_85 : decode cX6_actsBy 85 = .ok (.goto 4, 3) := by decide +kernel
theorem dX6_actsBy_88 : decode cX6_actsBy 88 = .ok (.iconst 0, 1) := by decide +kernel
theorem dX6_actsBy_89 : decode cX6_actsBy 89 = .ok (.istore 6, 2) := by decide +kernel
theorem dX6_actsBy_91 : decode cX6_actsBy 91 = .ok (.iload 6, 2) := by decide +kernel
theorem dX6_actsBy_93 : decode cX6_actsBy 93 = .ok (.ifCond .ne 5, 3) := by decide +kernel
theorem dX6_actsBy_96 : decode cX6_actsBy 96 = .ok (.iconst 0, 1) := by decide +kernel
theorem dX6_actsBy_97 : decode cX6_actsBy 97 = .ok (.ireturn, 1) := by decide +kernel
theorem dX6_actsBy_98 : decode cX6_actsBy 98 = .ok (.iload 4, 2) := by decide +kernel
theorem dX6_actsBy_100 : decode cX6_actsBy 100 = .ok (.iconst 4, 1) := by decide +kernel
theorem dX6_actsBy_101 : decode cX6_actsBy 101 = .ok (.if_icmp .lt 14, 3) := by decide +kernel
theorem dX6_actsBy_104 : decode cX6_actsBy 104 = .ok (.aload_n 0, 1) := by decide +kernel
theorem dX6_actsBy_105 : decode cX6_actsBy 105 = .ok (.aload_n 0, 1) := by decide +kernel
theorem dX6_actsBy_106 : decode cX6_actsBy 106 = .ok (.getfield 25, 3) := by decide +kernel
theorem dX6_actsBy_109 : decode cX6_actsBy 109 = .ok (.iload 5, 2) := by decide +kernel
theorem dX6_actsBy_111 : decode cX6_actsBy 111 = .ok (.invokevirtual 156, 3) := by decide +kernel
theorem dX6_actsBy_114 : decode cX6_actsBy 114 = .ok (.pop, 1) := by decide +kernel
theorem dX6_actsBy_115 : decode cX6_actsBy 115 = .ok (.iinc 3 1, 3) := by decide +kernel
theorem dX6_actsBy_118 : decode cX6_actsBy 118 = .ok (.goto (-107), 3) := by decide +kernel
theorem dX6_actsBy_121 : decode cX6_actsBy 121 = .ok (.iconst 1, 1) := by decide +kernel
theorem dX6_actsBy_122 : decode cX6_actsBy 122 = .ok (.ireturn, 1) := by decide +kernel
theorem dX6_findSoon_0 : decode cX6_findSoon 0 = .ok (.iconst 0, 1) := by decide +kernel
theorem dX6_findSoon_1 : decode cX6_findSoon 1 = .ok (.istore_n 2, 1) := by decide +kernel
theorem dX6_findSoon_2 : decode cX6_findSoon 2 = .ok (.iload_n 2, 1) := by decide +kernel
theorem dX6_findSoon_3 : decode cX6_findSoon 3 = .ok (.iconst 4, 1) := by decide +kernel
theorem dX6_findSoon_4 : decode cX6_findSoon 4 = .ok (.if_icmp .gt 55, 3) := by decide +kernel
theorem dX6_findSoon_7 : decode cX6_findSoon 7 = .ok (.iconst 0, 1) := by decide +kernel
theorem dX6_findSoon_8 : decode cX6_findSoon 8 = .ok (.istore_n 3, 1) := by decide +kernel
theorem dX6_findSoon_9 : decode cX6_findSoon 9 = .ok (.iload_n 3, 1) := by decide +kernel
theorem dX6_findSoon_10 : decode cX6_findSoon 10 = .ok (.bipush 8, 2) := by decide +kernel
theorem dX6_findSoon_12 : decode cX6_findSoon 12 = .ok (.iload_n 2, 1) := by decide +kernel
theorem dX6_findSoon_13 : decode cX6_findSoon 13 = .ok (.invokestatic 166, 3) := by decide +kernel
theorem dX6_findSoon_16 : decode cX6_findSoon 16 = .ok (.if_icmp .ge 37, 3) := by decide +kernel
theorem dX6_findSoon_19 : decode cX6_findSoon 19 = .ok (.aload_n 0, 1) := by decide +kernel
theorem dX6_findSoon_20 : decode cX6_findSoon 20 = .ok (.iload_n 2, 1) := by decide +kernel
theorem dX6_findSoon_21 : decode cX6_findSoon 21 = .ok (.iload_n 3, 1) := by decide +kernel
theorem dX6_findSoon_22 : decode cX6_findSoon 22 = .ok (.invokevirtual 170, 3) := by decide +kernel
theorem dX6_findSoon_25 : decode cX6_findSoon 25 = .ok (.ifCond .eq 22, 3) := by decide +kernel
theorem dX6_findSoon_28 : decode cX6_findSoon 28 = .ok (.iload_n 1, 1) := by decide +kernel
theorem dX6_findSoon_29 : decode cX6_findSoon 29 = .ok (.aload_n 0, 1) := by decide +kernel
theorem dX6_findSoon_30 : decode cX6_findSoon 30 = .ok (.getfield 25, 3) := by decide +kernel
theorem dX6_findSoon_33 : decode cX6_findSoon 33 = .ok (.iconst 5, 1) := by decide +kernel
theorem dX6_findSoon_34 : decode cX6_findSoon 34 = .ok (.iaload, 1) := by decide +kernel
theorem dX6_findSoon_35 : decode cX6_findSoon 35 = .ok (.iconst (-1), 1) := by decide +kernel
theorem dX6_findSoon_36 : decode cX6_findSoon 36 = .ok (.ixor, 1) := by decide +kernel
theorem dX6_findSoon_37 : decode cX6_findSoon 37 = .ok (.iand, 1) := by decide +kernel
theorem dX6_findSoon_38 : decode cX6_findSoon 38 = .ok (.ifCond .ne 9, 3) := by decide +kernel
theorem dX6_findSoon_41 : decode cX6_findSoon 41 = .ok (.aload_n 0, 1) := by decide +kernel
theorem dX6_findSoon_42 : decode cX6_findSoon 42 = .ok (.iload_n 2, 1) := by decide +kernel
theorem dX6_findSoon_43 : decode cX6_findSoon 43 = .ok (.putfield 173, 3) := by decide +kernel
theorem dX6_findSoon_46 : decode cX6_findSoon 46 = .ok (.return_, 1) := by decide +kernel
theorem dX6_findSoon_47 : decode cX6_findSoon 47 = .ok (.iinc 3 1, 3) := by decide +kernel
theorem dX6_findSoon_50 : decode cX6_findSoon 50 = .ok (.goto (-41), 3) := by decide +kernel
theorem dX6_findSoon_53 : decode cX6_findSoon 53 = .ok (.iinc 2 1, 3) := by decide +kernel
theorem dX6_findSoon_56 : decode cX6_findSoon 56 = .ok (.goto (-54), 3) := by decide +kernel
theorem dX6_findSoon_59 : decode cX6_findSoon 59 = .ok (.aload_n 0, 1) := by decide +kernel
theorem dX6_findSoon_60 : decode cX6_findSoon 60 = .ok (.bipush (-9), 2) := by decide +kernel
theorem dX6_findSoon_62 : decode cX6_findSoon 62 = .ok (.putfield 173, 3) := by decide +kernel
theorem dX6_findSoon_65 : decode cX6_findSoon 65 = .ok (.aload_n 0, 1) := by decide +kernel
theorem dX6_findSoon_66 : decode cX6_findSoon 66 = .ok (.bipush (-9), 2) := by decide +kernel
theorem dX6_findSoon_68 : decode cX6_findSoon 68 = .ok (.putfield 163, 3) := by decide +kernel
theorem dX6_findSoon_71 : decode cX6_findSoon 71 = .ok (.return_, 1) := by decide +kernel
theorem dX6_soon_0 : decode cX6_soon 0 = .ok (.aload_n 0, 1) := by decide +kernel
theorem dX6_soon_1 : decode cX6_soon 1 = .ok (.iconst 0, 1) := by decide +kernel
theorem dX6_soon_2 : decode cX6_soon 2 = .ok (.putfield 50, 3) := by decide +kernel
theorem dX6_soon_5 : decode cX6_soon 5 = .ok (.iload_n 1, 1) := by decide +kernel
theorem dX6_soon_6 : decode cX6_soon 6 = .ok (.i2l, 1) := by decide +kernel
theorem dX6_soon_7 : decode cX6_soon 7 = .ok (.lconst 0, 1) := by decide +kernel
theorem dX6_soon_8 : decode cX6_soon 8 = .ok (.iconst 1, 1) := by decide +kernel
theorem dX6_soon_9 : decode cX6_soon 9 = .ok (.aload_n 0, 1) := by decide +kernel
theorem dX6_soon_10 : decode cX6_soon 10 = .ok (.getfield 60, 3) := by decide +kernel
theorem dX6_soon_13 : decode cX6_soon 13 = .ok (.ishl, 1) := by decide +kernel
theorem dX6_soon_14 : decode cX6_soon 14 = .ok (.iconst 1, 1) := by decide +kernel
theorem dX6_soon_15 : decode cX6_soon 15 = .ok (.isub, 1) := by decide +kernel
theorem dX6_soon_16 : decode cX6_soon 16 = .ok (.i2l, 1) := by decide +kernel
theorem dX6_soon_17 : decode cX6_soon 17 = .ok (.invokestatic 56, 3) := by decide +kernel
theorem dX6_soon_20 : decode cX6_soon 20 = .ok (.ifCond .eq 13, 3) := by decide +kernel
theorem dX6_soon_23 : decode cX6_soon 23 = .ok (.iload_n 2, 1) := by decide +kernel
theorem dX6_soon_24 : decode cX6_soon 24 = .ok (.i2l, 1) := by decide +kernel
theorem dX6_soon_25 : decode cX6_soon 25 = .ok (.lconst 0, 1) := by decide +kernel
theorem dX6_soon_26 : decode cX6_soon 26 = .ok (.lconst 1, 1) := by decide +kernel
theorem dX6_soon_27 : decode cX6_soon 27 = .ok (.invokestatic 56, 3) := by decide +kernel
theorem dX6_soon_30 : decode cX6_soon 30 = .ok (.ifCond .ne 6, 3) := by decide +kernel
theorem dX6_soon_33 : decode cX6_soon 33 = .ok (.bipush (-2), 2) := by decide +kernel
theorem dX6_soon_35 : decode cX6_soon 35 = .ok (.ireturn, 1) := by decide +kernel
theorem dX6_soon_36 : decode cX6_soon 36 = .ok (.aload_n 0, 1) := by decide +kernel
theorem dX6_soon_37 : decode cX6_soon 37 = .ok (.iload_n 1, 1) := by decide +kernel
theorem dX6_soon_38 : decode cX6_soon 38 = .ok (.invokevirtual 176, 3) := by decide +kernel
theorem dX6_soon_41 : decode cX6_soon 41 = .ok (.iload_n 2, 1) := by decide +kernel
theorem dX6_soon_42 : decode cX6_soon 42 = .ok (.ifCond .ne 10, 3) := by decide +kernel
theorem dX6_soon_45 : decode cX6_soon 45 = .ok (.aload_n 0, 1) := by decide +kernel
theorem dX6_soon_46 : decode cX6_soon 46 = .ok (.getfield 173, 3) := by decide +kernel
theorem dX6_soon_49 : decode cX6_soon 49 = .ok (.goto 7, 3) := by decide +kernel
theorem dX6_soon_52 : decode cX6_soon 52 = .ok (.aload_n 0, 1) := by decide +kernel
theorem dX6_soon_53 : decode cX6_soon 53 = .ok (.getfield 163, 3) := by decide +kernel
theorem dX6_soon_56 : decode cX6_soon 56 = .ok (.ireturn, 1) := by decide +kernel
theorem dX6_longPower_0 : decode cX6_longPower 0 = .ok (.lconst 1, 1) := by decide +kernel
theorem dX6_longPower_1 : decode cX6_longPower 1 = .ok (.lstore_n 3, 1) := by decide +kernel
theorem dX6_longPower_2 : decode cX6_longPower 2 = .ok (.iconst 0, 1) := by decide +kernel
theorem dX6_longPower_3 : decode cX6_longPower 3 = .ok (.istore 5, 2) := by decide +kernel
theorem dX6_longPower_5 : decode cX6_longPower 5 = .ok (.iload 5, 2) := by decide +kernel
theorem dX6_longPower_7 : decode cX6_longPower 7 = .ok (.iload_n 2, 1) := by decide +kernel
theorem dX6_longPower_8 : decode cX6_longPower 8 = .ok (.if_icmp .ge 13, 3) := by decide +kernel
theorem dX6_longPower_11 : decode cX6_longPower 11 = .ok (.lload_n 3, 1) := by decide +kernel
theorem dX6_longPower_12 : decode cX6_longPower 12 = .ok (.lload_n 0, 1) := by decide +kernel
theorem dX6_longPower_13 : decode cX6_longPower 13 = .ok (.lmul, 1) := by decide +kernel
theorem dX6_longPower_14 : decode cX6_longPower 14 = .ok (.lstore_n 3, 1) := by decide +kernel
theorem dX6_longPower_15 : decode cX6_longPower 15 = .ok (.iinc 5 1, 3) := by decide +kernel
theorem dX6_longPower_18 : decode cX6_longPower 18 = .ok (.goto (-13), 3) := by decide +kernel
theorem dX6_longPower_21 : decode cX6_longPower 21 = .ok (.lload_n 3, 1) := by decide +kernel
theorem dX6_longPower_22 : decode cX6_longPower 22 = .ok (.lreturn, 1) := by decide +kernel
theorem dX6_strikes_0 : decode cX6_strikes 0 = .ok (.iload_n 1, 1) := by decide +kernel
theorem dX6_strikes_1 : decode cX6_strikes 1 = .ok (.invokestatic 101, 3) := by decide +kernel
theorem dX6_strikes_4 : decode cX6_strikes 4 = .ok (.ifCond .ne 16, 3) := by decide +kernel
theorem dX6_strikes_7 : decode cX6_strikes 7 = .ok (.aload_n 0, 1) := by decide +kernel
theorem dX6_strikes_8 : decode cX6_strikes 8 = .ok (.getfield 25, 3) := by decide +kernel
theorem dX6_strikes_11 : decode cX6_strikes 11 = .ok (.iload_n 1, 1) := by decide +kernel
theorem dX6_strikes_12 : decode cX6_strikes 12 = .ok (.iaload, 1) := by decide +kernel
theorem dX6_strikes_13 : decode cX6_strikes 13 = .ok (.ifCond .le 7, 3) := by decide +kernel
theorem dX6_strikes_16 : decode cX6_strikes 16 = .ok (.iconst 1, 1) := by decide +kernel
theorem dX6_strikes_17 : decode cX6_strikes 17 = .ok (.goto 4, 3) := by decide +kernel
theorem dX6_strikes_20 : decode cX6_strikes 20 = .ok (.iconst 0, 1) := by decide +kernel
theorem dX6_strikes_21 : decode cX6_strikes 21 = .ok (.istore_n 2, 1) := by decide +kernel
theorem dX6_strikes_22 : decode cX6_strikes 22 = .ok (.iload_n 2, 1) := by decide +kernel
theorem dX6_strikes_23 : decode cX6_strikes 23 = .ok (.ifCond .eq 13, 3) := by decide +kernel
theorem dX6_strikes_26 : decode cX6_strikes 26 = .ok (.aload_n 0, 1) := by decide +kernel
theorem dX6_strikes_27 : decode cX6_strikes 27 = .ok (.aload_n 0, 1) := by decide +kernel
theorem dX6_strikes_28 : decode cX6_strikes 28 = .ok (.getfield 25, 3) := by decide +kernel
theorem dX6_strikes_31 : decode cX6_strikes 31 = .ok (.iload_n 1, 1) := by decide +kernel
theorem dX6_strikes_32 : decode cX6_strikes 32 = .ok (.invokevirtual 156, 3) := by decide +kernel
theorem dX6_strikes_35 : decode cX6_strikes 35 = .ok (.pop, 1) := by decide +kernel
theorem dX6_strikes_36 : decode cX6_strikes 36 = .ok (.iload_n 2, 1) := by decide +kernel
theorem dX6_strikes_37 : decode cX6_strikes 37 = .ok (.ireturn, 1) := by decide +kernel
theorem dX6_does_0 : decode cX6_does 0 = .ok (.iload_n 1, 1) := by decide +kernel
theorem dX6_does_1 : decode cX6_does 1 = .ok (.bipush 100, 2) := by decide +kernel
theorem dX6_does_3 : decode cX6_does 3 = .ok (.idiv, 1) := by decide +kernel
theorem dX6_does_4 : decode cX6_does 4 = .ok (.istore_n 2, 1) := by decide +kernel
theorem dX6_does_5 : decode cX6_does 5 = .ok (.iload_n 1, 1) := by decide +kernel
theorem dX6_does_6 : decode cX6_does 6 = .ok (.bipush 10, 2) := by decide +kernel
theorem dX6_does_8 : decode cX6_does 8 = .ok (.idiv, 1) := by decide +kernel
theorem dX6_does_9 : decode cX6_does 9 = .ok (.bipush 10, 2) := by decide +kernel
theorem dX6_does_11 : decode cX6_does 11 = .ok (.irem, 1) := by decide +kernel
theorem dX6_does_12 : decode cX6_does 12 = .ok (.istore_n 3, 1) := by decide +kernel
theorem dX6_does_13 : decode cX6_does 13 = .ok (.iload_n 1, 1) := by decide +kernel
theorem dX6_does_14 : decode cX6_does 14 = .ok (.bipush 10, 2) := by decide +kernel
theorem dX6_does_16 : decode cX6_does 16 = .ok (.irem, 1) := by decide +kernel
theorem dX6_does_17 : decode cX6_does 17 = .ok (.istore 4, 2) := by decide +kernel
theorem dX6_does_19 : decode cX6_does 19 = .ok (.iload_n 1, 1) := by decide +kernel
theorem dX6_does_20 : decode cX6_does 20 = .ok (.sipush 300, 3) := by decide +kernel
theorem dX6_does_23 : decode cX6_does 23 = .ok (.if_icmp .ne 14, 3) := by decide +kernel
theorem dX6_does_26 : decode cX6_does 26 = .ok (.aload_n 0, 1) := by decide +kernel
theorem dX6_does_27 : decode cX6_does 27 = .ok (.aload_n 0, 1) := by decide +kernel
theorem dX6_does_28 : decode cX6_does 28 = .ok (.getfield 25, 3) := by decide +kernel
theorem dX6_does_31 : decode cX6_does 31 = .ok (.invokevirtual 160, 3) := by decide +kernel
theorem dX6_does_34 : decode cX6_does 34 = .ok (.pop, 1) := by decide +kernel
theorem dX6_does_35 : decode cX6_does 35 = .ok (.iconst 1, 1) := by decide +kernel
theorem dX6_does_36 : decode cX6_does 36 = .ok (.ireturn, 1) := by decide +kernel
theorem dX6_does_37 : decode cX6_does 37 = .ok (.iload_n 2, 1) := by decide +kernel
theorem dX6_does_38 : decode cX6_does 38 = .ok (.iconst 5, 1) := by decide +kernel
theorem dX6_does_39 : decode cX6_does 39 = .ok (.if_icmp .ne 27, 3) := by decide +kernel
theorem dX6_does_42 : decode cX6_does 42 = .ok (.iload_n 3, 1) := by decide +kernel
theorem dX6_does_43 : decode cX6_does 43 = .ok (.invokestatic 101, 3) := by decide +kernel
theorem dX6_does_46 : decode cX6_does 46 = .ok (.ifCond .ne 18, 3) := by decide +kernel
theorem dX6_does_49 : decode cX6_does 49 = .ok (.aload_n 0, 1) := by decide +kernel
theorem dX6_does_50 : decode cX6_does 50 = .ok (.getfield 25, 3) := by decide +kernel
theorem dX6_does_53 : decode cX6_does 53 = .ok (.iload_n 3, 1) := by decide +kernel
theorem dX6_does_54 : decode cX6_does 54 = .ok (.iaload, 1) := by decide +kernel
theorem dX6_does_55 : decode cX6_does 55 = .ok (.iload 4, 2) := by decide +kernel
theorem dX6_does_57 : decode cX6_does 57 = .ok (.if_icmp .lt 7, 3) := by decide +kernel
theorem dX6_does_60 : decode cX6_does 60 = .ok (.iconst 1, 1) := by decide +kernel
theorem dX6_does_61 : decode cX6_does 61 = .ok (.goto 4, 3) := by decide +kernel
theorem dX6_does_64 : decode cX6_does 64 = .ok (.iconst 0, 1) := by decide +kernel
theorem dX6_does_65 : decode cX6_does 65 = .ok (.ireturn, 1) := by decide +kernel
theorem dX6_does_66 : decode cX6_does 66 = .ok (.iload_n 3, 1) := by decide +kernel
theorem dX6_does_67 : decode cX6_does 67 = .ok (.ifCond .eq 5, 3) := by decide +kernel
theorem dX6_does_70 : decode cX6_does 70 = .ok (.iconst 0, 1) := by decide +kernel
theorem dX6_does_71 : decode cX6_does 71 = .ok (.ireturn, 1) := by decide +kernel
theorem dX6_does_72 : decode cX6_does 72 = .ok (.iload_n 2, 1) := by decide +kernel
theorem dX6_does_73 : decode cX6_does 73 = .ok (.iconst 1, 1) := by decide +kernel
theorem dX6_does_74 : decode cX6_does 74 = .ok (.if_icmp .ne 30, 3) := by decide +kernel
theorem dX6_does_77 : decode cX6_does 77 = .ok (.iload 4, 2) := by decide +kernel
theorem dX6_does_79 : decode cX6_does 79 = .ok (.invokestatic 101, 3) := by decide +kernel
theorem dX6_does_82 : decode cX6_does 82 = .ok (.ifCond .ne 20, 3) := by decide +kernel
theorem dX6_does_85 : decode cX6_does 85 = .ok (.aload_n 0, 1) := by decide +kernel
theorem dX6_does_86 : decode cX6_does 86 = .ok (.aload_n 0, 1) := by decide +kernel
theorem dX6_does_87 : decode cX6_does 87 = .ok (.getfield 25, 3) := by decide +kernel
theorem dX6_does_90 : decode cX6_does 90 = .ok (.iload 4, 2) := by decide +kernel
theorem dX6_does_92 : decode cX6_does 92 = .ok (.invokevirtual 153, 3) := by decide +kernel
theorem dX6_does_95 : decode cX6_does 95 = .ok (.ifCond .eq 7, 3) := by decide +kernel
theorem dX6_does_98 : decode cX6_does 98 = .ok (.iconst 1, 1) := by decide +kernel
theorem dX6_does_99 : decode cX6_does 99 = .ok (.goto 4, 3) := by decide +kernel
theorem dX6_does_102 : decode cX6_does 102 = .ok (.iconst 0, 1) := by decide +kernel
theorem dX6_does_103 : decode cX6_does 103 = .ok (.ireturn, 1) := by decide +kernel
theorem dX6_does_104 : decode cX6_does 104 = .ok (.iload_n 2, 1) := by decide +kernel
theorem dX6_does_105 : decode cX6_does 105 = .ok (.iconst 2, 1) := by decide +kernel
theorem dX6_does_106 : decode cX6_does 106 = .ok (.if_icmp .ne 12, 3) := by decide +kernel
theorem dX6_does_109 : decode cX6_does 109 = .ok (.aload_n 0, 1) := by decide +kernel
theorem dX6_does_110 : decode cX6_does 110 = .ok (.iload 4, 2) := by decide +kernel
theorem dX6_does_112 : decode cX6_does 112 = .ok (.invokevirtual 180, 3) := by decide +kernel
theorem dX6_does_115 : decode cX6_does 115 = .ok (.ifCond .ne 31, 3) := by decide +kernel
theorem dX6_does_118 : decode cX6_does 118 = .ok (.iload_n 2, 1) := by decide +kernel
theorem dX6_does_119 : decode cX6_does 119 = .ok (.iconst 4, 1) := by decide +kernel
theorem dX6_does_120 : decode cX6_does 120 = .ok (.if_icmp .ne 30, 3) := by decide +kernel
theorem dX6_does_123 : decode cX6_does 123 = .ok (.aload_n 0, 1) := by decide +kernel
theorem dX6_does_124 : decode cX6_does 124 = .ok (.iload 4, 2) := by decide +kernel
theorem dX6_does_126 : decode cX6_does 126 = .ok (.invokevirtual 147, 3) := by decide +kernel
theorem dX6_does_129 : decode cX6_does 129 = .ok (.ifCond .ne 21, 3) := by decide +kernel
theorem dX6_does_132 : decode cX6_does 132 = .ok (.aload_n 0, 1) := by decide +kernel
theorem dX6_does_133 : decode cX6_does 133 = .ok (.getfield 25, 3) := by decide +kernel
theorem dX6_does_136 : decode cX6_does 136 = .ok (.iconst 5, 1) := by decide +kernel
theorem dX6_does_137 : decode cX6_does 137 = .ok (.iaload, 1) := by decide +kernel
theorem dX6_does_138 : decode cX6_does 138 = .ok (.iload 4, 2) := by decide +kernel
theorem dX6_does_140 : decode cX6_does 140 = .ok (.invokestatic 79, 3) := by decide +kernel
theorem dX6_does_143 : decode cX6_does 143 = .ok (.ifCond .eq 7, 3) := by decide +kernel
theorem dX6_does_146 : decode cX6_does 146 = .ok (.iconst 1, 1) := by decide +kernel
theorem dX6_does_147 : decode cX6_does 147 = .ok (.goto 4, 3) := by decide +kernel
theorem dX6_does_150 : decode cX6_does 150 = .ok (.iconst 0, 1) := by decide +kernel
theorem dX6_does_151 : decode cX6_does 151 = .ok (.ireturn, 1) := by decide +kernel
theorem dX6_judge_0 : decode cX6_judge 0 = .ok (.aload_n 0, 1) := by decide +kernel
theorem dX6_judge_1 : decode cX6_judge 1 = .ok (.iconst 0, 1) := by decide +kernel
theorem dX6_judge_2 : decode cX6_judge 2 = .ok (.putfield 50, 3) := by decide +kernel
theorem dX6_judge_5 : decode cX6_judge 5 = .ok (.iload_n 1, 1) := by decide +kernel
theorem dX6_judge_6 : decode cX6_judge 6 = .ok (.i2l, 1) := by decide +kernel
theorem dX6_judge_7 : decode cX6_judge 7 = .ok (.lconst 1, 1) := by decide +kernel
theorem dX6_judge_8 : decode cX6_judge 8 = .ok (.ldc2_w 183, 3) := by decide +kernel
theorem dX6_judge_11 : decode cX6_judge 11 = .ok (.invokestatic 56, 3) := by decide +kernel
theorem dX6_judge_14 : decode cX6_judge 14 = .ok (.ifCond .eq 20, 3) := by decide +kernel
theorem dX6_judge_17 : decode cX6_judge 17 = .ok (.lload_n 2, 1) := by decide +kernel
theorem dX6_judge_18 : decode cX6_judge 18 = .ok (.lconst 0, 1) := by decide +kernel
theorem dX6_judge_19 : decode cX6_judge 19 = .ok (.ldc2_w 185, 3) := by decide +kernel
theorem dX6_judge_22 : decode cX6_judge 22 = .ok (.iload_n 1, 1) := by decide +kernel
theorem dX6_judge_23 : decode cX6_judge 23 = .ok (.invokestatic 187, 3) := by decide +kernel
theorem dX6_judge_26 : decode cX6_judge 26 = .ok (.lconst 1, 1) := by decide +kernel
theorem dX6_judge_27 : decode cX6_judge 27 = .ok (.lsub, 1) := by decide +kernel
theorem dX6_judge_28 : decode cX6_judge 28 = .ok (.invokestatic 56, 3) := by decide +kernel
theorem dX6_judge_31 : decode cX6_judge 31 = .ok (.ifCond .ne 6, 3) := by decide +kernel
theorem dX6_judge_34 : decode cX6_judge 34 = .ok (.bipush (-2), 2) := by decide +kernel
theorem dX6_judge_36 : decode cX6_judge 36 = .ok (.ireturn, 1) := by decide +kernel
theorem dX6_judge_37 : decode cX6_judge 37 = .ok (.aload_n 0, 1) := by decide +kernel
theorem dX6_judge_38 : decode cX6_judge 38 = .ok (.invokevirtual 132, 3) := by decide +kernel
theorem dX6_judge_41 : decode cX6_judge 41 = .ok (.iconst 0, 1) := by decide +kernel
theorem dX6_judge_42 : decode cX6_judge 42 = .ok (.istore 4, 2) := by decide +kernel
theorem dX6_judge_44 : decode cX6_judge 44 = .ok (.iload 4, 2) := by decide +kernel
theorem dX6_judge_46 : decode cX6_judge 46 = .ok (.iload_n 1, 1) := by decide +kernel
theorem dX6_judge_47 : decode cX6_judge 47 = .ok (.if_icmp .ge 38, 3) := by decide +kernel
theorem dX6_judge_50 : decode cX6_judge 50 = .ok (.aload_n 0, 1) := by decide +kernel
theorem dX6_judge_51 : decode cX6_judge 51 = .ok (.lload_n 2, 1) := by decide +kernel
theorem dX6_judge_52 : decode cX6_judge 52 = .ok (.ldc2_w 185, 3) := by decide +kernel
theorem dX6_judge_55 : decode cX6_judge 55 = .ok (.iload_n 1, 1) := by decide +kernel
theorem dX6_judge_56 : decode cX6_judge 56 = .ok (.iconst 1, 1) := by decide +kernel
theorem dX6_judge_57 : decode cX6_judge 57 = .ok (.isub, 1) := by decide +kernel
theorem dX6_judge_58 : decode cX6_judge 58 = .ok (.iload 4, 2) := by decide +kernel
theorem dX6_judge_60 : decode cX6_judge 60 = .ok (.isub, 1) := by decide +kernel
theorem dX6_judge_61 : decode cX6_judge 61 = .ok (.invokestatic 187, 3) := by decide +kernel
theorem dX6_judge_64 : decode cX6_judge 64 = .ok (.ldiv, 1) := by decide +kernel
theorem dX6_judge_65 : decode cX6_judge 65 = .ok (.ldc2_w 185, 3) := by decide +kernel
theorem dX6_judge_68 : decode cX6_judge 68 = .ok (.lrem, 1) := by decide +kernel
theorem dX6_judge_69 : decode cX6_judge 69 = .ok (.l2i, 1) := by decide +kernel
theorem dX6_judge_70 : decode cX6_judge 70 = .ok (.invokevirtual 191, 3) := by decide +kernel
theorem dX6_judge_73 : decode cX6_judge 73 = .ok (.ifCond .ne 6, 3) := by decide +kernel
theorem dX6_judge_76 : decode cX6_judge 76 = .ok (.iload 4, 2) := by decide +kernel
theorem dX6_judge_78 : decode cX6_judge 78 = .ok (.ireturn, 1) := by decide +kernel
theorem dX6_judge_79 : decode cX6_judge 79 = .ok (.iinc 4 1, 3) := by decide +kernel
theorem dX6_judge_82 : decode cX6_judge 82 = .ok (.goto (-38), 3) := by decide +kernel
theorem dX6_judge_85 : decode cX6_judge 85 = .ok (.bipush (-9), 2) := by decide +kernel
theorem dX6_judge_87 : decode cX6_judge 87 = .ok (.ireturn, 1) := by decide +kernel
theorem dX6_ways_0 : decode cX6_ways 0 = .ok (.iconst 1, 1) := by decide +kernel
theorem dX6_ways_1 : decode cX6_ways 1 = .ok (.istore_n 1, 1) := by decide +kernel
theorem dX6_ways_2 : decode cX6_ways 2 = .ok (.iconst 2, 1) := by decide +kernel
theorem dX6_ways_3 : decode cX6_ways 3 = .ok (.istore_n 2, 1) := by decide +kernel
theorem dX6_ways_4 : decode cX6_ways 4 = .ok (.iload_n 2, 1) := by decide +kernel
theorem dX6_ways_5 : decode cX6_ways 5 = .ok (.iload_n 0, 1) := by decide +kernel
theorem dX6_ways_6 : decode cX6_ways 6 = .ok (.if_icmp .gt 13, 3) := by decide +kernel
theorem dX6_ways_9 : decode cX6_ways 9 = .ok (.iload_n 1, 1) := by decide +kernel
theorem dX6_ways_10 : decode cX6_ways 10 = .ok (.iload_n 2, 1) := by decide +kernel
theorem dX6_ways_11 : decode cX6_ways 11 = .ok (.imul, 1) := by decide +kernel
theorem dX6_ways_12 : decode cX6_ways 12 = .ok (.istore_n 1, 1) := by decide +kernel
theorem dX6_ways_13 : decode cX6_ways 13 = .ok (.iinc 2 1, 3) := by decide +kernel
theorem dX6_ways_16 : decode cX6_ways 16 = .ok (.goto (-12), 3) := by decide +kernel
theorem dX6_ways_19 : decode cX6_ways 19 = .ok (.iload_n 1, 1) := by decide +kernel
theorem dX6_ways_20 : decode cX6_ways 20 = .ok (.ireturn, 1) := by decide +kernel
theorem dX6_divisor_0 : decode cX6_divisor 0 = .ok (.iload_n 0, 1) := by decide +kernel
theorem dX6_divisor_1 : decode cX6_divisor 1 = .ok (.ifCond .ge 8, 3) := by decide +kernel
theorem dX6_divisor_4 : decode cX6_divisor 4 = .ok (.iload_n 0, 1) := by decide +kernel
theorem dX6_divisor_5 : decode cX6_divisor 5 = .ok (.ineg, 1) := by decide +kernel
theorem dX6_divisor_6 : decode cX6_divisor 6 = .ok (.goto 4, 3) := by decide +kernel
theorem dX6_divisor_9 : decode cX6_divisor 9 = .ok (.iload_n 0, 1) := by decide +kernel
theorem dX6_divisor_10 : decode cX6_divisor 10 = .ok (.istore_n 2, 1) := by decide +kernel
theorem dX6_divisor_11 : decode cX6_divisor 11 = .ok (.iload_n 1, 1) := by decide +kernel
theorem dX6_divisor_12 : decode cX6_divisor 12 = .ok (.istore_n 3, 1) := by decide +kernel
theorem dX6_divisor_13 : decode cX6_divisor 13 = .ok (.iload_n 3, 1) := by decide +kernel
theorem dX6_divisor_14 : decode cX6_divisor 14 = .ok (.ifCond .eq 16, 3) := by decide +kernel
theorem dX6_divisor_17 : decode cX6_divisor 17 = .ok (.iload_n 2, 1) := by decide +kernel
theorem dX6_divisor_18 : decode cX6_divisor 18 = .ok (.iload_n 3, 1) := by decide +kernel
theorem dX6_divisor_19 : decode cX6_divisor 19 = .ok (.irem, 1) := by decide +kernel
theorem dX6_divisor_20 : decode cX6_divisor 20 = .ok (.istore 4, 2) := by decide +kernel
theorem dX6_divisor_22 : decode cX6_divisor 22 = .ok (.iload_n 3, 1) := by decide +kernel
theorem dX6_divisor_23 : decode cX6_divisor 23 = .ok (.istore_n 2, 1) := by decide +kernel
theorem dX6_divisor_24 : decode cX6_divisor 24 = .ok (.iload 4, 2) := by decide +kernel
theorem dX6_divisor_26 : decode cX6_divisor 26 = .ok (.istore_n 3, 1) := by decide +kernel
theorem dX6_divisor_27 : decode cX6_divisor 27 = .ok (.goto (-14), 3) := by decide +kernel
theorem dX6_divisor_30 : decode cX6_divisor 30 = .ok (.iload_n 2, 1) := by decide +kernel
theorem dX6_divisor_31 : decode cX6_divisor 31 = .ok (.ireturn, 1) := by decide +kernel
theorem dX6_fraction_0 : decode cX6_fraction 0 = .ok (.iload_n 0, 1) := by decide +kernel
theorem dX6_fraction_1 : decode cX6_fraction 1 = .ok (.iload_n 1, 1) := by decide +kernel
theorem dX6_fraction_2 : decode cX6_fraction 2 = .ok (.invokestatic 194, 3) := by decide +kernel
theorem dX6_fraction_5 : decode cX6_fraction 5 = .ok (.istore_n 3, 1) := by decide +kernel
theorem dX6_fraction_6 : decode cX6_fraction 6 = .ok (.iload_n 2, 1) := by decide +kernel
theorem dX6_fraction_7 : decode cX6_fraction 7 = .ok (.ifCond .eq 9, 3) := by decide +kernel
theorem dX6_fraction_10 : decode cX6_fraction 10 = .ok (.iload_n 0, 1) := by decide +kernel
theorem dX6_fraction_11 : decode cX6_fraction 11 = .ok (.iload_n 3, 1) := by decide +kernel
theorem dX6_fraction_12 : decode cX6_fraction 12 = .ok (.idiv, 1) := by decide +kernel
theorem dX6_fraction_13 : decode cX6_fraction 13 = .ok (.goto 6, 3) := by decide +kernel
theorem dX6_fraction_16 : decode cX6_fraction 16 = .ok (.iload_n 1, 1) := by decide +kernel
theorem dX6_fraction_17 : decode cX6_fraction 17 = .ok (.iload_n 3, 1) := by decide +kernel
theorem dX6_fraction_18 : decode cX6_fraction 18 = .ok (.idiv, 1) := by decide +kernel
theorem dX6_fraction_19 : decode cX6_fraction 19 = .ok (.ireturn, 1) := by decide +kernel
theorem dX6_share_0 : decode cX6_share 0 = .ok (.aload_n 0, 1) := by decide +kernel
theorem dX6_share_1 : decode cX6_share 1 = .ok (.iconst 0, 1) := by decide +kernel
theorem dX6_share_2 : decode cX6_share 2 = .ok (.putfield 50, 3) := by decide +kernel
theorem dX6_share_5 : decode cX6_share 5 = .ok (.aload_n 0, 1) := by decide +kernel
theorem dX6_share_6 : decode cX6_share 6 = .ok (.iload_n 1, 1) := by decide +kernel
theorem dX6_share_7 : decode cX6_share 7 = .ok (.invokevirtual 147, 3) := by decide +kernel
theorem dX6_share_10 : decode cX6_share 10 = .ok (.ifCond .eq 5, 3) := by decide +kernel
theorem dX6_share_13 : decode cX6_share 13 = .ok (.iconst (-1), 1) := by decide +kernel
theorem dX6_share_14 : decode cX6_share 14 = .ok (.ireturn, 1) := by decide +kernel
theorem dX6_share_15 : decode cX6_share 15 = .ok (.iconst 0, 1) := by decide +kernel
theorem dX6_share_16 : decode cX6_share 16 = .ok (.istore_n 3, 1) := by decide +kernel
theorem dX6_share_17 : decode cX6_share 17 = .ok (.iload_n 3, 1) := by decide +kernel
theorem dX6_share_18 : decode cX6_share 18 = .ok (.iconst 1, 1) := by decide +kernel
theorem dX6_share_19 : decode cX6_share 19 = .ok (.aload_n 0, 1) := by decide +kernel
theorem dX6_share_20 : decode cX6_share 20 = .ok (.getfield 60, 3) := by decide +kernel
theorem dX6_share_23 : decode cX6_share 23 = .ok (.ishl, 1) := by decide +kernel
theorem dX6_share_24 : decode cX6_share 24 = .ok (.if_icmp .ge 60, 3) := by decide +kernel
theorem dX6_share_27 : decode cX6_share 27 = .ok (.aload_n 0, 1) := by decide +kernel
theorem dX6_share_28 : decode cX6_share 28 = .ok (.invokevirtual 132, 3) := by decide +kernel
theorem dX6_share_31 : decode cX6_share 31 = .ok (.iconst 0, 1) := by decide +kernel
theorem dX6_share_32 : decode cX6_share 32 = .ok (.istore 4, 2) := by decide +kernel
theorem dX6_share_34 : decode cX6_share 34 = .ok (.iload 4, 2) := by decide +kernel
theorem dX6_share_36 : decode cX6_share 36 = .ok (.iconst 4, 1) := by decide +kernel
theorem dX6_share_37 : decode cX6_share 37 = .ok (.if_icmp .ge 17, 3) := by decide +kernel
theorem dX6_share_40 : decode cX6_share 40 = .ok (.aload_n 0, 1) := by decide +kernel
theorem dX6_share_41 : decode cX6_share 41 = .ok (.getfield 25, 3) := by decide +kernel
theorem dX6_share_44 : decode cX6_share 44 = .ok (.iload 4, 2) := by decide +kernel
theorem dX6_share_46 : decode cX6_share 46 = .ok (.iconst 0, 1) := by decide +kernel
theorem dX6_share_47 : decode cX6_share 47 = .ok (.iastore, 1) := by decide +kernel
theorem dX6_share_48 : decode cX6_share 48 = .ok (.iinc 4 1, 3) := by decide +kernel
theorem dX6_share_51 : decode cX6_share 51 = .ok (.goto (-17), 3) := by decide +kernel
theorem dX6_share_54 : decode cX6_share 54 = .ok (.aload_n 0, 1) := by decide +kernel
theorem dX6_share_55 : decode cX6_share 55 = .ok (.getfield 25, 3) := by decide +kernel
theorem dX6_share_58 : decode cX6_share 58 = .ok (.iconst 5, 1) := by decide +kernel
theorem dX6_share_59 : decode cX6_share 59 = .ok (.iload_n 3, 1) := by decide +kernel
theorem dX6_share_60 : decode cX6_share 60 = .ok (.iastore, 1) := by decide +kernel
theorem dX6_share_61 : decode cX6_share 61 = .ok (.aload_n 0, 1) := by decide +kernel
theorem dX6_share_62 : decode cX6_share 62 = .ok (.getfield 47, 3) := by decide +kernel
theorem dX6_share_65 : decode cX6_share 65 = .ok (.iload_n 3, 1) := by decide +kernel
theorem dX6_share_66 : decode cX6_share 66 = .ok (.aload_n 0, 1) := by decide +kernel
theorem dX6_share_67 : decode cX6_share 67 = .ok (.aload_n 0, 1) := by decide +kernel
theorem dX6_share_68 : decode cX6_share 68 = .ok (.getfield 25, 3) := by decide +kernel
theorem dX6_share_71 : decode cX6_share 71 = .ok (.invokevirtual 125, 3) := by decide +kernel
theorem dX6_share_74 : decode cX6_share 74 = .ok (.invokestatic 129, 3) := by decide +kernel
theorem dX6_share_77 : decode cX6_share 77 = .ok (.iastore, 1) := by decide +kernel
theorem dX6_share_78 : decode cX6_share 78 = .ok (.iinc 3 1, 3) := by decide +kernel
theorem dX6_share_81 : decode cX6_share 81 = .ok (.goto (-64), 3) := by decide +kernel
theorem dX6_share_84 : decode cX6_share 84 = .ok (.iconst 0, 1) := by decide +kernel
theorem dX6_share_85 : decode cX6_share 85 = .ok (.istore_n 3, 1) := by decide +kernel
theorem dX6_share_86 : decode cX6_share 86 = .ok (.iconst 0, 1) := by decide +kernel
theorem dX6_share_87 : decode cX6_share 87 = .ok (.istore 4, 2) := by decide +kernel
theorem dX6_share_89 : decode cX6_share 89 = .ok (.iload 4, 2) := by decide +kernel
theorem dX6_share_91 : decode cX6_share 91 = .ok (.iconst 1, 1) := by decide +kernel
theorem dX6_share_92 : decode cX6_share 92 = .ok (.aload_n 0, 1) := by decide +kernel
theorem dX6_share_93 : decode cX6_share 93 = .ok (.getfield 60, 3) := by decide +kernel
theorem dX6_share_96 : decode cX6_share 96 = .ok (.ishl, 1) := by decide +kernel
theorem dX6_share_97 : decode cX6_share 97 = .ok (.if_icmp .ge 66, 3) := by decide +kernel
theorem dX6_share_100 : decode cX6_share 100 = .ok (.iload 4, 2) := by decide +kernel
theorem dX6_share_102 : decode cX6_share 102 = .ok (.iload_n 1, 1) := by decide +kernel
theorem dX6_share_103 : decode cX6_share 103 = .ok (.invokestatic 79, 3) := by decide +kernel
theorem dX6_share_106 : decode cX6_share 106 = .ok (.ifCond .ne 51, 3) := by decide +kernel
theorem dX6_share_109 : decode cX6_share 109 = .ok (.iload 4, 2) := by decide +kernel
theorem dX6_share_111 : decode cX6_share 111 = .ok (.invokestatic 129, 3) := by decide +kernel
theorem dX6_share_114 : decode cX6_share 114 = .ok (.istore 5, 2) := by decide +kernel
theorem dX6_share_116 : decode cX6_share 116 = .ok (.iload_n 3, 1) := by decide +kernel
theorem dX6_share_117 : decode cX6_share 117 = .ok (.iload 5, 2) := by decide +kernel
theorem dX6_share_119 : decode cX6_share 119 = .ok (.invokestatic 197, 3) := by decide +kernel
theorem dX6_share_122 : decode cX6_share 122 = .ok (.aload_n 0, 1) := by decide +kernel
theorem dX6_share_123 : decode cX6_share 123 = .ok (.getfield 60, 3) := by decide +kernel
theorem dX6_share_126 : decode cX6_share 126 = .ok (.iconst 1, 1) := by decide +kernel
theorem dX6_share_127 : decode cX6_share 127 = .ok (.isub, 1) := by decide +kernel
theorem dX6_share_128 : decode cX6_share 128 = .ok (.iload 5, 2) := by decide +kernel
theorem dX6_share_130 : decode cX6_share 130 = .ok (.isub, 1) := by decide +kernel
theorem dX6_share_131 : decode cX6_share 131 = .ok (.invokestatic 197, 3) := by decide +kernel
theorem dX6_share_134 : decode cX6_share 134 = .ok (.imul, 1) := by decide +kernel
theorem dX6_share_135 : decode cX6_share 135 = .ok (.aload_n 0, 1) := by decide +kernel
theorem dX6_share_136 : decode cX6_share 136 = .ok (.getfield 47, 3) := by decide +kernel
theorem dX6_share_139 : decode cX6_share 139 = .ok (.iload 4, 2) := by decide +kernel
theorem dX6_share_141 : decode cX6_share 141 = .ok (.iconst 1, 1) := by decide +kernel
theorem dX6_share_142 : decode cX6_share 142 = .ok (.iload_n 1, 1) := by decide +kernel
theorem dX6_share_143 : decode cX6_share 143 = .ok (.ishl, 1) := by decide +kernel
theorem dX6_share_144 : decode cX6_share 144 = .ok (.ior, 1) := by decide +kernel
theorem dX6_share_145 : decode cX6_share 145 = .ok (.iaload, 1) := by decide +kernel
theorem dX6_share_146 : decode cX6_share 146 = .ok (.aload_n 0, 1) := by decide +kernel
theorem dX6_share_147 : decode cX6_share 147 = .ok (.getfield 47, 3) := by decide +kernel
theorem dX6_share_150 : decode cX6_share 150 = .ok (.iload 4, 2) := by decide +kernel
theorem dX6_share_152 : decode cX6_share 152 = .ok (.iaload, 1) := by decide +kernel
theorem dX6_share_153 : decode cX6_share 153 = .ok (.isub, 1) := by decide +kernel
theorem dX6_share_154 : decode cX6_share 154 = .ok (.imul, 1) := by decide +kernel
theorem dX6_share_155 : decode cX6_share 155 = .ok (.iadd, 1) := by decide +kernel
theorem dX6_share_156 : decode cX6_share 156 = .ok (.istore_n 3, 1) := by decide +kernel
theorem dX6_share_157 : decode cX6_share 157 = .ok (.iinc 4 1, 3) := by decide +kernel
theorem dX6_share_160 : decode cX6_share 160 = .ok (.goto (-71), 3) := by decide +kernel
theorem dX6_share_163 : decode cX6_share 163 = .ok (.iload_n 3, 1) := by decide +kernel
theorem dX6_share_164 : decode cX6_share 164 = .ok (.aload_n 0, 1) := by decide +kernel
theorem dX6_share_165 : decode cX6_share 165 = .ok (.getfield 60, 3) := by decide +kernel
theorem dX6_share_168 : decode cX6_share 168 = .ok (.invokestatic 197, 3) := by decide +kernel
theorem dX6_share_171 : decode cX6_share 171 = .ok (.iload_n 2, 1) := by decide +kernel
theorem dX6_share_172 : decode cX6_share 172 = .ok (.invokestatic 200, 3) := by decide +kernel
theorem dX6_share_175 : decode cX6_share 175 = .ok (.ireturn, 1) := by decide +kernel
theorem dX6_attempt_0 : decode cX6_attempt 0 = .ok (.aload_n 0, 1) := by decide +kernel
theorem dX6_attempt_1 : decode cX6_attempt 1 = .ok (.iconst 0, 1) := by decide +kernel
theorem dX6_attempt_2 : decode cX6_attempt 2 = .ok (.putfield 50, 3) := by decide +kernel
theorem dX6_attempt_5 : decode cX6_attempt 5 = .ok (.iload_n 1, 1) := by decide +kernel
theorem dX6_attempt_6 : decode cX6_attempt 6 = .ok (.i2l, 1) := by decide +kernel
theorem dX6_attempt_7 : decode cX6_attempt 7 = .ok (.lconst 0, 1) := by decide +kernel
theorem dX6_attempt_8 : decode cX6_attempt 8 = .ok (.ldc2_w 204, 3) := by decide +kernel
theorem dX6_attempt_11 : decode cX6_attempt 11 = .ok (.invokestatic 56, 3) := by decide +kernel
theorem dX6_attempt_14 : decode cX6_attempt 14 = .ok (.ifCond .eq 13, 3) := by decide +kernel
theorem dX6_attempt_17 : decode cX6_attempt 17 = .ok (.iload_n 2, 1) := by decide +kernel
theorem dX6_attempt_18 : decode cX6_attempt 18 = .ok (.i2l, 1) := by decide +kernel
theorem dX6_attempt_19 : decode cX6_attempt 19 = .ok (.lconst 0, 1) := by decide +kernel
theorem dX6_attempt_20 : decode cX6_attempt 20 = .ok (.lconst 1, 1) := by decide +kernel
theorem dX6_attempt_21 : decode cX6_attempt 21 = .ok (.invokestatic 56, 3) := by decide +kernel
theorem dX6_attempt_24 : decode cX6_attempt 24 = .ok (.ifCond .ne 6, 3) := by decide +kernel
theorem dX6_attempt_27 : decode cX6_attempt 27 = .ok (.bipush (-2), 2) := by decide +kernel
theorem dX6_attempt_29 : decode cX6_attempt 29 = .ok (.ireturn, 1) := by decide +kernel
theorem dX6_attempt_30 : decode cX6_attempt 30 = .ok (.aload_n 0, 1) := by decide +kernel
theorem dX6_attempt_31 : decode cX6_attempt 31 = .ok (.getfield 144, 3) := by decide +kernel
theorem dX6_attempt_34 : decode cX6_attempt 34 = .ok (.bipush 6, 2) := by decide +kernel
theorem dX6_attempt_36 : decode cX6_attempt 36 = .ok (.if_icmp .ne 6, 3) := by decide +kernel
theorem dX6_attempt_39 : decode cX6_attempt 39 = .ok (.bipush (-4), 2) := by decide +kernel
theorem dX6_attempt_41 : decode cX6_attempt 41 = .ok (.ireturn, 1) := by decide +kernel
theorem dX6_attempt_42 : decode cX6_attempt 42 = .ok (.aload_n 0, 1) := by decide +kernel
theorem dX6_attempt_43 : decode cX6_attempt 43 = .ok (.getfield 38, 3) := by decide +kernel
theorem dX6_attempt_46 : decode cX6_attempt 46 = .ok (.aload_n 0, 1) := by decide +kernel
theorem dX6_attempt_47 : decode cX6_attempt 47 = .ok (.getfield 144, 3) := by decide +kernel
theorem dX6_attempt_50 : decode cX6_attempt 50 = .ok (.iload_n 1, 1) := by decide +kernel
theorem dX6_attempt_51 : decode cX6_attempt 51 = .ok (.iastore, 1) := by decide +kernel
theorem dX6_attempt_52 : decode cX6_attempt 52 = .ok (.aload_n 0, 1) := by decide +kernel
theorem dX6_attempt_53 : decode cX6_attempt 53 = .ok (.getfield 41, 3) := by decide +kernel
theorem dX6_attempt_56 : decode cX6_attempt 56 = .ok (.aload_n 0, 1) := by decide +kernel
theorem dX6_attempt_57 : decode cX6_attempt 57 = .ok (.getfield 144, 3) := by decide +kernel
theorem dX6_attempt_60 : decode cX6_attempt 60 = .ok (.iload_n 2, 1) := by decide +kernel
theorem dX6_attempt_61 : decode cX6_attempt 61 = .ok (.iastore, 1) := by decide +kernel
theorem dX6_attempt_62 : decode cX6_attempt 62 = .ok (.aload_n 0, 1) := by decide +kernel
theorem dX6_attempt_63 : decode cX6_attempt 63 = .ok (.dup, 1) := by decide +kernel
theorem dX6_attempt_64 : decode cX6_attempt 64 = .ok (.getfield 144, 3) := by decide +kernel
theorem dX6_attempt_67 : decode cX6_attempt 67 = .ok (.iconst 1, 1) := by decide +kernel
theorem dX6_attempt_68 : decode cX6_attempt 68 = .ok (.iadd, 1) := by decide +kernel
theorem dX6_attempt_69 : decode cX6_attempt 69 = .ok (.putfield 144, 3) := by decide +kernel
theorem dX6_attempt_72 : decode cX6_attempt 72 = .ok (.aload_n 0, 1) := by decide +kernel
theorem dX6_attempt_73 : decode cX6_attempt 73 = .ok (.getfield 144, 3) := by decide +kernel
theorem dX6_attempt_76 : decode cX6_attempt 76 = .ok (.ireturn, 1) := by decide +kernel
theorem dX6_unattempt_0 : decode cX6_unattempt 0 = .ok (.aload_n 0, 1) := by decide +kernel
theorem dX6_unattempt_1 : decode cX6_unattempt 1 = .ok (.iconst 0, 1) := by decide +kernel
theorem dX6_unattempt_2 : decode cX6_unattempt 2 = .ok (.putfield 50, 3) := by decide +kernel
theorem dX6_unattempt_5 : decode cX6_unattempt 5 = .ok (.aload_n 0, 1) := by decide +kernel
theorem dX6_unattempt_6 : decode cX6_unattempt 6 = .ok (.getfield 144, 3) := by decide +kernel
theorem dX6_unattempt_9 : decode cX6_unattempt 9 = .ok (.istore_n 1, 1) := by decide +kernel
theorem dX6_unattempt_10 : decode cX6_unattempt 10 = .ok (.aload_n 0, 1) := by decide +kernel
theorem dX6_unattempt_11 : decode cX6_unattempt 11 = .ok (.iconst 0, 1) := by decide +kernel
theorem dX6_unattempt_12 : decode cX6_unattempt 12 = .ok (.putfield 144, 3) := by decide +kernel
theorem dX6_unattempt_15 : decode cX6_unattempt 15 = .ok (.iload_n 1, 1) := by decide +kernel
theorem dX6_unattempt_16 : decode cX6_unattempt 16 = .ok (.ireturn, 1) := by decide +kernel
theorem dX6_kinds_0 : decode cX6_kinds 0 = .ok (.aload_n 0, 1) := by decide +kernel
theorem dX6_kinds_1 : decode cX6_kinds 1 = .ok (.iconst 0, 1) := by decide +kernel
theorem dX6_kinds_2 : decode cX6_kinds 2 = .ok (.putfield 50, 3) := by decide +kernel
theorem dX6_kinds_5 : decode cX6_kinds 5 = .ok (.iload_n 1, 1) := by decide +kernel
theorem dX6_kinds_6 : decode cX6_kinds 6 = .ok (.i2l, 1) := by decide +kernel
theorem dX6_kinds_7 : decode cX6_kinds 7 = .ok (.lconst 0, 1) := by decide +kernel
theorem dX6_kinds_8 : decode cX6_kinds 8 = .ok (.lconst 1, 1) := by decide +kernel
theorem dX6_kinds_9 : decode cX6_kinds 9 = .ok (.invokestatic 56, 3) := by decide +kernel
theorem dX6_kinds_12 : decode cX6_kinds 12 = .ok (.ifCond .ne 6, 3) := by decide +kernel
theorem dX6_kinds_15 : decode cX6_kinds 15 = .ok (.bipush (-2), 2) := by decide +kernel
theorem dX6_kinds_17 : decode cX6_kinds 17 = .ok (.ireturn, 1) := by decide +kernel
theorem dX6_kinds_18 : decode cX6_kinds 18 = .ok (.aload_n 0, 1) := by decide +kernel
theorem dX6_kinds_19 : decode cX6_kinds 19 = .ok (.iconst 0, 1) := by decide +kernel
theorem dX6_kinds_20 : decode cX6_kinds 20 = .ok (.putfield 206, 3) := by decide +kernel
theorem dX6_kinds_23 : decode cX6_kinds 23 = .ok (.aload_n 0, 1) := by decide +kernel
theorem dX6_kinds_24 : decode cX6_kinds 24 = .ok (.bipush (-9), 2) := by decide +kernel
theorem dX6_kinds_26 : decode cX6_kinds 26 = .ok (.putfield 209, 3) := by decide +kernel
theorem dX6_kinds_29 : decode cX6_kinds 29 = .ok (.iconst 0, 1) := by decide +kernel
theorem dX6_kinds_30 : decode cX6_kinds 30 = .ok (.istore_n 2, 1) := by decide +kernel
theorem dX6_kinds_31 : decode cX6_kinds 31 = .ok (.iload_n 2, 1) := by decide +kernel
theorem dX6_kinds_32 : decode cX6_kinds 32 = .ok (.bipush 16, 2) := by decide +kernel
theorem dX6_kinds_34 : decode cX6_kinds 34 = .ok (.if_icmp .ge 171, 3) := by decide +kernel
theorem dX6_kinds_37 : decode cX6_kinds 37 = .ok (.iconst 1, 1) := by decide +kernel
theorem dX6_kinds_38 : decode cX6_kinds 38 = .ok (.istore_n 3, 1) := by decide +kernel
theorem dX6_kinds_39 : decode cX6_kinds 39 = .ok (.iconst 0, 1) := by decide +kernel
theorem dX6_kinds_40 : decode cX6_kinds 40 = .ok (.istore 4, 2) := by decide +kernel
theorem dX6_kinds_42 : decode cX6_kinds 42 = .ok (.iload 4, 2) := by decide +kernel
theorem dX6_kinds_44 : decode cX6_kinds 44 = .ok (.aload_n 0, 1) := by decide +kernel
theorem dX6_kinds_45 : decode cX6_kinds 45 = .ok (.getfield 144, 3) := by decide +kernel
theorem dX6_kinds_48 : decode cX6_kinds 48 = .ok (.if_icmp .ge 101, 3) := by decide +kernel
theorem dX6_kinds_51 : decode cX6_kinds 51 = .ok (.aload_n 0, 1) := by decide +kernel
theorem dX6_kinds_52 : decode cX6_kinds 52 = .ok (.getfield 38, 3) := by decide +kernel
theorem dX6_kinds_55 : decode cX6_kinds 55 = .ok (.iload 4, 2) := by decide +kernel
theorem dX6_kinds_57 : decode cX6_kinds 57 = .ok (.iaload, 1) := by decide +kernel
theorem dX6_kinds_58 : decode cX6_kinds 58 = .ok (.istore 5, 2) := by decide +kernel
theorem dX6_kinds_60 : decode cX6_kinds 60 = .ok (.iload_n 2, 1) := by decide +kernel
theorem dX6_kinds_61 : decode cX6_kinds 61 = .ok (.iconst 4, 1) := by decide +kernel
theorem dX6_kinds_62 : decode cX6_kinds 62 = .ok (.irem, 1) := by decide +kernel
theorem dX6_kinds_63 : decode cX6_kinds 63 = .ok (.ifCond .eq 42, 3) := by decide +kernel
theorem dX6_kinds_66 : decode cX6_kinds 66 = .ok (.iload_n 2, 1) := by decide +kernel
theorem dX6_kinds_67 : decode cX6_kinds 67 = .ok (.iconst 4, 1) := by decide +kernel
theorem dX6_kinds_68 : decode cX6_kinds 68 = .ok (.idiv, 1) := by decide +kernel
theorem dX6_kinds_69 : decode cX6_kinds 69 = .ok (.iload 5, 2) := by decide +kernel
theorem dX6_kinds_71 : decode cX6_kinds 71 = .ok (.iconst 0, 1) := by decide +kernel
theorem dX6_kinds_72 : decode cX6_kinds 72 = .ok (.invokestatic 79, 3) := by decide +kernel
theorem dX6_kinds_75 : decode cX6_kinds 75 = .ok (.iload 5, 2) := by decide +kernel
theorem dX6_kinds_77 : decode cX6_kinds 77 = .ok (.iconst 1, 1) := by decide +kernel
theorem dX6_kinds_78 : decode cX6_kinds 78 = .ok (.invokestatic 79, 3) := by decide +kernel
theorem dX6_kinds_81 : decode cX6_kinds 81 = .ok (.iload 5, 2) := by decide +kernel
theorem dX6_kinds_83 : decode cX6_kinds 83 = .ok (.iconst 2, 1) := by decide +kernel
theorem dX6_kinds_84 : decode cX6_kinds 84 = .ok (.invokestatic 79, 3) := by decide +kernel
theorem dX6_kinds_87 : decode cX6_kinds 87 = .ok (.iload 5, 2) := by decide +kernel
theorem dX6_kinds_89 : decode cX6_kinds 89 = .ok (.iconst 3, 1) := by decide +kernel
theorem dX6_kinds_90 : decode cX6_kinds 90 = .ok (.invokestatic 79, 3) := by decide +kernel
theorem dX6_kinds_93 : decode cX6_kinds 93 = .ok (.iload 5, 2) := by decide +kernel
theorem dX6_kinds_95 : decode cX6_kinds 95 = .ok (.iconst 4, 1) := by decide +kernel
theorem dX6_kinds_96 : decode cX6_kinds 96 = .ok (.invokestatic 79, 3) := by decide +kernel
theorem dX6_kinds_99 : decode cX6_kinds 99 = .ok (.invokestatic 117, 3) := by decide +kernel
theorem dX6_kinds_102 : decode cX6_kinds 102 = .ok (.ifCond .eq 7, 3) := by decide +kernel
theorem dX6_kinds_105 : decode cX6_kinds 105 = .ok (.iconst 1, 1) := by decide +kernel
theorem dX6_kinds_106 : decode cX6_kinds 106 = .ok (.goto 4, 3) := by decide +kernel
theorem dX6_kinds_109 : decode cX6_kinds 109 = .ok (.iconst 0, 1) := by decide +kernel
theorem dX6_kinds_110 : decode cX6_kinds 110 = .ok (.istore 6, 2) := by decide +kernel
theorem dX6_kinds_112 : decode cX6_kinds 112 = .ok (.iload_n 3, 1) := by decide +kernel
theorem dX6_kinds_113 : decode cX6_kinds 113 = .ok (.ifCond .eq 28, 3) := by decide +kernel
theorem dX6_kinds_116 : decode cX6_kinds 116 = .ok (.iload 6, 2) := by decide +kernel
theorem dX6_kinds_118 : decode cX6_kinds 118 = .ok (.aload_n 0, 1) := by decide +kernel
theorem dX6_kinds_119 : decode cX6_kinds 119 = .ok (.getfield 41, 3) := by decide +kernel
theorem dX6_kinds_122 : decode cX6_kinds 122 = .ok (.iload 4, 2) := by decide +kernel
theorem dX6_kinds_124 : decode cX6_kinds 124 = .ok (.iaload, 1) := by decide +kernel
theorem dX6_kinds_125 : decode cX6_kinds 125 = .ok (.iconst 1, 1) := by decide +kernel
theorem dX6_kinds_126 : decode cX6_kinds 126 = .ok (.if_icmp .ne 7, 3) := by decide +kernel
theorem dX6_kinds_129 : decode cX6_kinds 129 = .ok (.iconst 1, 1) := by decide +kernel
theorem dX6_kinds_130 : decode cX6_kinds 130 = .ok (.goto 4, 3) := by decide +kernel
theorem dX6_kinds_133 : decode cX6_kinds 133 = .ok (.iconst 0, 1) := by decide +kernel
theorem dX6_kinds_134 : decode cX6_kinds 134 = .ok (.if_icmp .ne 7, 3) := by decide +kernel
theorem dX6_kinds_137 : decode cX6_kinds 137 = .ok (.iconst 1, 1) := by decide +kernel
theorem dX6_kinds_138 : decode cX6_kinds 138 = .ok (.goto 4, 3) := by decide +kernel
theorem dX6_kinds_141 : decode cX6_kinds 141 = .ok (.iconst 0, 1) := by decide +kernel
theorem dX6_kinds_142 : decode cX6_kinds 142 = .ok (.istore_n 3, 1) := by decide +kernel
theorem dX6_kinds_143 : decode cX6_kinds 143 = .ok (.iinc 4 1, 3) := by decide +kernel
theorem dX6_kinds_146 : decode cX6_kinds 146 = .ok (.goto (-104), 3) := by decide +kernel
theorem dX6_kinds_149 : decode cX6_kinds 149 = .ok (.aload_n 0, 1) := by decide +kernel
theorem dX6_kinds_150 : decode cX6_kinds 150 = .ok (.iload_n 3, 1) := by decide +kernel
theorem dX6_kinds_151 : decode cX6_kinds 151 = .ok (.ifCond .eq 23, 3) := by decide +kernel
theorem dX6_kinds_154 : decode cX6_kinds 154 = .ok (.aload_n 0, 1) := by decide +kernel
theorem dX6_kinds_155 : decode cX6_kinds 155 = .ok (.getfield 206, 3) := by decide +kernel
theorem dX6_kinds_158 : decode cX6_kinds 158 = .ok (.ifCond .ne 16, 3) := by decide +kernel
theorem dX6_kinds_161 : decode cX6_kinds 161 = .ok (.bipush 10, 2) := by decide +kernel
theorem dX6_kinds_163 : decode cX6_kinds 163 = .ok (.iload_n 2, 1) := by decide +kernel
theorem dX6_kinds_164 : decode cX6_kinds 164 = .ok (.iconst 4, 1) := by decide +kernel
theorem dX6_kinds_165 : decode cX6_kinds 165 = .ok (.idiv, 1) := by decide +kernel
theorem dX6_kinds_166 : decode cX6_kinds 166 = .ok (.imul, 1) := by decide +kernel
theorem dX6_kinds_167 : decode cX6_kinds 167 = .ok (.iload_n 2, 1) := by decide +kernel
theorem dX6_kinds_168 : decode cX6_kinds 168 = .ok (.iconst 4, 1) := by decide +kernel
theorem dX6_kinds_169 : decode cX6_kinds 169 = .ok (.irem, 1) := by decide +kernel
theorem dX6_kinds_170 : decode cX6_kinds 170 = .ok (.iadd, 1) := by decide +kernel
theorem dX6_kinds_171 : decode cX6_kinds 171 = .ok (.goto 7, 3) := by decide +kernel
theorem dX6_kinds_174 : decode cX6_kinds 174 = .ok (.aload_n 0, 1) := by decide +kernel
theorem dX6_kinds_175 : decode cX6_kinds 175 = .ok (.getfield 209, 3) := by decide +kernel
theorem dX6_kinds_178 : decode cX6_kinds 178 = .ok (.putfield 209, 3) := by decide +kernel
theorem dX6_kinds_181 : decode cX6_kinds 181 = .ok (.aload_n 0, 1) := by decide +kernel
theorem dX6_kinds_182 : decode cX6_kinds 182 = .ok (.dup, 1) := by decide +kernel
theorem dX6_kinds_183 : decode cX6_kinds 183 = .ok (.getfield 206, 3) := by decide +kernel
theorem dX6_kinds_186 : decode cX6_kinds 186 = .ok (.iload_n 3, 1) := by decide +kernel
theorem dX6_kinds_187 : decode cX6_kinds 187 = .ok (.ifCond .eq 7, 3) := by decide +kernel
theorem dX6_kinds_190 : decode cX6_kinds 190 = .ok (.iconst 1, 1) := by decide +kernel
theorem dX6_kinds_191 : decode cX6_kinds 191 = .ok (.goto 4, 3) := by decide +kernel
theorem dX6_kinds_194 : decode cX6_kinds 194 = .ok (.iconst 0, 1) := by decide +kernel
theorem dX6_kinds_195 : decode cX6_kinds 195 = .ok (.iadd, 1) := by decide +kernel
theorem dX6_kinds_196 : decode cX6_kinds 196 = .ok (.putfield 206, 3) := by decide +kernel
theorem dX6_kinds_199 : decode cX6_kinds 199 = .ok (.iinc 2 1, 3) := by decide +kernel
theorem dX6_kinds_202 : decode cX6_kinds 202 = .ok (.goto (-171), 3) := by decide +kernel
theorem dX6_kinds_205 : decode cX6_kinds 205 = .ok (.iload_n 1, 1) := by decide +kernel
theorem dX6_kinds_206 : decode cX6_kinds 206 = .ok (.ifCond .ne 10, 3) := by decide +kernel
theorem dX6_kinds_209 : decode cX6_kinds 209 = .ok (.aload_n 0, 1) := by decide +kernel
theorem dX6_kinds_210 : decode cX6_kinds 210 = .ok (.getfield 206, 3) := by decide +kernel
theorem dX6_kinds_213 : decode cX6_kinds 213 = .ok (.goto 7, 3) := by decide +kernel
theorem dX6_kinds_216 : decode cX6_kinds 216 = .ok (.aload_n 0, 1) := by decide +kernel
theorem dX6_kinds_217 : decode cX6_kinds 217 = .ok (.getfield 209, 3) := by decide +kernel
theorem dX6_kinds_220 : decode cX6_kinds 220 = .ok (.ireturn, 1) := by decide +kernel
theorem dX6_chooses_0 : decode cX6_chooses 0 = .ok (.iload_n 2, 1) := by decide +kernel
theorem dX6_chooses_1 : decode cX6_chooses 1 = .ok (.iconst 1, 1) := by decide +kernel
theorem dX6_chooses_2 : decode cX6_chooses 2 = .ok (.if_icmp .ne 13, 3) := by decide +kernel
theorem dX6_chooses_5 : decode cX6_chooses 5 = .ok (.aload_n 0, 1) := by decide +kernel
theorem dX6_chooses_6 : decode cX6_chooses 6 = .ok (.aload_n 0, 1) := by decide +kernel
theorem dX6_chooses_7 : decode cX6_chooses 7 = .ok (.getfield 25, 3) := by decide +kernel
theorem dX6_chooses_10 : decode cX6_chooses 10 = .ok (.iload_n 1, 1) := by decide +kernel
theorem dX6_chooses_11 : decode cX6_chooses 11 = .ok (.invokevirtual 153, 3) := by decide +kernel
theorem dX6_chooses_14 : decode cX6_chooses 14 = .ok (.pop, 1) := by decide +kernel
theorem dX6_chooses_15 : decode cX6_chooses 15 = .ok (.iload_n 2, 1) := by decide +kernel
theorem dX6_chooses_16 : decode cX6_chooses 16 = .ok (.iconst 2, 1) := by decide +kernel
theorem dX6_chooses_17 : decode cX6_chooses 17 = .ok (.if_icmp .ne 9, 3) := by decide +kernel
theorem dX6_chooses_20 : decode cX6_chooses 20 = .ok (.aload_n 0, 1) := by decide +kernel
theorem dX6_chooses_21 : decode cX6_chooses 21 = .ok (.iload_n 1, 1) := by decide +kernel
theorem dX6_chooses_22 : decode cX6_chooses 22 = .ok (.invokevirtual 180, 3) := by decide +kernel
theorem dX6_chooses_25 : decode cX6_chooses 25 = .ok (.pop, 1) := by decide +kernel
theorem dX6_chooses_26 : decode cX6_chooses 26 = .ok (.return_, 1) := by decide +kernel
theorem dX6_gain_0 : decode cX6_gain 0 = .ok (.iconst 0, 1) := by decide +kernel
theorem dX6_gain_1 : decode cX6_gain 1 = .ok (.istore_n 2, 1) := by decide +kernel
theorem dX6_gain_2 : decode cX6_gain 2 = .ok (.iconst 0, 1) := by decide +kernel
theorem dX6_gain_3 : decode cX6_gain 3 = .ok (.istore_n 3, 1) := by decide +kernel
theorem dX6_gain_4 : decode cX6_gain 4 = .ok (.iload_n 3, 1) := by decide +kernel
theorem dX6_gain_5 : decode cX6_gain 5 = .ok (.aload_n 0, 1) := by decide +kernel
theorem dX6_gain_6 : decode cX6_gain 6 = .ok (.getfield 60, 3) := by decide +kernel
theorem dX6_gain_9 : decode cX6_gain 9 = .ok (.if_icmp .ge 42, 3) := by decide +kernel
theorem dX6_gain_12 : decode cX6_gain 12 = .ok (.iload_n 2, 1) := by decide +kernel
theorem dX6_gain_13 : decode cX6_gain 13 = .ok (.aload_n 0, 1) := by decide +kernel
theorem dX6_gain_14 : decode cX6_gain 14 = .ok (.getfield 13, 3) := by decide +kernel
theorem dX6_gain_17 : decode cX6_gain 17 = .ok (.iload_n 3, 1) := by decide +kernel
theorem dX6_gain_18 : decode cX6_gain 18 = .ok (.iaload, 1) := by decide +kernel
theorem dX6_gain_19 : decode cX6_gain 19 = .ok (.iconst 4, 1) := by decide +kernel
theorem dX6_gain_20 : decode cX6_gain 20 = .ok (.irem, 1) := by decide +kernel
theorem dX6_gain_21 : decode cX6_gain 21 = .ok (.iload_n 1, 1) := by decide +kernel
theorem dX6_gain_22 : decode cX6_gain 22 = .ok (.if_icmp .ne 20, 3) := by decide +kernel
theorem dX6_gain_25 : decode cX6_gain 25 = .ok (.aload_n 0, 1) := by decide +kernel
theorem dX6_gain_26 : decode cX6_gain 26 = .ok (.getfield 25, 3) := by decide +kernel
theorem dX6_gain_29 : decode cX6_gain 29 = .ok (.iconst 5, 1) := by decide +kernel
theorem dX6_gain_30 : decode cX6_gain 30 = .ok (.iaload, 1) := by decide +kernel
theorem dX6_gain_31 : decode cX6_gain 31 = .ok (.iload_n 3, 1) := by decide +kernel
theorem dX6_gain_32 : decode cX6_gain 32 = .ok (.invokestatic 79, 3) := by decide +kernel
theorem dX6_gain_35 : decode cX6_gain 35 = .ok (.ifCond .eq 7, 3) := by decide +kernel
theorem dX6_gain_38 : decode cX6_gain 38 = .ok (.iconst 1, 1) := by decide +kernel
theorem dX6_gain_39 : decode cX6_gain 39 = .ok (.goto 4, 3) := by decide +kernel
theorem dX6_gain_42 : decode cX6_gain 42 = .ok (.iconst 0, 1) := by decide +kernel
theorem dX6_gain_43 : decode cX6_gain 43 = .ok (.iadd, 1) := by decide +kernel
theorem dX6_gain_44 : decode cX6_gain 44 = .ok (.istore_n 2, 1) := by decide +kernel
theorem dX6_gain_45 : decode cX6_gain 45 = .ok (.iinc 3 1, 3) := by decide +kernel
theorem dX6_gain_48 : decode cX6_gain 48 = .ok (.goto (-44), 3) := by decide +kernel
theorem dX6_gain_51 : decode cX6_gain 51 = .ok (.iconst 2, 1) := by decide +kernel
theorem dX6_gain_52 : decode cX6_gain 52 = .ok (.iload_n 2, 1) := by decide +kernel
theorem dX6_gain_53 : decode cX6_gain 53 = .ok (.imul, 1) := by decide +kernel
theorem dX6_gain_54 : decode cX6_gain 54 = .ok (.aload_n 0, 1) := by decide +kernel
theorem dX6_gain_55 : decode cX6_gain 55 = .ok (.getfield 25, 3) := by decide +kernel
theorem dX6_gain_58 : decode cX6_gain 58 = .ok (.iload_n 1, 1) := by decide +kernel
theorem dX6_gain_59 : decode cX6_gain 59 = .ok (.iaload, 1) := by decide +kernel
theorem dX6_gain_60 : decode cX6_gain 60 = .ok (.isub, 1) := by decide +kernel
theorem dX6_gain_61 : decode cX6_gain 61 = .ok (.ireturn, 1) := by decide +kernel
theorem dX6_rests_0 : decode cX6_rests 0 = .ok (.aload_n 0, 1) := by decide +kernel
theorem dX6_rests_1 : decode cX6_rests 1 = .ok (.iconst 0, 1) := by decide +kernel
theorem dX6_rests_2 : decode cX6_rests 2 = .ok (.putfield 50, 3) := by decide +kernel
theorem dX6_rests_5 : decode cX6_rests 5 = .ok (.iload_n 1, 1) := by decide +kernel
theorem dX6_rests_6 : decode cX6_rests 6 = .ok (.invokestatic 101, 3) := by decide +kernel
theorem dX6_rests_9 : decode cX6_rests 9 = .ok (.ifCond .ne 10, 3) := by decide +kernel
theorem dX6_rests_12 : decode cX6_rests 12 = .ok (.iload_n 2, 1) := by decide +kernel
theorem dX6_rests_13 : decode cX6_rests 13 = .ok (.invokestatic 101, 3) := by decide +kernel
theorem dX6_rests_16 : decode cX6_rests 16 = .ok (.ifCond .eq 5, 3) := by decide +kernel
theorem dX6_rests_19 : decode cX6_rests 19 = .ok (.iconst (-1), 1) := by decide +kernel
theorem dX6_rests_20 : decode cX6_rests 20 = .ok (.ireturn, 1) := by decide +kernel
theorem dX6_rests_21 : decode cX6_rests 21 = .ok (.iload_n 1, 1) := by decide +kernel
theorem dX6_rests_22 : decode cX6_rests 22 = .ok (.iload_n 2, 1) := by decide +kernel
theorem dX6_rests_23 : decode cX6_rests 23 = .ok (.if_icmp .eq 13, 3) := by decide +kernel
theorem dX6_rests_26 : decode cX6_rests 26 = .ok (.iload_n 3, 1) := by decide +kernel
theorem dX6_rests_27 : decode cX6_rests 27 = .ok (.i2l, 1) := by decide +kernel
theorem dX6_rests_28 : decode cX6_rests 28 = .ok (.lconst 0, 1) := by decide +kernel
theorem dX6_rests_29 : decode cX6_rests 29 = .ok (.lconst 1, 1) := by decide +kernel
theorem dX6_rests_30 : decode cX6_rests 30 = .ok (.invokestatic 56, 3) := by decide +kernel
theorem dX6_rests_33 : decode cX6_rests 33 = .ok (.ifCond .ne 6, 3) := by decide +kernel
theorem dX6_rests_36 : decode cX6_rests 36 = .ok (.bipush (-2), 2) := by decide +kernel
theorem dX6_rests_38 : decode cX6_rests 38 = .ok (.ireturn, 1) := by decide +kernel
theorem dX6_rests_39 : decode cX6_rests 39 = .ok (.iconst 0, 1) := by decide +kernel
theorem dX6_rests_40 : decode cX6_rests 40 = .ok (.istore 4, 2) := by decide +kernel
theorem dX6_rests_42 : decode cX6_rests 42 = .ok (.iload 4, 2) := by decide +kernel
theorem dX6_rests_44 : decode cX6_rests 44 = .ok (.bipush 9, 2) := by decide +kernel
theorem dX6_rests_46 : decode cX6_rests 46 = .ok (.if_icmp .ge 61, 3) := by decide +kernel
theorem dX6_rests_49 : decode cX6_rests 49 = .ok (.aload_n 0, 1) := by decide +kernel
theorem dX6_rests_50 : decode cX6_rests 50 = .ok (.invokevirtual 132, 3) := by decide +kernel
theorem dX6_rests_53 : decode cX6_rests 53 = .ok (.aload_n 0, 1) := by decide +kernel
theorem dX6_rests_54 : decode cX6_rests 54 = .ok (.iload_n 1, 1) := by decide +kernel
theorem dX6_rests_55 : decode cX6_rests 55 = .ok (.iload 4, 2) := by decide +kernel
theorem dX6_rests_57 : decode cX6_rests 57 = .ok (.iconst 3, 1) := by decide +kernel
theorem dX6_rests_58 : decode cX6_rests 58 = .ok (.idiv, 1) := by decide +kernel
theorem dX6_rests_59 : decode cX6_rests 59 = .ok (.invokevirtual 212, 3) := by decide +kernel
theorem dX6_rests_62 : decode cX6_rests 62 = .ok (.aload_n 0, 1) := by decide +kernel
theorem dX6_rests_63 : decode cX6_rests 63 = .ok (.iload_n 2, 1) := by decide +kernel
theorem dX6_rests_64 : decode cX6_rests 64 = .ok (.iload 4, 2) := by decide +kernel
theorem dX6_rests_66 : decode cX6_rests 66 = .ok (.iconst 3, 1) := by decide +kernel
theorem dX6_rests_67 : decode cX6_rests 67 = .ok (.irem, 1) := by decide +kernel
theorem dX6_rests_68 : decode cX6_rests 68 = .ok (.invokevirtual 212, 3) := by decide +kernel
theorem dX6_rests_71 : decode cX6_rests 71 = .ok (.aload_n 0, 1) := by decide +kernel
theorem dX6_rests_72 : decode cX6_rests 72 = .ok (.getfield 44, 3) := by decide +kernel
theorem dX6_rests_75 : decode cX6_rests 75 = .ok (.iconst 2, 1) := by decide +kernel
theorem dX6_rests_76 : decode cX6_rests 76 = .ok (.iload 4, 2) := by decide +kernel
theorem dX6_rests_78 : decode cX6_rests 78 = .ok (.imul, 1) := by decide +kernel
theorem dX6_rests_79 : decode cX6_rests 79 = .ok (.aload_n 0, 1) := by decide +kernel
theorem dX6_rests_80 : decode cX6_rests 80 = .ok (.iload_n 1, 1) := by decide +kernel
theorem dX6_rests_81 : decode cX6_rests 81 = .ok (.invokevirtual 216, 3) := by decide +kernel
theorem dX6_rests_84 : decode cX6_rests 84 = .ok (.iastore, 1) := by decide +kernel
theorem dX6_rests_85 : decode cX6_rests 85 = .ok (.aload_n 0, 1) := by decide +kernel
theorem dX6_rests_86 : decode cX6_rests 86 = .ok (.getfield 44, 3) := by decide +kernel
theorem dX6_rests_89 : decode cX6_rests 89 = .ok (.iconst 2, 1) := by decide +kernel
theorem dX6_rests_90 : decode cX6_rests 90 = .ok (.iload 4, 2) := by decide +kernel
theorem dX6_rests_92 : decode cX6_rests 92 = .ok (.imul, 1) := by decide +kernel
theorem dX6_rests_93 : decode cX6_rests 93 = .ok (.iconst 1, 1) := by decide +kernel
theorem dX6_rests_94 : decode cX6_rests 94 = .ok (.iadd, 1) := by decide +kernel
theorem dX6_rests_95 : decode cX6_rests 95 = .ok (.aload_n 0, 1) := by decide +kernel
theorem dX6_rests_96 : decode cX6_rests 96 = .ok (.iload_n 2, 1) := by decide +kernel
theorem dX6_rests_97 : decode cX6_rests 97 = .ok (.invokevirtual 216, 3) := by decide +kernel
theorem dX6_rests_100 : decode cX6_rests 100 = .ok (.iastore, 1) := by decide +kernel
theorem dX6_rests_101 : decode cX6_rests 101 = .ok (.iinc 4 1, 3) := by decide +kernel
theorem dX6_rests_104 : decode cX6_rests 104 = .ok (.goto (-62), 3) := by decide +kernel
theorem dX6_rests_107 : decode cX6_rests 107 = .ok (.aload_n 0, 1) := by decide +kernel
theorem dX6_rests_108 : decode cX6_rests 108 = .ok (.iconst 0, 1) := by decide +kernel
theorem dX6_rests_109 : decode cX6_rests 109 = .ok (.putfield 219, 3) := by decide +kernel
theorem dX6_rests_112 : decode cX6_rests 112 = .ok (.aload_n 0, 1) := by decide +kernel
theorem dX6_rests_113 : decode cX6_rests 113 = .ok (.bipush (-9), 2) := by decide +kernel
theorem dX6_rests_115 : decode cX6_rests 115 = .ok (.putfield 222, 3) := by decide +kernel
theorem dX6_rests_118 : decode cX6_rests 118 = .ok (.iconst 0, 1) := by decide +kernel
theorem dX6_rests_119 : decode cX6_rests 119 = .ok (.istore 4, 2) := by decide +kernel
theorem dX6_rests_121 : decode cX6_rests 121 = .ok (.iload 4, 2) := by decide +kernel
theorem dX6_rests_123 : decode cX6_rests 123 = .ok (.bipush 9, 2) := by decide +kernel
theorem dX6_rests_125 : decode cX6_rests 125 = .ok (.if_icmp .ge 154, 3) := by decide +kernel
theorem dX6_rests_128 : decode cX6_rests 128 = .ok (.iconst 1, 1) := by decide +kernel
theorem dX6_rests_129 : decode cX6_rests 129 = .ok (.istore 5, 2) := by decide +kernel
theorem dX6_rests_131 : decode cX6_rests 131 = .ok (.iconst 0, 1) := by decide +kernel
theorem dX6_rests_132 : decode cX6_rests 132 = .ok (.istore 6, 2) := by decide +kernel
theorem dX6_rests_134 : decode cX6_rests 134 = .ok (.iload 6, 2) := by decide +kernel
theorem dX6_rests_136 : decode cX6_rests 136 = .ok (.iconst 3, 1) := by decide +kernel
theorem dX6_rests_137 : decode cX6_rests 137 = .ok (.if_icmp .ge 82, 3) := by decide +kernel
theorem dX6_rests_140 : decode cX6_rests 140 = .ok (.iload 5, 2) := by decide +kernel
theorem dX6_rests_142 : decode cX6_rests 142 = .ok (.ifCond .eq 68, 3) := by decide +kernel
theorem dX6_rests_145 : decode cX6_rests 145 = .ok (.aload_n 0, 1) := by decide +kernel
theorem dX6_rests_146 : decode cX6_rests 146 = .ok (.getfield 44, 3) := by decide +kernel
theorem dX6_rests_149 : decode cX6_rests 149 = .ok (.iconst 2, 1) := by decide +kernel
theorem dX6_rests_150 : decode cX6_rests 150 = .ok (.iconst 3, 1) := by decide +kernel
theorem dX6_rests_151 : decode cX6_rests 151 = .ok (.iload 6, 2) := by decide +kernel
theorem dX6_rests_153 : decode cX6_rests 153 = .ok (.imul, 1) := by decide +kernel
theorem dX6_rests_154 : decode cX6_rests 154 = .ok (.iload 4, 2) := by decide +kernel
theorem dX6_rests_156 : decode cX6_rests 156 = .ok (.iconst 3, 1) := by decide +kernel
theorem dX6_rests_157 : decode cX6_rests 157 = .ok (.irem, 1) := by decide +kernel
theorem dX6_rests_158 : decode cX6_rests 158 = .ok (.iadd, 1) := by decide +kernel
theorem dX6_rests_159 : decode cX6_rests 159 = .ok (.imul, 1) := by decide +kernel
theorem dX6_rests_160 : decode cX6_rests 160 = .ok (.iaload, 1) := by decide +kernel
theorem dX6_rests_161 : decode cX6_rests 161 = .ok (.aload_n 0, 1) := by decide +kernel
theorem dX6_rests_162 : decode cX6_rests 162 = .ok (.getfield 44, 3) := by decide +kernel
theorem dX6_rests_165 : decode cX6_rests 165 = .ok (.iconst 2, 1) := by decide +kernel
theorem dX6_rests_166 : decode cX6_rests 166 = .ok (.iload 4, 2) := by decide +kernel
theorem dX6_rests_168 : decode cX6_rests 168 = .ok (.imul, 1) := by decide +kernel
theorem dX6_rests_169 : decode cX6_rests 169 = .ok (.iaload, 1) := by decide +kernel
theorem dX6_rests_170 : decode cX6_rests 170 = .ok (.if_icmp .gt 40, 3) := by decide +kernel
theorem dX6_rests_173 : decode cX6_rests 173 = .ok (.aload_n 0, 1) := by decide +kernel
theorem dX6_rests_174 : decode cX6_rests 174 = .ok (.getfield 44, 3) := by decide +kernel
theorem dX6_rests_177 : decode cX6_rests 177 = .ok (.iconst 2, 1) := by decide +kernel
theorem dX6_rests_178 : decode cX6_rests 178 = .ok (.iload 4, 2) := by decide +kernel
theorem dX6_rests_180 : decode cX6_rests 180 = .ok (.iload 4, 2) := by decide +kernel
theorem dX6_rests_182 : decode cX6_rests 182 = .ok (.iconst 3, 1) := by decide +kernel
theorem dX6_rests_183 : decode cX6_rests 183 = .ok (.irem, 1) := by decide +kernel
theorem dX6_rests_184 : decode cX6_rests 184 = .ok (.isub, 1) := by decide +kernel
theorem dX6_rests_185 : decode cX6_rests 185 = .ok (.iload 6, 2) := by decide +kernel
theorem dX6_rests_187 : decode cX6_rests 187 = .ok (.iadd, 1) := by decide +kernel
theorem dX6_rests_188 : decode cX6_rests 188 = .ok (.imul, 1) := by decide +kernel
theorem dX6_rests_189 : decode cX6_rests 189 = .ok (.iconst 1, 1) := by decide +kernel
theorem dX6_rests_190 : decode cX6_rests 190 = .ok (.iadd, 1) := by decide +kernel
theorem dX6_rests_191 : decode cX6_rests 191 = .ok (.iaload, 1) := by decide +kernel
theorem dX6_rests_192 : decode cX6_rests 192 = .ok (.aload_n 0, 1) := by decide +kernel
theorem dX6_rests_193 : decode cX6_rests 193 = .ok (.getfield 44, 3) := by decide +kernel
theorem dX6_rests_196 : decode cX6_rests 196 = .ok (.iconst 2, 1) := by decide +kernel
theorem dX6_rests_197 : decode cX6_rests 197 = .ok (.iload 4, 2) := by decide +kernel
theorem dX6_rests_199 : decode cX6_rests 199 = .ok (.imul, 1) := by decide +kernel
theorem dX6_rests_200 : decode cX6_rests 200 = .ok (.iconst 1, 1) := by decide +kernel
theorem dX6_rests_201 : decode cX6_rests 201 = .ok (.iadd, 1) := by decide +kernel
theorem dX6_rests_202 : decode cX6_rests 202 = .ok (.iaload, 1) := by decide +kernel
theorem dX6_rests_203 : decode cX6_rests 203 = .ok (.if_icmp .gt 7, 3) := by decide +kernel
theorem dX6_rests_206 : decode cX6_rests 206 = .ok (.iconst 1, 1) := by decide +kernel
theorem dX6_rests_207 : decode cX6_rests 207 = .ok (.goto 4, 3) := by decide +kernel
theorem dX6_rests_210 : decode cX6_rests 210 = .ok (.iconst 0, 1) := by decide +kernel
theorem dX6_rests_211 : decode cX6_rests 211 = .ok (.istore 5, 2) := by decide +kernel
theorem dX6_rests_213 : decode cX6_rests 213 = .ok (.iinc 6 1, 3) := by decide +kernel
theorem dX6_rests_216 : decode cX6_rests 216 = .ok (.goto (-82), 3) := by decide +kernel
theorem dX6_rests_219 : decode cX6_rests 219 = .ok (.aload_n 0, 1) := by decide +kernel
theorem dX6_rests_220 : decode cX6_rests 220 = .ok (.iload 5, 2) := by decide +kernel
theorem dX6_rests_222 : decode cX6_rests 222 = .ok (.ifCond .eq 25, 3) := by decide +kernel
theorem dX6_rests_225 : decode cX6_rests 225 = .ok (.aload_n 0, 1) := by decide +kernel
theorem dX6_rests_226 : decode cX6_rests 226 = .ok (.getfield 219, 3) := by decide +kernel
theorem dX6_rests_229 : decode cX6_rests 229 = .ok (.ifCond .ne 18, 3) := by decide +kernel
theorem dX6_rests_232 : decode cX6_rests 232 = .ok (.bipush 10, 2) := by decide +kernel
theorem dX6_rests_234 : decode cX6_rests 234 = .ok (.iload 4, 2) := by decide +kernel
theorem dX6_rests_236 : decode cX6_rests 236 = .ok (.iconst 3, 1) := by decide +kernel
theorem dX6_rests_237 : decode cX6_rests 237 = .ok (.idiv, 1) := by decide +kernel
theorem dX6_rests_238 : decode cX6_rests 238 = .ok (.imul, 1) := by decide +kernel
theorem dX6_rests_239 : decode cX6_rests 239 = .ok (.iload 4, 2) := by decide +kernel
theorem dX6_rests_241 : decode cX6_rests 241 = .ok (.iconst 3, 1) := by decide +kernel
theorem dX6_rests_242 : decode cX6_rests 242 = .ok (.irem, 1) := by decide +kernel
theorem dX6_rests_243 : decode cX6_rests 243 = .ok (.iadd, 1) := by decide +kernel
theorem dX6_rests_244 : decode cX6_rests 244 = .ok (.goto 7, 3) := by decide +kernel
theorem dX6_rests_247 : decode cX6_rests 247 = .ok (.aload_n 0, 1) := by decide +kernel
theorem dX6_rests_248 : decode cX6_rests 248 = .ok (.getfield 222, 3) := by decide +kernel
theorem dX6_rests_251 : decode cX6_rests 251 = .ok (.putfield 222, 3) := by decide +kernel
theorem dX6_rests_254 : decode cX6_rests 254 = .ok (.aload_n 0, 1) := by decide +kernel
theorem dX6_rests_255 : decode cX6_rests 255 = .ok (.dup, 1) := by decide +kernel
theorem dX6_rests_256 : decode cX6_rests 256 = .ok (.getfield 219, 3) := by decide +kernel
theorem dX6_rests_259 : decode cX6_rests 259 = .ok (.iload 5, 2) := by decide +kernel
theorem dX6_rests_261 : decode cX6_rests 261 = .ok (.ifCond .eq 7, 3) := by decide +kernel
theorem dX6_rests_264 : decode cX6_rests 264 = .ok (.iconst 1, 1) := by decide +kernel
theorem dX6_rests_265 : decode cX6_rests 265 = .ok (.goto 4, 3) := by decide +kernel
theorem dX6_rests_268 : decode cX6_rests 268 = .ok (.iconst 0, 1) := by decide +kernel
theorem dX6_rests_269 : decode cX6_rests 269 = .ok (.iadd, 1) := by decide +kernel
theorem dX6_rests_270 : decode cX6_rests 270 = .ok (.putfield 219, 3) := by decide +kernel
theorem dX6_rests_273 : decode cX6_rests 273 = .ok (.iinc 4 1, 3) := by decide +kernel
theorem dX6_rests_276 : decode cX6_rests 276 = .ok (.goto (-155), 3) := by decide +kernel
theorem dX6_rests_279 : decode cX6_rests 279 = .ok (.iload_n 3, 1) := by decide +kernel
theorem dX6_rests_280 : decode cX6_rests 280 = .ok (.ifCond .ne 10, 3) := by decide +kernel
theorem dX6_rests_283 : decode cX6_rests 283 = .ok (.aload_n 0, 1) := by decide +kernel
theorem dX6_rests_284 : decode cX6_rests 284 = .ok (.getfield 219, 3) := by decide +kernel
theorem dX6_rests_287 : decode cX6_rests 287 = .ok (.goto 7, 3) := by decide +kernel
theorem dX6_rests_290 : decode cX6_rests 290 = .ok (.aload_n 0, 1) := by decide +kernel
theorem dX6_rests_291 : decode cX6_rests 291 = .ok (.getfield 222, 3) := by decide +kernel
theorem dX6_rests_294 : decode cX6_rests 294 = .ok (.ireturn, 1) := by decide +kernel
theorem dX6_columnsWith_0 : decode cX6_columnsWith 0 = .ok (.iconst 0, 1) := by decide +kernel
theorem dX6_columnsWith_1 : decode cX6_columnsWith 1 = .ok (.istore_n 1, 1) := by decide +kernel
theorem dX6_columnsWith_2 : decode cX6_columnsWith 2 = .ok (.iconst 0, 1) := by decide +kernel
theorem dX6_columnsWith_3 : decode cX6_columnsWith 3 = .ok (.istore_n 2, 1) := by decide +kernel
theorem dX6_columnsWith_4 : decode cX6_columnsWith 4 = .ok (.iload_n 2, 1) := by decide +kernel
theorem dX6_columnsWith_5 : decode cX6_columnsWith 5 = .ok (.iconst 4, 1) := by decide +kernel
theorem dX6_columnsWith_6 : decode cX6_columnsWith 6 = .ok (.if_icmp .ge 28, 3) := by decide +kernel
theorem dX6_columnsWith_9 : decode cX6_columnsWith 9 = .ok (.iload_n 1, 1) := by decide +kernel
theorem dX6_columnsWith_10 : decode cX6_columnsWith 10 = .ok (.aload_n 0, 1) := by decide +kernel
theorem dX6_columnsWith_11 : decode cX6_columnsWith 11 = .ok (.getfield 22, 3) := by decide +kernel
theorem dX6_columnsWith_14 : decode cX6_columnsWith 14 = .ok (.iload_n 2, 1) := by decide +kernel
theorem dX6_columnsWith_15 : decode cX6_columnsWith 15 = .ok (.iaload, 1) := by decide +kernel
theorem dX6_columnsWith_16 : decode cX6_columnsWith 16 = .ok (.ifCond .le 9, 3) := by decide +kernel
theorem dX6_columnsWith_19 : decode cX6_columnsWith 19 = .ok (.iconst 1, 1) := by decide +kernel
theorem dX6_columnsWith_20 : decode cX6_columnsWith 20 = .ok (.iload_n 2, 1) := by decide +kernel
theorem dX6_columnsWith_21 : decode cX6_columnsWith 21 = .ok (.ishl, 1) := by decide +kernel
theorem dX6_columnsWith_22 : decode cX6_columnsWith 22 = .ok (.goto 4, 3) := by decide +kernel
theorem dX6_columnsWith_25 : decode cX6_columnsWith 25 = .ok (.iconst 0, 1) := by decide +kernel
theorem dX6_columnsWith_26 : decode cX6_columnsWith 26 = .ok (.ior, 1) := by decide +kernel
theorem dX6_columnsWith_27 : decode cX6_columnsWith 27 = .ok (.istore_n 1, 1) := by decide +kernel
theorem dX6_columnsWith_28 : decode cX6_columnsWith 28 = .ok (.iinc 2 1, 3) := by decide +kernel
theorem dX6_columnsWith_31 : decode cX6_columnsWith 31 = .ok (.goto (-27), 3) := by decide +kernel
theorem dX6_columnsWith_34 : decode cX6_columnsWith 34 = .ok (.iload_n 1, 1) := by decide +kernel
theorem dX6_columnsWith_35 : decode cX6_columnsWith 35 = .ok (.ireturn, 1) := by decide +kernel
theorem dX6_wet_0 : decode cX6_wet 0 = .ok (.aload_n 0, 1) := by decide +kernel
theorem dX6_wet_1 : decode cX6_wet 1 = .ok (.iconst 0, 1) := by decide +kernel
theorem dX6_wet_2 : decode cX6_wet 2 = .ok (.putfield 50, 3) := by decide +kernel
theorem dX6_wet_5 : decode cX6_wet 5 = .ok (.iload_n 1, 1) := by decide +kernel
theorem dX6_wet_6 : decode cX6_wet 6 = .ok (.i2l, 1) := by decide +kernel
theorem dX6_wet_7 : decode cX6_wet 7 = .ok (.lconst 0, 1) := by decide +kernel
theorem dX6_wet_8 : decode cX6_wet 8 = .ok (.ldc2_w 225, 3) := by decide +kernel
theorem dX6_wet_11 : decode cX6_wet 11 = .ok (.invokestatic 56, 3) := by decide +kernel
theorem dX6_wet_14 : decode cX6_wet 14 = .ok (.ifCond .eq 15, 3) := by decide +kernel
theorem dX6_wet_17 : decode cX6_wet 17 = .ok (.iload_n 2, 1) := by decide +kernel
theorem dX6_wet_18 : decode cX6_wet 18 = .ok (.i2l, 1) := by decide +kernel
theorem dX6_wet_19 : decode cX6_wet 19 = .ok (.lconst 0, 1) := by decide +kernel
theorem dX6_wet_20 : decode cX6_wet 20 = .ok (.ldc2_w 227, 3) := by decide +kernel
theorem dX6_wet_23 : decode cX6_wet 23 = .ok (.invokestatic 56, 3) := by decide +kernel
theorem dX6_wet_26 : decode cX6_wet 26 = .ok (.ifCond .ne 6, 3) := by decide +kernel
theorem dX6_wet_29 : decode cX6_wet 29 = .ok (.bipush (-2), 2) := by decide +kernel
theorem dX6_wet_31 : decode cX6_wet 31 = .ok (.ireturn, 1) := by decide +kernel
theorem dX6_wet_32 : decode cX6_wet 32 = .ok (.aload_n 0, 1) := by decide +kernel
theorem dX6_wet_33 : decode cX6_wet 33 = .ok (.invokevirtual 229, 3) := by decide +kernel
theorem dX6_wet_36 : decode cX6_wet 36 = .ok (.istore 4, 2) := by decide +kernel
theorem dX6_wet_38 : decode cX6_wet 38 = .ok (.iload 4, 2) := by decide +kernel
theorem dX6_wet_40 : decode cX6_wet 40 = .ok (.invokestatic 129, 3) := by decide +kernel
theorem dX6_wet_43 : decode cX6_wet 43 = .ok (.istore 5, 2) := by decide +kernel
theorem dX6_wet_45 : decode cX6_wet 45 = .ok (.iconst 0, 1) := by decide +kernel
theorem dX6_wet_46 : decode cX6_wet 46 = .ok (.istore 6, 2) := by decide +kernel
theorem dX6_wet_48 : decode cX6_wet 48 = .ok (.iconst 0, 1) := by decide +kernel
theorem dX6_wet_49 : decode cX6_wet 49 = .ok (.istore 7, 2) := by decide +kernel
theorem dX6_wet_51 : decode cX6_wet 51 = .ok (.iload 7, 2) := by decide +kernel
theorem dX6_wet_53 : decode cX6_wet 53 = .ok (.bipush 16, 2) := by decide +kernel
theorem dX6_wet_55 : decode cX6_wet 55 = .ok (.if_icmp .ge 112, 3) := by decide +kernel
theorem dX6_wet_58 : decode cX6_wet 58 = .ok (.iload 7, 2) := by decide +kernel
theorem dX6_wet_60 : decode cX6_wet 60 = .ok (.iload 4, 2) := by decide +kernel
theorem dX6_wet_62 : decode cX6_wet 62 = .ok (.iconst (-1), 1) := by decide +kernel
theorem dX6_wet_63 : decode cX6_wet 63 = .ok (.ixor, 1) := by decide +kernel
theorem dX6_wet_64 : decode cX6_wet 64 = .ok (.iand, 1) := by decide +kernel
theorem dX6_wet_65 : decode cX6_wet 65 = .ok (.ifCond .ne 96, 3) := by decide +kernel
theorem dX6_wet_68 : decode cX6_wet 68 = .ok (.aload_n 0, 1) := by decide +kernel
theorem dX6_wet_69 : decode cX6_wet 69 = .ok (.invokevirtual 132, 3) := by decide +kernel
theorem dX6_wet_72 : decode cX6_wet 72 = .ok (.iconst 0, 1) := by decide +kernel
theorem dX6_wet_73 : decode cX6_wet 73 = .ok (.istore 8, 2) := by decide +kernel
theorem dX6_wet_75 : decode cX6_wet 75 = .ok (.iload 8, 2) := by decide +kernel
theorem dX6_wet_77 : decode cX6_wet 77 = .ok (.iconst 4, 1) := by decide +kernel
theorem dX6_wet_78 : decode cX6_wet 78 = .ok (.if_icmp .ge 26, 3) := by decide +kernel
theorem dX6_wet_81 : decode cX6_wet 81 = .ok (.aload_n 0, 1) := by decide +kernel
theorem dX6_wet_82 : decode cX6_wet 82 = .ok (.getfield 25, 3) := by decide +kernel
theorem dX6_wet_85 : decode cX6_wet 85 = .ok (.iload 8, 2) := by decide +kernel
theorem dX6_wet_87 : decode cX6_wet 87 = .ok (.dup2, 1) := by decide +kernel
theorem dX6_wet_88 : decode cX6_wet 88 = .ok (.iaload, 1) := by decide +kernel
theorem dX6_wet_89 : decode cX6_wet 89 = .ok (.iload 7, 2) := by decide +kernel
theorem dX6_wet_91 : decode cX6_wet 91 = .ok (.iload 8, 2) := by decide +kernel
theorem dX6_wet_93 : decode cX6_wet 93 = .ok (.ishr, 1) := by decide +kernel
theorem dX6_wet_94 : decode cX6_wet 94 = .ok (.iconst 1, 1) := by decide +kernel
theorem dX6_wet_95 : decode cX6_wet 95 = .ok (.iand, 1) := by decide +kernel
theorem dX6_wet_96 : decode cX6_wet 96 = .ok (.isub, 1) := by decide +kernel
theorem dX6_wet_97 : decode cX6_wet 97 = .ok (.iastore, 1) := by decide +kernel
theorem dX6_wet_98 : decode cX6_wet 98 = .ok (.iinc 8 1, 3) := by decide +kernel
theorem dX6_wet_101 : decode cX6_wet 101 = .ok (.goto (-26), 3) := by decide +kernel
theorem dX6_wet_104 : decode cX6_wet 104 = .ok (.aload_n 0, 1) := by decide +kernel
theorem dX6_wet_105 : decode cX6_wet 105 = .ok (.aload_n 0, 1) := by decide +kernel
theorem dX6_wet_106 : decode cX6_wet 106 = .ok (.getfield 25, 3) := by decide +kernel
theorem dX6_wet_109 : decode cX6_wet 109 = .ok (.invokevirtual 135, 3) := by decide +kernel
theorem dX6_wet_112 : decode cX6_wet 112 = .ok (.pop, 1) := by decide +kernel
theorem dX6_wet_113 : decode cX6_wet 113 = .ok (.iload 7, 2) := by decide +kernel
theorem dX6_wet_115 : decode cX6_wet 115 = .ok (.invokestatic 129, 3) := by decide +kernel
theorem dX6_wet_118 : decode cX6_wet 118 = .ok (.istore 8, 2) := by decide +kernel
theorem dX6_wet_120 : decode cX6_wet 120 = .ok (.iload 6, 2) := by decide +kernel
theorem dX6_wet_122 : decode cX6_wet 122 = .ok (.aload_n 0, 1) := by decide +kernel
theorem dX6_wet_123 : decode cX6_wet 123 = .ok (.getfield 25, 3) := by decide +kernel
theorem dX6_wet_126 : decode cX6_wet 126 = .ok (.iconst 5, 1) := by decide +kernel
theorem dX6_wet_127 : decode cX6_wet 127 = .ok (.iaload, 1) := by decide +kernel
theorem dX6_wet_128 : decode cX6_wet 128 = .ok (.invokestatic 129, 3) := by decide +kernel
theorem dX6_wet_131 : decode cX6_wet 131 = .ok (.iload_n 1, 1) := by decide +kernel
theorem dX6_wet_132 : decode cX6_wet 132 = .ok (.if_icmp .lt 25, 3) := by decide +kernel
theorem dX6_wet_135 : decode cX6_wet 135 = .ok (.iload_n 2, 1) := by decide +kernel
theorem dX6_wet_136 : decode cX6_wet 136 = .ok (.iload 8, 2) := by decide +kernel
theorem dX6_wet_138 : decode cX6_wet 138 = .ok (.invokestatic 166, 3) := by decide +kernel
theorem dX6_wet_141 : decode cX6_wet 141 = .ok (.bipush 10, 2) := by decide +kernel
theorem dX6_wet_143 : decode cX6_wet 143 = .ok (.iload_n 2, 1) := by decide +kernel
theorem dX6_wet_144 : decode cX6_wet 144 = .ok (.isub, 1) := by decide +kernel
theorem dX6_wet_145 : decode cX6_wet 145 = .ok (.iload 5, 2) := by decide +kernel
theorem dX6_wet_147 : decode cX6_wet 147 = .ok (.iload 8, 2) := by decide +kernel
theorem dX6_wet_149 : decode cX6_wet 149 = .ok (.isub, 1) := by decide +kernel
theorem dX6_wet_150 : decode cX6_wet 150 = .ok (.invokestatic 166, 3) := by decide +kernel
theorem dX6_wet_153 : decode cX6_wet 153 = .ok (.imul, 1) := by decide +kernel
theorem dX6_wet_154 : decode cX6_wet 154 = .ok (.goto 4, 3) := by decide +kernel
theorem dX6_wet_157 : decode cX6_wet 157 = .ok (.iconst 0, 1) := by decide +kernel
theorem dX6_wet_158 : decode cX6_wet 158 = .ok (.iadd, 1) := by decide +kernel
theorem dX6_wet_159 : decode cX6_wet 159 = .ok (.istore 6, 2) := by decide +kernel
theorem dX6_wet_161 : decode cX6_wet 161 = .ok (.iinc 7 1, 3) := by decide +kernel
theorem dX6_wet_164 : decode cX6_wet 164 = .ok (.goto (-113), 3) := by decide +kernel
theorem dX6_wet_167 : decode cX6_wet 167 = .ok (.iload 6, 2) := by decide +kernel
theorem dX6_wet_169 : decode cX6_wet 169 = .ok (.bipush 10, 2) := by decide +kernel
theorem dX6_wet_171 : decode cX6_wet 171 = .ok (.iload 5, 2) := by decide +kernel
theorem dX6_wet_173 : decode cX6_wet 173 = .ok (.invokestatic 166, 3) := by decide +kernel
theorem dX6_wet_176 : decode cX6_wet 176 = .ok (.iload_n 3, 1) := by decide +kernel
theorem dX6_wet_177 : decode cX6_wet 177 = .ok (.invokestatic 200, 3) := by decide +kernel
theorem dX6_wet_180 : decode cX6_wet 180 = .ok (.ireturn, 1) := by decide +kernel
theorem dX6_seed_0 : decode cX6_seed 0 = .ok (.aload_n 0, 1) := by decide +kernel
theorem dX6_seed_1 : decode cX6_seed 1 = .ok (.iconst 0, 1) := by decide +kernel
theorem dX6_seed_2 : decode cX6_seed 2 = .ok (.putfield 50, 3) := by decide +kernel
theorem dX6_seed_5 : decode cX6_seed 5 = .ok (.aload_n 0, 1) := by decide +kernel
theorem dX6_seed_6 : decode cX6_seed 6 = .ok (.getfield 232, 3) := by decide +kernel
theorem dX6_seed_9 : decode cX6_seed 9 = .ok (.lstore_n 3, 1) := by decide +kernel
theorem dX6_seed_10 : decode cX6_seed 10 = .ok (.aload_n 0, 1) := by decide +kernel
theorem dX6_seed_11 : decode cX6_seed 11 = .ok (.lload_n 1, 1) := by decide +kernel
theorem dX6_seed_12 : decode cX6_seed 12 = .ok (.putfield 232, 3) := by decide +kernel
theorem dX6_seed_15 : decode cX6_seed 15 = .ok (.lload_n 3, 1) := by decide +kernel
theorem dX6_seed_16 : decode cX6_seed 16 = .ok (.lreturn, 1) := by decide +kernel
theorem dX6_terms_0 : decode cX6_terms 0 = .ok (.aload_n 0, 1) := by decide +kernel
theorem dX6_terms_1 : decode cX6_terms 1 = .ok (.iconst 0, 1) := by decide +kernel
theorem dX6_terms_2 : decode cX6_terms 2 = .ok (.putfield 50, 3) := by decide +kernel
theorem dX6_terms_5 : decode cX6_terms 5 = .ok (.iload_n 1, 1) := by decide +kernel
theorem dX6_terms_6 : decode cX6_terms 6 = .ok (.i2l, 1) := by decide +kernel
theorem dX6_terms_7 : decode cX6_terms 7 = .ok (.lconst 1, 1) := by decide +kernel
theorem dX6_terms_8 : decode cX6_terms 8 = .ok (.ldc2_w 236, 3) := by decide +kernel
theorem dX6_terms_11 : decode cX6_terms 11 = .ok (.invokestatic 56, 3) := by decide +kernel
theorem dX6_terms_14 : decode cX6_terms 14 = .ok (.ifCond .ne 6, 3) := by decide +kernel
theorem dX6_terms_17 : decode cX6_terms 17 = .ok (.bipush (-2), 2) := by decide +kernel
theorem dX6_terms_19 : decode cX6_terms 19 = .ok (.ireturn, 1) := by decide +kernel
theorem dX6_terms_20 : decode cX6_terms 20 = .ok (.aload_n 0, 1) := by decide +kernel
theorem dX6_terms_21 : decode cX6_terms 21 = .ok (.invokevirtual 132, 3) := by decide +kernel
theorem dX6_terms_24 : decode cX6_terms 24 = .ok (.iconst 0, 1) := by decide +kernel
theorem dX6_terms_25 : decode cX6_terms 25 = .ok (.istore_n 2, 1) := by decide +kernel
theorem dX6_terms_26 : decode cX6_terms 26 = .ok (.iconst 0, 1) := by decide +kernel
theorem dX6_terms_27 : decode cX6_terms 27 = .ok (.istore_n 3, 1) := by decide +kernel
theorem dX6_terms_28 : decode cX6_terms 28 = .ok (.iload_n 3, 1) := by decide +kernel
theorem dX6_terms_29 : decode cX6_terms 29 = .ok (.iload_n 1, 1) := by decide +kernel
theorem dX6_terms_30 : decode cX6_terms 30 = .ok (.if_icmp .ge 94, 3) := by decide +kernel
theorem dX6_terms_33 : decode cX6_terms 33 = .ok (.aload_n 0, 1) := by decide +kernel
theorem dX6_terms_34 : decode cX6_terms 34 = .ok (.aload_n 0, 1) := by decide +kernel
theorem dX6_terms_35 : decode cX6_terms 35 = .ok (.getfield 232, 3) := by decide +kernel
theorem dX6_terms_38 : decode cX6_terms 38 = .ok (.ldc2_w 238, 3) := by decide +kernel
theorem dX6_terms_41 : decode cX6_terms 41 = .ok (.lmul, 1) := by decide +kernel
theorem dX6_terms_42 : decode cX6_terms 42 = .ok (.ldc2_w 240, 3) := by decide +kernel
theorem dX6_terms_45 : decode cX6_terms 45 = .ok (.ladd, 1) := by decide +kernel
theorem dX6_terms_46 : decode cX6_terms 46 = .ok (.putfield 232, 3) := by decide +kernel
theorem dX6_terms_49 : decode cX6_terms 49 = .ok (.aload_n 0, 1) := by decide +kernel
theorem dX6_terms_50 : decode cX6_terms 50 = .ok (.getfield 232, 3) := by decide +kernel
theorem dX6_terms_53 : decode cX6_terms 53 = .ok (.bipush 33, 2) := by decide +kernel
theorem dX6_terms_55 : decode cX6_terms 55 = .ok (.lushr, 1) := by decide +kernel
theorem dX6_terms_56 : decode cX6_terms 56 = .ok (.ldc2_w 242, 3) := by decide +kernel
theorem dX6_terms_59 : decode cX6_terms 59 = .ok (.lrem, 1) := by decide +kernel
theorem dX6_terms_60 : decode cX6_terms 60 = .ok (.l2i, 1) := by decide +kernel
theorem dX6_terms_61 : decode cX6_terms 61 = .ok (.istore 4, 2) := by decide +kernel
theorem dX6_terms_63 : decode cX6_terms 63 = .ok (.aload_n 0, 1) := by decide +kernel
theorem dX6_terms_64 : decode cX6_terms 64 = .ok (.iload 4, 2) := by decide +kernel
theorem dX6_terms_66 : decode cX6_terms 66 = .ok (.bipush 9, 2) := by decide +kernel
theorem dX6_terms_68 : decode cX6_terms 68 = .ok (.if_icmp .ge 13, 3) := by decide +kernel
theorem dX6_terms_71 : decode cX6_terms 71 = .ok (.bipush 100, 2) := by decide +kernel
theorem dX6_terms_73 : decode cX6_terms 73 = .ok (.iload 4, 2) := by decide +kernel
theorem dX6_terms_75 : decode cX6_terms 75 = .ok (.iconst 4, 1) := by decide +kernel
theorem dX6_terms_76 : decode cX6_terms 76 = .ok (.irem, 1) := by decide +kernel
theorem dX6_terms_77 : decode cX6_terms 77 = .ok (.iadd, 1) := by decide +kernel
theorem dX6_terms_78 : decode cX6_terms 78 = .ok (.goto 24, 3) := by decide +kernel
theorem dX6_terms_81 : decode cX6_terms 81 = .ok (.iload 4, 2) := by decide +kernel
theorem dX6_terms_83 : decode cX6_terms 83 = .ok (.bipush 15, 2) := by decide +kernel
theorem dX6_terms_85 : decode cX6_terms 85 = .ok (.if_icmp .ge 14, 3) := by decide +kernel
theorem dX6_terms_88 : decode cX6_terms 88 = .ok (.sipush 200, 3) := by decide +kernel
theorem dX6_terms_91 : decode cX6_terms 91 = .ok (.iload 4, 2) := by decide +kernel
theorem dX6_terms_93 : decode cX6_terms 93 = .ok (.iconst 4, 1) := by decide +kernel
theorem dX6_terms_94 : decode cX6_terms 94 = .ok (.irem, 1) := by decide +kernel
theorem dX6_terms_95 : decode cX6_terms 95 = .ok (.iadd, 1) := by decide +kernel
theorem dX6_terms_96 : decode cX6_terms 96 = .ok (.goto 6, 3) := by decide +kernel
theorem dX6_terms_99 : decode cX6_terms 99 = .ok (.sipush 300, 3) := by decide +kernel
theorem dX6_terms_102 : decode cX6_terms 102 = .ok (.invokevirtual 191, 3) := by decide +kernel
theorem dX6_terms_105 : decode cX6_terms 105 = .ok (.pop, 1) := by decide +kernel
theorem dX6_terms_106 : decode cX6_terms 106 = .ok (.iload_n 2, 1) := by decide +kernel
theorem dX6_terms_107 : decode cX6_terms 107 = .ok (.aload_n 0, 1) := by decide +kernel
theorem dX6_terms_108 : decode cX6_terms 108 = .ok (.getfield 25, 3) := by decide +kernel
theorem dX6_terms_111 : decode cX6_terms 111 = .ok (.iconst 5, 1) := by decide +kernel
theorem dX6_terms_112 : decode cX6_terms 112 = .ok (.iaload, 1) := by decide +kernel
theorem dX6_terms_113 : decode cX6_terms 113 = .ok (.invokestatic 129, 3) := by decide +kernel
theorem dX6_terms_116 : decode cX6_terms 116 = .ok (.iadd, 1) := by decide +kernel
theorem dX6_terms_117 : decode cX6_terms 117 = .ok (.istore_n 2, 1) := by decide +kernel
theorem dX6_terms_118 : decode cX6_terms 118 = .ok (.iinc 3 1, 3) := by decide +kernel
theorem dX6_terms_121 : decode cX6_terms 121 = .ok (.goto (-93), 3) := by decide +kernel
theorem dX6_terms_124 : decode cX6_terms 124 = .ok (.iload_n 2, 1) := by decide +kernel
theorem dX6_terms_125 : decode cX6_terms 125 = .ok (.ireturn, 1) := by decide +kernel
theorem dX6_keep_0 : decode cX6_keep 0 = .ok (.aload_n 0, 1) := by decide +kernel
theorem dX6_keep_1 : decode cX6_keep 1 = .ok (.iconst 0, 1) := by decide +kernel
theorem dX6_keep_2 : decode cX6_keep 2 = .ok (.putfield 50, 3) := by decide +kernel
theorem dX6_keep_5 : decode cX6_keep 5 = .ok (.iload_n 1, 1) := by decide +kernel
theorem dX6_keep_6 : decode cX6_keep 6 = .ok (.i2l, 1) := by decide +kernel
theorem dX6_keep_7 : decode cX6_keep 7 = .ok (.lconst 0, 1) := by decide +kernel
theorem dX6_keep_8 : decode cX6_keep 8 = .ok (.lconst 1, 1) := by decide +kernel
theorem dX6_keep_9 : decode cX6_keep 9 = .ok (.invokestatic 56, 3) := by decide +kernel
theorem dX6_keep_12 : decode cX6_keep 12 = .ok (.ifCond .ne 5, 3) := by decide +kernel
theorem dX6_keep_15 : decode cX6_keep 15 = .ok (.iconst (-1), 1) := by decide +kernel
theorem dX6_keep_16 : decode cX6_keep 16 = .ok (.ireturn, 1) := by decide +kernel
theorem dX6_keep_17 : decode cX6_keep 17 = .ok (.aload_n 0, 1) := by decide +kernel
theorem dX6_keep_18 : decode cX6_keep 18 = .ok (.getfield 34, 3) := by decide +kernel
theorem dX6_keep_21 : decode cX6_keep 21 = .ok (.iload_n 1, 1) := by decide +kernel
theorem dX6_keep_22 : decode cX6_keep 22 = .ok (.iconst 1, 1) := by decide +kernel
theorem dX6_keep_23 : decode cX6_keep 23 = .ok (.bastore, 1) := by decide +kernel
theorem dX6_keep_24 : decode cX6_keep 24 = .ok (.iconst 0, 1) := by decide +kernel
theorem dX6_keep_25 : decode cX6_keep 25 = .ok (.istore_n 2, 1) := by decide +kernel
theorem dX6_keep_26 : decode cX6_keep 26 = .ok (.iload_n 2, 1) := by decide +kernel
theorem dX6_keep_27 : decode cX6_keep 27 = .ok (.bipush 7, 2) := by decide +kernel
theorem dX6_keep_29 : decode cX6_keep 29 = .ok (.if_icmp .ge 26, 3) := by decide +kernel
theorem dX6_keep_32 : decode cX6_keep 32 = .ok (.aload_n 0, 1) := by decide +kernel
theorem dX6_keep_33 : decode cX6_keep 33 = .ok (.getfield 31, 3) := by decide +kernel
theorem dX6_keep_36 : decode cX6_keep 36 = .ok (.bipush 7, 2) := by decide +kernel
theorem dX6_keep_38 : decode cX6_keep 38 = .ok (.iload_n 1, 1) := by decide +kernel
theorem dX6_keep_39 : decode cX6_keep 39 = .ok (.imul, 1) := by decide +kernel
theorem dX6_keep_40 : decode cX6_keep 40 = .ok (.iload_n 2, 1) := by decide +kernel
theorem dX6_keep_41 : decode cX6_keep 41 = .ok (.iadd, 1) := by decide +kernel
theorem dX6_keep_42 : decode cX6_keep 42 = .ok (.aload_n 0, 1) := by decide +kernel
theorem dX6_keep_43 : decode cX6_keep 43 = .ok (.getfield 22, 3) := by decide +kernel
theorem dX6_keep_46 : decode cX6_keep 46 = .ok (.iload_n 2, 1) := by decide +kernel
theorem dX6_keep_47 : decode cX6_keep 47 = .ok (.iaload, 1) := by decide +kernel
theorem dX6_keep_48 : decode cX6_keep 48 = .ok (.iastore, 1) := by decide +kernel
theorem dX6_keep_49 : decode cX6_keep 49 = .ok (.iinc 2 1, 3) := by decide +kernel
theorem dX6_keep_52 : decode cX6_keep 52 = .ok (.goto (-26), 3) := by decide +kernel
theorem dX6_keep_55 : decode cX6_keep 55 = .ok (.aload_n 0, 1) := by decide +kernel
theorem dX6_keep_56 : decode cX6_keep 56 = .ok (.getfield 22, 3) := by decide +kernel
theorem dX6_keep_59 : decode cX6_keep 59 = .ok (.invokestatic 138, 3) := by decide +kernel
theorem dX6_keep_62 : decode cX6_keep 62 = .ok (.ireturn, 1) := by decide +kernel
theorem dX6_again_0 : decode cX6_again 0 = .ok (.aload_n 0, 1) := by decide +kernel
theorem dX6_again_1 : decode cX6_again 1 = .ok (.iconst 0, 1) := by decide +kernel
theorem dX6_again_2 : decode cX6_again 2 = .ok (.putfield 50, 3) := by decide +kernel
theorem dX6_again_5 : decode cX6_again 5 = .ok (.iload_n 1, 1) := by decide +kernel
theorem dX6_again_6 : decode cX6_again 6 = .ok (.i2l, 1) := by decide +kernel
theorem dX6_again_7 : decode cX6_again 7 = .ok (.lconst 0, 1) := by decide +kernel
theorem dX6_again_8 : decode cX6_again 8 = .ok (.lconst 1, 1) := by decide +kernel
theorem dX6_again_9 : decode cX6_again 9 = .ok (.invokestatic 56, 3) := by decide +kernel
theorem dX6_again_12 : decode cX6_again 12 = .ok (.ifCond .ne 5, 3) := by decide +kernel
theorem dX6_again_15 : decode cX6_again 15 = .ok (.iconst (-1), 1) := by decide +kernel
theorem dX6_again_16 : decode cX6_again 16 = .ok (.ireturn, 1) := by decide +kernel
theorem dX6_again_17 : decode cX6_again 17 = .ok (.aload_n 0, 1) := by decide +kernel
theorem dX6_again_18 : decode cX6_again 18 = .ok (.getfield 34, 3) := by decide +kernel
theorem dX6_again_21 : decode cX6_again 21 = .ok (.iload_n 1, 1) := by decide +kernel
theorem dX6_again_22 : decode cX6_again 22 = .ok (.baload, 1) := by decide +kernel
theorem dX6_again_23 : decode cX6_again 23 = .ok (.ifCond .ne 6, 3) := by decide +kernel
theorem dX6_again_26 : decode cX6_again 26 = .ok (.bipush (-3), 2) := by decide +kernel
theorem dX6_again_28 : decode cX6_again 28 = .ok (.ireturn, 1) := by decide +kernel
theorem dX6_again_29 : decode cX6_again 29 = .ok (.iconst 0, 1) := by decide +kernel
theorem dX6_again_30 : decode cX6_again 30 = .ok (.istore_n 2, 1) := by decide +kernel
theorem dX6_again_31 : decode cX6_again 31 = .ok (.iload_n 2, 1) := by decide +kernel
theorem dX6_again_32 : decode cX6_again 32 = .ok (.bipush 7, 2) := by decide +kernel
theorem dX6_again_34 : decode cX6_again 34 = .ok (.if_icmp .ge 26, 3) := by decide +kernel
theorem dX6_again_37 : decode cX6_again 37 = .ok (.aload_n 0, 1) := by decide +kernel
theorem dX6_again_38 : decode cX6_again 38 = .ok (.getfield 22, 3) := by decide +kernel
theorem dX6_again_41 : decode cX6_again 41 = .ok (.iload_n 2, 1) := by decide +kernel
theorem dX6_again_42 : decode cX6_again 42 = .ok (.aload_n 0, 1) := by decide +kernel
theorem dX6_again_43 : decode cX6_again 43 = .ok (.getfield 31, 3) := by decide +kernel
theorem dX6_again_46 : decode cX6_again 46 = .ok (.bipush 7, 2) := by decide +kernel
theorem dX6_again_48 : decode cX6_again 48 = .ok (.iload_n 1, 1) := by decide +kernel
theorem dX6_again_49 : decode cX6_again 49 = .ok (.imul, 1) := by decide +kernel
theorem dX6_again_50 : decode cX6_again 50 = .ok (.iload_n 2, 1) := by decide +kernel
theorem dX6_again_51 : decode cX6_again 51 = .ok (.iadd, 1) := by decide +kernel
theorem dX6_again_52 : decode cX6_again 52 = .ok (.iaload, 1) := by decide +kernel
theorem dX6_again_53 : decode cX6_again 53 = .ok (.iastore, 1) := by decide +kernel
theorem dX6_again_54 : decode cX6_again 54 = .ok (.iinc 2 1, 3) := by decide +kernel
theorem dX6_again_57 : decode cX6_again 57 = .ok (.goto (-26), 3) := by decide +kernel
theorem dX6_again_60 : decode cX6_again 60 = .ok (.aload_n 0, 1) := by decide +kernel
theorem dX6_again_61 : decode cX6_again 61 = .ok (.iconst 0, 1) := by decide +kernel
theorem dX6_again_62 : decode cX6_again 62 = .ok (.putfield 98, 3) := by decide +kernel
theorem dX6_again_65 : decode cX6_again 65 = .ok (.aload_n 0, 1) := by decide +kernel
theorem dX6_again_66 : decode cX6_again 66 = .ok (.getfield 22, 3) := by decide +kernel
theorem dX6_again_69 : decode cX6_again 69 = .ok (.invokestatic 138, 3) := by decide +kernel
theorem dX6_again_72 : decode cX6_again 72 = .ok (.ireturn, 1) := by decide +kernel
