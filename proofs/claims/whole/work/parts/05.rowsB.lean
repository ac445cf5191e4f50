theorem dX5_init_0 : decode cX5_init 0 = .ok (.aload_n 0, 1) := by decide +kernel
theorem dX5_init_1 : decode cX5_init 1 = .ok (.invokespecial 1, 3) := by decide +kernel
theorem dX5_init_4 : decode cX5_init 4 = .ok (.aload_n 0, 1) := by decide +kernel
theorem dX5_init_5 : decode cX5_init 5 = .ok (.new 7, 3) := by decide +kernel
theorem dX5_init_8 : decode cX5_init 8 = .ok (.dup, 1) := by decide +kernel
theorem dX5_init_9 : decode cX5_init 9 = .ok (.invokespecial 9, 3) := by decide +kernel
theorem dX5_init_12 : decode cX5_init 12 = .ok (.putfield 10, 3) := by decide +kernel
theorem dX5_init_15 : decode cX5_init 15 = .ok (.aload_n 0, 1) := by decide +kernel
theorem dX5_init_16 : decode cX5_init 16 = .ok (.new 16, 3) := by decide +kernel
theorem dX5_init_19 : decode cX5_init 19 = .ok (.dup, 1) := by decide +kernel
theorem dX5_init_20 : decode cX5_init 20 = .ok (.invokespecial 18, 3) := by decide +kernel
theorem dX5_init_23 : decode cX5_init 23 = .ok (.putfield 19, 3) := by decide +kernel
theorem dX5_init_26 : decode cX5_init 26 = .ok (.aload_n 0, 1) := by decide +kernel
theorem dX5_init_27 : decode cX5_init 27 = .ok (.new 23, 3) := by decide +kernel
theorem dX5_init_30 : decode cX5_init 30 = .ok (.dup, 1) := by decide +kernel
theorem dX5_init_31 : decode cX5_init 31 = .ok (.invokespecial 25, 3) := by decide +kernel
theorem dX5_init_34 : decode cX5_init 34 = .ok (.putfield 26, 3) := by decide +kernel
theorem dX5_init_37 : decode cX5_init 37 = .ok (.aload_n 0, 1) := by decide +kernel
theorem dX5_init_38 : decode cX5_init 38 = .ok (.new 30, 3) := by decide +kernel
theorem dX5_init_41 : decode cX5_init 41 = .ok (.dup, 1) := by decide +kernel
theorem dX5_init_42 : decode cX5_init 42 = .ok (.invokespecial 32, 3) := by decide +kernel
theorem dX5_init_45 : decode cX5_init 45 = .ok (.putfield 33, 3) := by decide +kernel
theorem dX5_init_48 : decode cX5_init 48 = .ok (.aload_n 0, 1) := by decide +kernel
theorem dX5_init_49 : decode cX5_init 49 = .ok (.iconst 2, 1) := by decide +kernel
theorem dX5_init_50 : decode cX5_init 50 = .ok (.newarray .boolean, 2) := by decide +kernel
theorem dX5_init_52 : decode cX5_init 52 = .ok (.putfield 37, 3) := by decide +kernel
theorem dX5_init_55 : decode cX5_init 55 = .ok (.aload_n 0, 1) := by decide +kernel
theorem dX5_init_56 : decode cX5_init 56 = .ok (.iconst 2, 1) := by decide +kernel
theorem dX5_init_57 : decode cX5_init 57 = .ok (.newarray .int, 2) := by decide +kernel
theorem dX5_init_59 : decode cX5_init 59 = .ok (.putfield 41, 3) := by decide +kernel
theorem dX5_init_62 : decode cX5_init 62 = .ok (.aload_n 0, 1) := by decide +kernel
theorem dX5_init_63 : decode cX5_init 63 = .ok (.iconst 2, 1) := by decide +kernel
theorem dX5_init_64 : decode cX5_init 64 = .ok (.newarray .int, 2) := by decide +kernel
theorem dX5_init_66 : decode cX5_init 66 = .ok (.putfield 45, 3) := by decide +kernel
theorem dX5_init_69 : decode cX5_init 69 = .ok (.aload_n 0, 1) := by decide +kernel
theorem dX5_init_70 : decode cX5_init 70 = .ok (.iconst 0, 1) := by decide +kernel
theorem dX5_init_71 : decode cX5_init 71 = .ok (.putfield 48, 3) := by decide +kernel
theorem dX5_init_74 : decode cX5_init 74 = .ok (.aload_n 0, 1) := by decide +kernel
theorem dX5_init_75 : decode cX5_init 75 = .ok (.iconst 0, 1) := by decide +kernel
theorem dX5_init_76 : decode cX5_init 76 = .ok (.putfield 52, 3) := by decide +kernel
theorem dX5_init_79 : decode cX5_init 79 = .ok (.aload_n 0, 1) := by decide +kernel
theorem dX5_init_80 : decode cX5_init 80 = .ok (.lconst 0, 1) := by decide +kernel
theorem dX5_init_81 : decode cX5_init 81 = .ok (.putfield 55, 3) := by decide +kernel
theorem dX5_init_84 : decode cX5_init 84 = .ok (.return_, 1) := by decide +kernel
theorem dX5_write_0 : decode cX5_write 0 = .ok (.iload_n 1, 1) := by decide +kernel
theorem dX5_write_1 : decode cX5_write 1 = .ok (.ifCond .lt 10, 3) := by decide +kernel
theorem dX5_write_4 : decode cX5_write 4 = .ok (.iload_n 1, 1) := by decide +kernel
theorem dX5_write_5 : decode cX5_write 5 = .ok (.sipush 255, 3) := by decide +kernel
theorem dX5_write_8 : decode cX5_write 8 = .ok (.if_icmp .le 6, 3) := by decide +kernel
theorem dX5_write_11 : decode cX5_write 11 = .ok (.bipush (-2), 2) := by decide +kernel
theorem dX5_write_13 : decode cX5_write 13 = .ok (.ireturn, 1) := by decide +kernel
theorem dX5_write_14 : decode cX5_write 14 = .ok (.aload_n 0, 1) := by decide +kernel
theorem dX5_write_15 : decode cX5_write 15 = .ok (.getfield 10, 3) := by decide +kernel
theorem dX5_write_18 : decode cX5_write 18 = .ok (.iload_n 1, 1) := by decide +kernel
theorem dX5_write_19 : decode cX5_write 19 = .ok (.invokevirtual 59, 3) := by decide +kernel
theorem dX5_write_22 : decode cX5_write 22 = .ok (.ifCond .eq 13, 3) := by decide +kernel
theorem dX5_write_25 : decode cX5_write 25 = .ok (.aload_n 0, 1) := by decide +kernel
theorem dX5_write_26 : decode cX5_write 26 = .ok (.getfield 10, 3) := by decide +kernel
theorem dX5_write_29 : decode cX5_write 29 = .ok (.getfield 63, 3) := by decide +kernel
theorem dX5_write_32 : decode cX5_write 32 = .ok (.goto 5, 3) := by decide +kernel
theorem dX5_write_35 : decode cX5_write 35 = .ok (.bipush (-4), 2) := by decide +kernel
theorem dX5_write_37 : decode cX5_write 37 = .ok (.ireturn, 1) := by decide +kernel
theorem dX5_wipe_0 : decode cX5_wipe 0 = .ok (.aload_n 0, 1) := by decide +kernel
theorem dX5_wipe_1 : decode cX5_wipe 1 = .ok (.getfield 10, 3) := by decide +kernel
theorem dX5_wipe_4 : decode cX5_wipe 4 = .ok (.getfield 63, 3) := by decide +kernel
theorem dX5_wipe_7 : decode cX5_wipe 7 = .ok (.istore_n 1, 1) := by decide +kernel
theorem dX5_wipe_8 : decode cX5_wipe 8 = .ok (.aload_n 0, 1) := by decide +kernel
theorem dX5_wipe_9 : decode cX5_wipe 9 = .ok (.getfield 10, 3) := by decide +kernel
theorem dX5_wipe_12 : decode cX5_wipe 12 = .ok (.iconst 0, 1) := by decide +kernel
theorem dX5_wipe_13 : decode cX5_wipe 13 = .ok (.putfield 63, 3) := by decide +kernel
theorem dX5_wipe_16 : decode cX5_wipe 16 = .ok (.iload_n 1, 1) := by decide +kernel
theorem dX5_wipe_17 : decode cX5_wipe 17 = .ok (.ireturn, 1) := by decide +kernel
theorem dX5_fault_0 : decode cX5_fault 0 = .ok (.aload_n 0, 1) := by decide +kernel
theorem dX5_fault_1 : decode cX5_fault 1 = .ok (.getfield 10, 3) := by decide +kernel
theorem dX5_fault_4 : decode cX5_fault 4 = .ok (.invokevirtual 66, 3) := by decide +kernel
theorem dX5_fault_7 : decode cX5_fault 7 = .ok (.ireturn, 1) := by decide +kernel
theorem dX5_idea_0 : decode cX5_idea 0 = .ok (.aload_n 0, 1) := by decide +kernel
theorem dX5_idea_1 : decode cX5_idea 1 = .ok (.getfield 10, 3) := by decide +kernel
theorem dX5_idea_4 : decode cX5_idea 4 = .ok (.invokevirtual 66, 3) := by decide +kernel
theorem dX5_idea_7 : decode cX5_idea 7 = .ok (.bipush (-9), 2) := by decide +kernel
theorem dX5_idea_9 : decode cX5_idea 9 = .ok (.if_icmp .eq 6, 3) := by decide +kernel
theorem dX5_idea_12 : decode cX5_idea 12 = .ok (.bipush (-3), 2) := by decide +kernel
theorem dX5_idea_14 : decode cX5_idea 14 = .ok (.ireturn, 1) := by decide +kernel
theorem dX5_idea_15 : decode cX5_idea 15 = .ok (.aload_n 0, 1) := by decide +kernel
theorem dX5_idea_16 : decode cX5_idea 16 = .ok (.getfield 19, 3) := by decide +kernel
theorem dX5_idea_19 : decode cX5_idea 19 = .ok (.aload_n 0, 1) := by decide +kernel
theorem dX5_idea_20 : decode cX5_idea 20 = .ok (.getfield 10, 3) := by decide +kernel
theorem dX5_idea_23 : decode cX5_idea 23 = .ok (.invokevirtual 70, 3) := by decide +kernel
theorem dX5_idea_26 : decode cX5_idea 26 = .ok (.aload_n 0, 1) := by decide +kernel
theorem dX5_idea_27 : decode cX5_idea 27 = .ok (.iconst 0, 1) := by decide +kernel
theorem dX5_idea_28 : decode cX5_idea 28 = .ok (.putfield 48, 3) := by decide +kernel
theorem dX5_idea_31 : decode cX5_idea 31 = .ok (.aload_n 0, 1) := by decide +kernel
theorem dX5_idea_32 : decode cX5_idea 32 = .ok (.iconst 0, 1) := by decide +kernel
theorem dX5_idea_33 : decode cX5_idea 33 = .ok (.putfield 52, 3) := by decide +kernel
theorem dX5_idea_36 : decode cX5_idea 36 = .ok (.aload_n 0, 1) := by decide +kernel
theorem dX5_idea_37 : decode cX5_idea 37 = .ok (.getfield 26, 3) := by decide +kernel
theorem dX5_idea_40 : decode cX5_idea 40 = .ok (.iconst 0, 1) := by decide +kernel
theorem dX5_idea_41 : decode cX5_idea 41 = .ok (.putfield 74, 3) := by decide +kernel
theorem dX5_idea_44 : decode cX5_idea 44 = .ok (.iconst 0, 1) := by decide +kernel
theorem dX5_idea_45 : decode cX5_idea 45 = .ok (.istore_n 1, 1) := by decide +kernel
theorem dX5_idea_46 : decode cX5_idea 46 = .ok (.iload_n 1, 1) := by decide +kernel
theorem dX5_idea_47 : decode cX5_idea 47 = .ok (.aload_n 0, 1) := by decide +kernel
theorem dX5_idea_48 : decode cX5_idea 48 = .ok (.getfield 37, 3) := by decide +kernel
theorem dX5_idea_51 : decode cX5_idea 51 = .ok (.arraylength, 1) := by decide +kernel
theorem dX5_idea_52 : decode cX5_idea 52 = .ok (.if_icmp .ge 16, 3) := by decide +kernel
theorem dX5_idea_55 : decode cX5_idea 55 = .ok (.aload_n 0, 1) := by decide +kernel
theorem dX5_idea_56 : decode cX5_idea 56 = .ok (.getfield 37, 3) := by decide +kernel
theorem dX5_idea_59 : decode cX5_idea 59 = .ok (.iload_n 1, 1) := by decide +kernel
theorem dX5_idea_60 : decode cX5_idea 60 = .ok (.iconst 0, 1) := by decide +kernel
theorem dX5_idea_61 : decode cX5_idea 61 = .ok (.bastore, 1) := by decide +kernel
theorem dX5_idea_62 : decode cX5_idea 62 = .ok (.iinc 1 1, 3) := by decide +kernel
theorem dX5_idea_65 : decode cX5_idea 65 = .ok (.goto (-19), 3) := by decide +kernel
theorem dX5_idea_68 : decode cX5_idea 68 = .ok (.bipush 10, 2) := by decide +kernel
theorem dX5_idea_70 : decode cX5_idea 70 = .ok (.aload_n 0, 1) := by decide +kernel
theorem dX5_idea_71 : decode cX5_idea 71 = .ok (.getfield 19, 3) := by decide +kernel
theorem dX5_idea_74 : decode cX5_idea 74 = .ok (.getfield 77, 3) := by decide +kernel
theorem dX5_idea_77 : decode cX5_idea 77 = .ok (.imul, 1) := by decide +kernel
theorem dX5_idea_78 : decode cX5_idea 78 = .ok (.aload_n 0, 1) := by decide +kernel
theorem dX5_idea_79 : decode cX5_idea 79 = .ok (.getfield 19, 3) := by decide +kernel
theorem dX5_idea_82 : decode cX5_idea 82 = .ok (.getfield 80, 3) := by decide +kernel
theorem dX5_idea_85 : decode cX5_idea 85 = .ok (.iadd, 1) := by decide +kernel
theorem dX5_idea_86 : decode cX5_idea 86 = .ok (.ireturn, 1) := by decide +kernel
theorem dX5_about_0 : decode cX5_about 0 = .ok (.iload_n 1, 1) := by decide +kernel
theorem dX5_about_1 : decode cX5_about 1 = .ok (.tableswitch 143 0 8 #[51, 59, 71, 76, 91, 96, 119, 127, 135], 51) := by decide +kernel
theorem dX5_about_52 : decode cX5_about 52 = .ok (.aload_n 0, 1) := by decide +kernel
theorem dX5_about_53 : decode cX5_about 53 = .ok (.getfield 19, 3) := by decide +kernel
theorem dX5_about_56 : decode cX5_about 56 = .ok (.getfield 80, 3) := by decide +kernel
theorem dX5_about_59 : decode cX5_about 59 = .ok (.ireturn, 1) := by decide +kernel
theorem dX5_about_60 : decode cX5_about 60 = .ok (.aload_n 0, 1) := by decide +kernel
theorem dX5_about_61 : decode cX5_about 61 = .ok (.getfield 19, 3) := by decide +kernel
theorem dX5_about_64 : decode cX5_about 64 = .ok (.aload_n 0, 1) := by decide +kernel
theorem dX5_about_65 : decode cX5_about 65 = .ok (.getfield 48, 3) := by decide +kernel
theorem dX5_about_68 : decode cX5_about 68 = .ok (.invokevirtual 83, 3) := by decide +kernel
theorem dX5_about_71 : decode cX5_about 71 = .ok (.ireturn, 1) := by decide +kernel
theorem dX5_about_72 : decode cX5_about 72 = .ok (.aload_n 0, 1) := by decide +kernel
theorem dX5_about_73 : decode cX5_about 73 = .ok (.invokevirtual 87, 3) := by decide +kernel
theorem dX5_about_76 : decode cX5_about 76 = .ok (.ireturn, 1) := by decide +kernel
theorem dX5_about_77 : decode cX5_about 77 = .ok (.aload_n 0, 1) := by decide +kernel
theorem dX5_about_78 : decode cX5_about 78 = .ok (.getfield 19, 3) := by decide +kernel
theorem dX5_about_81 : decode cX5_about 81 = .ok (.aload_n 0, 1) := by decide +kernel
theorem dX5_about_82 : decode cX5_about 82 = .ok (.getfield 48, 3) := by decide +kernel
theorem dX5_about_85 : decode cX5_about 85 = .ok (.invokestatic 90, 3) := by decide +kernel
theorem dX5_about_88 : decode cX5_about 88 = .ok (.invokevirtual 95, 3) := by decide +kernel
theorem dX5_about_91 : decode cX5_about 91 = .ok (.ireturn, 1) := by decide +kernel
theorem dX5_about_92 : decode cX5_about 92 = .ok (.aload_n 0, 1) := by decide +kernel
theorem dX5_about_93 : decode cX5_about 93 = .ok (.getfield 52, 3) := by decide +kernel
theorem dX5_about_96 : decode cX5_about 96 = .ok (.ireturn, 1) := by decide +kernel
theorem dX5_about_97 : decode cX5_about 97 = .ok (.aload_n 0, 1) := by decide +kernel
theorem dX5_about_98 : decode cX5_about 98 = .ok (.getfield 19, 3) := by decide +kernel
theorem dX5_about_101 : decode cX5_about 101 = .ok (.aload_n 0, 1) := by decide +kernel
theorem dX5_about_102 : decode cX5_about 102 = .ok (.getfield 19, 3) := by decide +kernel
theorem dX5_about_105 : decode cX5_about 105 = .ok (.aload_n 0, 1) := by decide +kernel
theorem dX5_about_106 : decode cX5_about 106 = .ok (.getfield 48, 3) := by decide +kernel
theorem dX5_about_109 : decode cX5_about 109 = .ok (.invokestatic 90, 3) := by decide +kernel
theorem dX5_about_112 : decode cX5_about 112 = .ok (.iconst 0, 1) := by decide +kernel
theorem dX5_about_113 : decode cX5_about 113 = .ok (.invokevirtual 98, 3) := by decide +kernel
theorem dX5_about_116 : decode cX5_about 116 = .ok (.invokevirtual 95, 3) := by decide +kernel
theorem dX5_about_119 : decode cX5_about 119 = .ok (.ireturn, 1) := by decide +kernel
theorem dX5_about_120 : decode cX5_about 120 = .ok (.aload_n 0, 1) := by decide +kernel
theorem dX5_about_121 : decode cX5_about 121 = .ok (.getfield 26, 3) := by decide +kernel
theorem dX5_about_124 : decode cX5_about 124 = .ok (.getfield 74, 3) := by decide +kernel
theorem dX5_about_127 : decode cX5_about 127 = .ok (.ireturn, 1) := by decide +kernel
theorem dX5_about_128 : decode cX5_about 128 = .ok (.aload_n 0, 1) := by decide +kernel
theorem dX5_about_129 : decode cX5_about 129 = .ok (.getfield 33, 3) := by decide +kernel
theorem dX5_about_132 : decode cX5_about 132 = .ok (.getfield 102, 3) := by decide +kernel
theorem dX5_about_135 : decode cX5_about 135 = .ok (.ireturn, 1) := by decide +kernel
theorem dX5_about_136 : decode cX5_about 136 = .ok (.aload_n 0, 1) := by decide +kernel
theorem dX5_about_137 : decode cX5_about 137 = .ok (.getfield 10, 3) := by decide +kernel
theorem dX5_about_140 : decode cX5_about 140 = .ok (.getfield 63, 3) := by decide +kernel
theorem dX5_about_143 : decode cX5_about 143 = .ok (.ireturn, 1) := by decide +kernel
theorem dX5_about_144 : decode cX5_about 144 = .ok (.bipush (-2), 2) := by decide +kernel
theorem dX5_about_146 : decode cX5_about 146 = .ok (.ireturn, 1) := by decide +kernel
theorem dX5_part_0 : decode cX5_part 0 = .ok (.aload_n 0, 1) := by decide +kernel
theorem dX5_part_1 : decode cX5_part 1 = .ok (.getfield 19, 3) := by decide +kernel
theorem dX5_part_4 : decode cX5_part 4 = .ok (.iload_n 1, 1) := by decide +kernel
theorem dX5_part_5 : decode cX5_part 5 = .ok (.invokevirtual 103, 3) := by decide +kernel
theorem dX5_part_8 : decode cX5_part 8 = .ok (.ifCond .ne 5, 3) := by decide +kernel
theorem dX5_part_11 : decode cX5_part 11 = .ok (.iconst (-1), 1) := by decide +kernel
theorem dX5_part_12 : decode cX5_part 12 = .ok (.ireturn, 1) := by decide +kernel
theorem dX5_part_13 : decode cX5_part 13 = .ok (.aload_n 0, 1) := by decide +kernel
theorem dX5_part_14 : decode cX5_part 14 = .ok (.getfield 19, 3) := by decide +kernel
theorem dX5_part_17 : decode cX5_part 17 = .ok (.iload_n 1, 1) := by decide +kernel
theorem dX5_part_18 : decode cX5_part 18 = .ok (.invokevirtual 106, 3) := by decide +kernel
theorem dX5_part_21 : decode cX5_part 21 = .ok (.istore_n 3, 1) := by decide +kernel
theorem dX5_part_22 : decode cX5_part 22 = .ok (.iload_n 2, 1) := by decide +kernel
theorem dX5_part_23 : decode cX5_part 23 = .ok (.tableswitch 64 0 3 #[29, 31, 40, 52], 29) := by decide +kernel
theorem dX5_part_52 : decode cX5_part 52 = .ok (.iload_n 3, 1) := by decide +kernel
theorem dX5_part_53 : decode cX5_part 53 = .ok (.ireturn, 1) := by decide +kernel
theorem dX5_part_54 : decode cX5_part 54 = .ok (.aload_n 0, 1) := by decide +kernel
theorem dX5_part_55 : decode cX5_part 55 = .ok (.getfield 19, 3) := by decide +kernel
theorem dX5_part_58 : decode cX5_part 58 = .ok (.iload_n 1, 1) := by decide +kernel
theorem dX5_part_59 : decode cX5_part 59 = .ok (.invokevirtual 109, 3) := by decide +kernel
theorem dX5_part_62 : decode cX5_part 62 = .ok (.ireturn, 1) := by decide +kernel
theorem dX5_part_63 : decode cX5_part 63 = .ok (.aload_n 0, 1) := by decide +kernel
theorem dX5_part_64 : decode cX5_part 64 = .ok (.getfield 48, 3) := by decide +kernel
theorem dX5_part_67 : decode cX5_part 67 = .ok (.invokestatic 90, 3) := by decide +kernel
theorem dX5_part_70 : decode cX5_part 70 = .ok (.iload_n 3, 1) := by decide +kernel
theorem dX5_part_71 : decode cX5_part 71 = .ok (.ishr, 1) := by decide +kernel
theorem dX5_part_72 : decode cX5_part 72 = .ok (.iconst 1, 1) := by decide +kernel
theorem dX5_part_73 : decode cX5_part 73 = .ok (.iand, 1) := by decide +kernel
theorem dX5_part_74 : decode cX5_part 74 = .ok (.ireturn, 1) := by decide +kernel
theorem dX5_part_75 : decode cX5_part 75 = .ok (.aload_n 0, 1) := by decide +kernel
theorem dX5_part_76 : decode cX5_part 76 = .ok (.getfield 48, 3) := by decide +kernel
theorem dX5_part_79 : decode cX5_part 79 = .ok (.invokestatic 112, 3) := by decide +kernel
theorem dX5_part_82 : decode cX5_part 82 = .ok (.iload_n 3, 1) := by decide +kernel
theorem dX5_part_83 : decode cX5_part 83 = .ok (.ishr, 1) := by decide +kernel
theorem dX5_part_84 : decode cX5_part 84 = .ok (.iconst 1, 1) := by decide +kernel
theorem dX5_part_85 : decode cX5_part 85 = .ok (.iand, 1) := by decide +kernel
theorem dX5_part_86 : decode cX5_part 86 = .ok (.ireturn, 1) := by decide +kernel
theorem dX5_part_87 : decode cX5_part 87 = .ok (.bipush (-2), 2) := by decide +kernel
theorem dX5_part_89 : decode cX5_part 89 = .ok (.ireturn, 1) := by decide +kernel
theorem dX5_column_0 : decode cX5_column 0 = .ok (.iload_n 1, 1) := by decide +kernel
theorem dX5_column_1 : decode cX5_column 1 = .ok (.invokestatic 114, 3) := by decide +kernel
theorem dX5_column_4 : decode cX5_column 4 = .ok (.ifCond .eq 14, 3) := by decide +kernel
theorem dX5_column_7 : decode cX5_column 7 = .ok (.aload_n 0, 1) := by decide +kernel
theorem dX5_column_8 : decode cX5_column 8 = .ok (.getfield 48, 3) := by decide +kernel
theorem dX5_column_11 : decode cX5_column 11 = .ok (.iload_n 1, 1) := by decide +kernel
theorem dX5_column_12 : decode cX5_column 12 = .ok (.invokestatic 117, 3) := by decide +kernel
theorem dX5_column_15 : decode cX5_column 15 = .ok (.goto 4, 3) := by decide +kernel
theorem dX5_column_18 : decode cX5_column 18 = .ok (.iconst (-1), 1) := by decide +kernel
theorem dX5_column_19 : decode cX5_column 19 = .ok (.ireturn, 1) := by decide +kernel
theorem dX5_at_0 : decode cX5_at 0 = .ok (.iload_n 1, 1) := by decide +kernel
theorem dX5_at_1 : decode cX5_at 1 = .ok (.ifCond .lt 20, 3) := by decide +kernel
theorem dX5_at_4 : decode cX5_at 4 = .ok (.iload_n 1, 1) := by decide +kernel
theorem dX5_at_5 : decode cX5_at 5 = .ok (.bipush 16, 2) := by decide +kernel
theorem dX5_at_7 : decode cX5_at 7 = .ok (.if_icmp .ge 14, 3) := by decide +kernel
theorem dX5_at_10 : decode cX5_at 10 = .ok (.aload_n 0, 1) := by decide +kernel
theorem dX5_at_11 : decode cX5_at 11 = .ok (.getfield 19, 3) := by decide +kernel
theorem dX5_at_14 : decode cX5_at 14 = .ok (.iload_n 1, 1) := by decide +kernel
theorem dX5_at_15 : decode cX5_at 15 = .ok (.invokevirtual 120, 3) := by decide +kernel
theorem dX5_at_18 : decode cX5_at 18 = .ok (.goto 4, 3) := by decide +kernel
theorem dX5_at_21 : decode cX5_at 21 = .ok (.iconst (-1), 1) := by decide +kernel
theorem dX5_at_22 : decode cX5_at 22 = .ok (.ireturn, 1) := by decide +kernel
theorem dX5_put_0 : decode cX5_put 0 = .ok (.iload_n 1, 1) := by decide +kernel
theorem dX5_put_1 : decode cX5_put 1 = .ok (.invokestatic 114, 3) := by decide +kernel
theorem dX5_put_4 : decode cX5_put 4 = .ok (.ifCond .ne 5, 3) := by decide +kernel
theorem dX5_put_7 : decode cX5_put 7 = .ok (.iconst (-1), 1) := by decide +kernel
theorem dX5_put_8 : decode cX5_put 8 = .ok (.ireturn, 1) := by decide +kernel
theorem dX5_put_9 : decode cX5_put 9 = .ok (.aload_n 0, 1) := by decide +kernel
theorem dX5_put_10 : decode cX5_put 10 = .ok (.getfield 19, 3) := by decide +kernel
theorem dX5_put_13 : decode cX5_put 13 = .ok (.aload_n 0, 1) := by decide +kernel
theorem dX5_put_14 : decode cX5_put 14 = .ok (.getfield 48, 3) := by decide +kernel
theorem dX5_put_17 : decode cX5_put 17 = .ok (.invokevirtual 83, 3) := by decide +kernel
theorem dX5_put_20 : decode cX5_put 20 = .ok (.ifCond .ne 6, 3) := by decide +kernel
theorem dX5_put_23 : decode cX5_put 23 = .ok (.bipush (-3), 2) := by decide +kernel
theorem dX5_put_25 : decode cX5_put 25 = .ok (.ireturn, 1) := by decide +kernel
theorem dX5_put_26 : decode cX5_put 26 = .ok (.aload_n 0, 1) := by decide +kernel
theorem dX5_put_27 : decode cX5_put 27 = .ok (.getfield 48, 3) := by decide +kernel
theorem dX5_put_30 : decode cX5_put 30 = .ok (.iload_n 1, 1) := by decide +kernel
theorem dX5_put_31 : decode cX5_put 31 = .ok (.invokestatic 117, 3) := by decide +kernel
theorem dX5_put_34 : decode cX5_put 34 = .ok (.iconst 4, 1) := by decide +kernel
theorem dX5_put_35 : decode cX5_put 35 = .ok (.if_icmp .lt 6, 3) := by decide +kernel
theorem dX5_put_38 : decode cX5_put 38 = .ok (.bipush (-4), 2) := by decide +kernel
theorem dX5_put_40 : decode cX5_put 40 = .ok (.ireturn, 1) := by decide +kernel
theorem dX5_put_41 : decode cX5_put 41 = .ok (.aload_n 0, 1) := by decide +kernel
theorem dX5_put_42 : decode cX5_put 42 = .ok (.getfield 26, 3) := by decide +kernel
theorem dX5_put_45 : decode cX5_put 45 = .ok (.aload_n 0, 1) := by decide +kernel
theorem dX5_put_46 : decode cX5_put 46 = .ok (.getfield 48, 3) := by decide +kernel
theorem dX5_put_49 : decode cX5_put 49 = .ok (.aload_n 0, 1) := by decide +kernel
theorem dX5_put_50 : decode cX5_put 50 = .ok (.getfield 52, 3) := by decide +kernel
theorem dX5_put_53 : decode cX5_put 53 = .ok (.invokevirtual 123, 3) := by decide +kernel
theorem dX5_put_56 : decode cX5_put 56 = .ok (.aload_n 0, 1) := by decide +kernel
theorem dX5_put_57 : decode cX5_put 57 = .ok (.aload_n 0, 1) := by decide +kernel
theorem dX5_put_58 : decode cX5_put 58 = .ok (.getfield 19, 3) := by decide +kernel
theorem dX5_put_61 : decode cX5_put 61 = .ok (.aload_n 0, 1) := by decide +kernel
theorem dX5_put_62 : decode cX5_put 62 = .ok (.getfield 48, 3) := by decide +kernel
theorem dX5_put_65 : decode cX5_put 65 = .ok (.iload_n 1, 1) := by decide +kernel
theorem dX5_put_66 : decode cX5_put 66 = .ok (.invokevirtual 127, 3) := by decide +kernel
theorem dX5_put_69 : decode cX5_put 69 = .ok (.putfield 48, 3) := by decide +kernel
theorem dX5_put_72 : decode cX5_put 72 = .ok (.aload_n 0, 1) := by decide +kernel
theorem dX5_put_73 : decode cX5_put 73 = .ok (.getfield 48, 3) := by decide +kernel
theorem dX5_put_76 : decode cX5_put 76 = .ok (.invokestatic 130, 3) := by decide +kernel
theorem dX5_put_79 : decode cX5_put 79 = .ok (.ireturn, 1) := by decide +kernel
theorem dX5_strike_0 : decode cX5_strike 0 = .ok (.iload_n 1, 1) := by decide +kernel
theorem dX5_strike_1 : decode cX5_strike 1 = .ok (.invokestatic 114, 3) := by decide +kernel
theorem dX5_strike_4 : decode cX5_strike 4 = .ok (.ifCond .ne 5, 3) := by decide +kernel
theorem dX5_strike_7 : decode cX5_strike 7 = .ok (.iconst (-1), 1) := by decide +kernel
theorem dX5_strike_8 : decode cX5_strike 8 = .ok (.ireturn, 1) := by decide +kernel
theorem dX5_strike_9 : decode cX5_strike 9 = .ok (.aload_n 0, 1) := by decide +kernel
theorem dX5_strike_10 : decode cX5_strike 10 = .ok (.getfield 19, 3) := by decide +kernel
theorem dX5_strike_13 : decode cX5_strike 13 = .ok (.aload_n 0, 1) := by decide +kernel
theorem dX5_strike_14 : decode cX5_strike 14 = .ok (.getfield 48, 3) := by decide +kernel
theorem dX5_strike_17 : decode cX5_strike 17 = .ok (.iload_n 1, 1) := by decide +kernel
theorem dX5_strike_18 : decode cX5_strike 18 = .ok (.invokevirtual 133, 3) := by decide +kernel
theorem dX5_strike_21 : decode cX5_strike 21 = .ok (.ifCond .ne 6, 3) := by decide +kernel
theorem dX5_strike_24 : decode cX5_strike 24 = .ok (.bipush (-3), 2) := by decide +kernel
theorem dX5_strike_26 : decode cX5_strike 26 = .ok (.ireturn, 1) := by decide +kernel
theorem dX5_strike_27 : decode cX5_strike 27 = .ok (.aload_n 0, 1) := by decide +kernel
theorem dX5_strike_28 : decode cX5_strike 28 = .ok (.getfield 26, 3) := by decide +kernel
theorem dX5_strike_31 : decode cX5_strike 31 = .ok (.aload_n 0, 1) := by decide +kernel
theorem dX5_strike_32 : decode cX5_strike 32 = .ok (.getfield 48, 3) := by decide +kernel
theorem dX5_strike_35 : decode cX5_strike 35 = .ok (.aload_n 0, 1) := by decide +kernel
theorem dX5_strike_36 : decode cX5_strike 36 = .ok (.getfield 52, 3) := by decide +kernel
theorem dX5_strike_39 : decode cX5_strike 39 = .ok (.invokevirtual 123, 3) := by decide +kernel
theorem dX5_strike_42 : decode cX5_strike 42 = .ok (.aload_n 0, 1) := by decide +kernel
theorem dX5_strike_43 : decode cX5_strike 43 = .ok (.getfield 48, 3) := by decide +kernel
theorem dX5_strike_46 : decode cX5_strike 46 = .ok (.invokestatic 130, 3) := by decide +kernel
theorem dX5_strike_49 : decode cX5_strike 49 = .ok (.istore_n 2, 1) := by decide +kernel
theorem dX5_strike_50 : decode cX5_strike 50 = .ok (.aload_n 0, 1) := by decide +kernel
theorem dX5_strike_51 : decode cX5_strike 51 = .ok (.aload_n 0, 1) := by decide +kernel
theorem dX5_strike_52 : decode cX5_strike 52 = .ok (.getfield 19, 3) := by decide +kernel
theorem dX5_strike_55 : decode cX5_strike 55 = .ok (.aload_n 0, 1) := by decide +kernel
theorem dX5_strike_56 : decode cX5_strike 56 = .ok (.getfield 48, 3) := by decide +kernel
theorem dX5_strike_59 : decode cX5_strike 59 = .ok (.iload_n 1, 1) := by decide +kernel
theorem dX5_strike_60 : decode cX5_strike 60 = .ok (.invokevirtual 137, 3) := by decide +kernel
theorem dX5_strike_63 : decode cX5_strike 63 = .ok (.putfield 48, 3) := by decide +kernel
theorem dX5_strike_66 : decode cX5_strike 66 = .ok (.iload_n 2, 1) := by decide +kernel
theorem dX5_strike_67 : decode cX5_strike 67 = .ok (.aload_n 0, 1) := by decide +kernel
theorem dX5_strike_68 : decode cX5_strike 68 = .ok (.getfield 48, 3) := by decide +kernel
theorem dX5_strike_71 : decode cX5_strike 71 = .ok (.invokestatic 130, 3) := by decide +kernel
theorem dX5_strike_74 : decode cX5_strike 74 = .ok (.isub, 1) := by decide +kernel
theorem dX5_strike_75 : decode cX5_strike 75 = .ok (.ireturn, 1) := by decide +kernel
theorem dX5_rain_0 : decode cX5_rain 0 = .ok (.aload_n 0, 1) := by decide +kernel
theorem dX5_rain_1 : decode cX5_rain 1 = .ok (.getfield 26, 3) := by decide +kernel
theorem dX5_rain_4 : decode cX5_rain 4 = .ok (.aload_n 0, 1) := by decide +kernel
theorem dX5_rain_5 : decode cX5_rain 5 = .ok (.getfield 48, 3) := by decide +kernel
theorem dX5_rain_8 : decode cX5_rain 8 = .ok (.aload_n 0, 1) := by decide +kernel
theorem dX5_rain_9 : decode cX5_rain 9 = .ok (.getfield 52, 3) := by decide +kernel
theorem dX5_rain_12 : decode cX5_rain 12 = .ok (.invokevirtual 123, 3) := by decide +kernel
theorem dX5_rain_15 : decode cX5_rain 15 = .ok (.aload_n 0, 1) := by decide +kernel
theorem dX5_rain_16 : decode cX5_rain 16 = .ok (.getfield 48, 3) := by decide +kernel
theorem dX5_rain_19 : decode cX5_rain 19 = .ok (.invokestatic 130, 3) := by decide +kernel
theorem dX5_rain_22 : decode cX5_rain 22 = .ok (.istore_n 1, 1) := by decide +kernel
theorem dX5_rain_23 : decode cX5_rain 23 = .ok (.aload_n 0, 1) := by decide +kernel
theorem dX5_rain_24 : decode cX5_rain 24 = .ok (.aload_n 0, 1) := by decide +kernel
theorem dX5_rain_25 : decode cX5_rain 25 = .ok (.getfield 19, 3) := by decide +kernel
theorem dX5_rain_28 : decode cX5_rain 28 = .ok (.aload_n 0, 1) := by decide +kernel
theorem dX5_rain_29 : decode cX5_rain 29 = .ok (.getfield 48, 3) := by decide +kernel
theorem dX5_rain_32 : decode cX5_rain 32 = .ok (.invokevirtual 140, 3) := by decide +kernel
theorem dX5_rain_35 : decode cX5_rain 35 = .ok (.putfield 48, 3) := by decide +kernel
theorem dX5_rain_38 : decode cX5_rain 38 = .ok (.aload_n 0, 1) := by decide +kernel
theorem dX5_rain_39 : decode cX5_rain 39 = .ok (.dup, 1) := by decide +kernel
theorem dX5_rain_40 : decode cX5_rain 40 = .ok (.getfield 52, 3) := by decide +kernel
theorem dX5_rain_43 : decode cX5_rain 43 = .ok (.iconst 1, 1) := by decide +kernel
theorem dX5_rain_44 : decode cX5_rain 44 = .ok (.iadd, 1) := by decide +kernel
theorem dX5_rain_45 : decode cX5_rain 45 = .ok (.putfield 52, 3) := by decide +kernel
theorem dX5_rain_48 : decode cX5_rain 48 = .ok (.iload_n 1, 1) := by decide +kernel
theorem dX5_rain_49 : decode cX5_rain 49 = .ok (.aload_n 0, 1) := by decide +kernel
theorem dX5_rain_50 : decode cX5_rain 50 = .ok (.getfield 48, 3) := by decide +kernel
theorem dX5_rain_53 : decode cX5_rain 53 = .ok (.invokestatic 130, 3) := by decide +kernel
theorem dX5_rain_56 : decode cX5_rain 56 = .ok (.isub, 1) := by decide +kernel
theorem dX5_rain_57 : decode cX5_rain 57 = .ok (.ireturn, 1) := by decide +kernel
theorem dX5_undo_0 : decode cX5_undo 0 = .ok (.aload_n 0, 1) := by decide +kernel
theorem dX5_undo_1 : decode cX5_undo 1 = .ok (.getfield 26, 3) := by decide +kernel
theorem dX5_undo_4 : decode cX5_undo 4 = .ok (.getfield 74, 3) := by decide +kernel
theorem dX5_undo_7 : decode cX5_undo 7 = .ok (.ifCond .ne 6, 3) := by decide +kernel
theorem dX5_undo_10 : decode cX5_undo 10 = .ok (.bipush (-3), 2) := by decide +kernel
theorem dX5_undo_12 : decode cX5_undo 12 = .ok (.ireturn, 1) := by decide +kernel
theorem dX5_undo_13 : decode cX5_undo 13 = .ok (.aload_n 0, 1) := by decide +kernel
theorem dX5_undo_14 : decode cX5_undo 14 = .ok (.aload_n 0, 1) := by decide +kernel
theorem dX5_undo_15 : decode cX5_undo 15 = .ok (.getfield 26, 3) := by decide +kernel
theorem dX5_undo_18 : decode cX5_undo 18 = .ok (.invokevirtual 143, 3) := by decide +kernel
theorem dX5_undo_21 : decode cX5_undo 21 = .ok (.putfield 48, 3) := by decide +kernel
theorem dX5_undo_24 : decode cX5_undo 24 = .ok (.aload_n 0, 1) := by decide +kernel
theorem dX5_undo_25 : decode cX5_undo 25 = .ok (.aload_n 0, 1) := by decide +kernel
theorem dX5_undo_26 : decode cX5_undo 26 = .ok (.getfield 26, 3) := by decide +kernel
theorem dX5_undo_29 : decode cX5_undo 29 = .ok (.invokevirtual 146, 3) := by decide +kernel
theorem dX5_undo_32 : decode cX5_undo 32 = .ok (.putfield 52, 3) := by decide +kernel
theorem dX5_undo_35 : decode cX5_undo 35 = .ok (.aload_n 0, 1) := by decide +kernel
theorem dX5_undo_36 : decode cX5_undo 36 = .ok (.getfield 26, 3) := by decide +kernel
theorem dX5_undo_39 : decode cX5_undo 39 = .ok (.dup, 1) := by decide +kernel
theorem dX5_undo_40 : decode cX5_undo 40 = .ok (.getfield 74, 3) := by decide +kernel
theorem dX5_undo_43 : decode cX5_undo 43 = .ok (.iconst 1, 1) := by decide +kernel
theorem dX5_undo_44 : decode cX5_undo 44 = .ok (.isub, 1) := by decide +kernel
theorem dX5_undo_45 : decode cX5_undo 45 = .ok (.putfield 74, 3) := by decide +kernel
theorem dX5_undo_48 : decode cX5_undo 48 = .ok (.aload_n 0, 1) := by decide +kernel
theorem dX5_undo_49 : decode cX5_undo 49 = .ok (.getfield 26, 3) := by decide +kernel
theorem dX5_undo_52 : decode cX5_undo 52 = .ok (.getfield 74, 3) := by decide +kernel
theorem dX5_undo_55 : decode cX5_undo 55 = .ok (.ireturn, 1) := by decide +kernel
theorem dX5_loses_0 : decode cX5_loses 0 = .ok (.iload_n 1, 1) := by decide +kernel
theorem dX5_loses_1 : decode cX5_loses 1 = .ok (.invokestatic 114, 3) := by decide +kernel
theorem dX5_loses_4 : decode cX5_loses 4 = .ok (.ifCond .ne 5, 3) := by decide +kernel
theorem dX5_loses_7 : decode cX5_loses 7 = .ok (.iconst (-1), 1) := by decide +kernel
theorem dX5_loses_8 : decode cX5_loses 8 = .ok (.ireturn, 1) := by decide +kernel
theorem dX5_loses_9 : decode cX5_loses 9 = .ok (.aload_n 0, 1) := by decide +kernel
theorem dX5_loses_10 : decode cX5_loses 10 = .ok (.getfield 19, 3) := by decide +kernel
theorem dX5_loses_13 : decode cX5_loses 13 = .ok (.aload_n 0, 1) := by decide +kernel
theorem dX5_loses_14 : decode cX5_loses 14 = .ok (.getfield 48, 3) := by decide +kernel
theorem dX5_loses_17 : decode cX5_loses 17 = .ok (.iload_n 1, 1) := by decide +kernel
theorem dX5_loses_18 : decode cX5_loses 18 = .ok (.invokevirtual 133, 3) := by decide +kernel
theorem dX5_loses_21 : decode cX5_loses 21 = .ok (.ifCond .ne 6, 3) := by decide +kernel
theorem dX5_loses_24 : decode cX5_loses 24 = .ok (.bipush (-3), 2) := by decide +kernel
theorem dX5_loses_26 : decode cX5_loses 26 = .ok (.ireturn, 1) := by decide +kernel
theorem dX5_loses_27 : decode cX5_loses 27 = .ok (.aload_n 0, 1) := by decide +kernel
theorem dX5_loses_28 : decode cX5_loses 28 = .ok (.getfield 19, 3) := by decide +kernel
theorem dX5_loses_31 : decode cX5_loses 31 = .ok (.aload_n 0, 1) := by decide +kernel
theorem dX5_loses_32 : decode cX5_loses 32 = .ok (.getfield 48, 3) := by decide +kernel
theorem dX5_loses_35 : decode cX5_loses 35 = .ok (.iload_n 1, 1) := by decide +kernel
theorem dX5_loses_36 : decode cX5_loses 36 = .ok (.invokevirtual 137, 3) := by decide +kernel
theorem dX5_loses_39 : decode cX5_loses 39 = .ok (.istore_n 2, 1) := by decide +kernel
theorem dX5_loses_40 : decode cX5_loses 40 = .ok (.aload_n 0, 1) := by decide +kernel
theorem dX5_loses_41 : decode cX5_loses 41 = .ok (.getfield 19, 3) := by decide +kernel
theorem dX5_loses_44 : decode cX5_loses 44 = .ok (.aload_n 0, 1) := by decide +kernel
theorem dX5_loses_45 : decode cX5_loses 45 = .ok (.getfield 48, 3) := by decide +kernel
theorem dX5_loses_48 : decode cX5_loses 48 = .ok (.invokestatic 90, 3) := by decide +kernel
theorem dX5_loses_51 : decode cX5_loses 51 = .ok (.iload_n 2, 1) := by decide +kernel
theorem dX5_loses_52 : decode cX5_loses 52 = .ok (.invokestatic 90, 3) := by decide +kernel
theorem dX5_loses_55 : decode cX5_loses 55 = .ok (.iconst (-1), 1) := by decide +kernel
theorem dX5_loses_56 : decode cX5_loses 56 = .ok (.ixor, 1) := by decide +kernel
theorem dX5_loses_57 : decode cX5_loses 57 = .ok (.iand, 1) := by decide +kernel
theorem dX5_loses_58 : decode cX5_loses 58 = .ok (.invokevirtual 95, 3) := by decide +kernel
theorem dX5_loses_61 : decode cX5_loses 61 = .ok (.ireturn, 1) := by decide +kernel
theorem dX5_down_0 : decode cX5_down 0 = .ok (.iload_n 1, 1) := by decide +kernel
theorem dX5_down_1 : decode cX5_down 1 = .ok (.invokestatic 114, 3) := by decide +kernel
theorem dX5_down_4 : decode cX5_down 4 = .ok (.ifCond .ne 5, 3) := by decide +kernel
theorem dX5_down_7 : decode cX5_down 7 = .ok (.iconst (-1), 1) := by decide +kernel
theorem dX5_down_8 : decode cX5_down 8 = .ok (.ireturn, 1) := by decide +kernel
theorem dX5_down_9 : decode cX5_down 9 = .ok (.aload_n 0, 1) := by decide +kernel
theorem dX5_down_10 : decode cX5_down 10 = .ok (.getfield 48, 3) := by decide +kernel
theorem dX5_down_13 : decode cX5_down 13 = .ok (.istore_n 2, 1) := by decide +kernel
theorem dX5_down_14 : decode cX5_down 14 = .ok (.iconst 0, 1) := by decide +kernel
theorem dX5_down_15 : decode cX5_down 15 = .ok (.istore_n 3, 1) := by decide +kernel
theorem dX5_down_16 : decode cX5_down 16 = .ok (.iload_n 3, 1) := by decide +kernel
theorem dX5_down_17 : decode cX5_down 17 = .ok (.iconst 4, 1) := by decide +kernel
theorem dX5_down_18 : decode cX5_down 18 = .ok (.if_icmp .ge 53, 3) := by decide +kernel
theorem dX5_down_21 : decode cX5_down 21 = .ok (.aload_n 0, 1) := by decide +kernel
theorem dX5_down_22 : decode cX5_down 22 = .ok (.getfield 19, 3) := by decide +kernel
theorem dX5_down_25 : decode cX5_down 25 = .ok (.iload_n 2, 1) := by decide +kernel
theorem dX5_down_26 : decode cX5_down 26 = .ok (.iload_n 1, 1) := by decide +kernel
theorem dX5_down_27 : decode cX5_down 27 = .ok (.invokevirtual 133, 3) := by decide +kernel
theorem dX5_down_30 : decode cX5_down 30 = .ok (.ifCond .eq 41, 3) := by decide +kernel
theorem dX5_down_33 : decode cX5_down 33 = .ok (.aload_n 0, 1) := by decide +kernel
theorem dX5_down_34 : decode cX5_down 34 = .ok (.getfield 19, 3) := by decide +kernel
theorem dX5_down_37 : decode cX5_down 37 = .ok (.iload_n 2, 1) := by decide +kernel
theorem dX5_down_38 : decode cX5_down 38 = .ok (.iload_n 1, 1) := by decide +kernel
theorem dX5_down_39 : decode cX5_down 39 = .ok (.invokevirtual 137, 3) := by decide +kernel
theorem dX5_down_42 : decode cX5_down 42 = .ok (.istore 4, 2) := by decide +kernel
theorem dX5_down_44 : decode cX5_down 44 = .ok (.iload 4, 2) := by decide +kernel
theorem dX5_down_46 : decode cX5_down 46 = .ok (.invokestatic 90, 3) := by decide +kernel
theorem dX5_down_49 : decode cX5_down 49 = .ok (.aload_n 0, 1) := by decide +kernel
theorem dX5_down_50 : decode cX5_down 50 = .ok (.getfield 48, 3) := by decide +kernel
theorem dX5_down_53 : decode cX5_down 53 = .ok (.invokestatic 90, 3) := by decide +kernel
theorem dX5_down_56 : decode cX5_down 56 = .ok (.if_icmp .eq 6, 3) := by decide +kernel
theorem dX5_down_59 : decode cX5_down 59 = .ok (.goto 12, 3) := by decide +kernel
theorem dX5_down_62 : decode cX5_down 62 = .ok (.iload 4, 2) := by decide +kernel
theorem dX5_down_64 : decode cX5_down 64 = .ok (.istore_n 2, 1) := by decide +kernel
theorem dX5_down_65 : decode cX5_down 65 = .ok (.iinc 3 1, 3) := by decide +kernel
theorem dX5_down_68 : decode cX5_down 68 = .ok (.goto (-52), 3) := by decide +kernel
theorem dX5_down_71 : decode cX5_down 71 = .ok (.iload_n 2, 1) := by decide +kernel
theorem dX5_down_72 : decode cX5_down 72 = .ok (.iload_n 1, 1) := by decide +kernel
theorem dX5_down_73 : decode cX5_down 73 = .ok (.invokestatic 117, 3) := by decide +kernel
theorem dX5_down_76 : decode cX5_down 76 = .ok (.ireturn, 1) := by decide +kernel
theorem dX5_soon_0 : decode cX5_soon 0 = .ok (.iload_n 1, 1) := by decide +kernel
theorem dX5_soon_1 : decode cX5_soon 1 = .ok (.ifCond .lt 23, 3) := by decide +kernel
theorem dX5_soon_4 : decode cX5_soon 4 = .ok (.iload_n 1, 1) := by decide +kernel
theorem dX5_soon_5 : decode cX5_soon 5 = .ok (.iconst 1, 1) := by decide +kernel
theorem dX5_soon_6 : decode cX5_soon 6 = .ok (.aload_n 0, 1) := by decide +kernel
theorem dX5_soon_7 : decode cX5_soon 7 = .ok (.getfield 19, 3) := by decide +kernel
theorem dX5_soon_10 : decode cX5_soon 10 = .ok (.getfield 80, 3) := by decide +kernel
theorem dX5_soon_13 : decode cX5_soon 13 = .ok (.ishl, 1) := by decide +kernel
theorem dX5_soon_14 : decode cX5_soon 14 = .ok (.if_icmp .ge 10, 3) := by decide +kernel
theorem dX5_soon_17 : decode cX5_soon 17 = .ok (.iload_n 2, 1) := by decide +kernel
theorem dX5_soon_18 : decode cX5_soon 18 = .ok (.invokestatic 149, 3) := by decide +kernel
theorem dX5_soon_21 : decode cX5_soon 21 = .ok (.ifCond .ne 6, 3) := by decide +kernel
theorem dX5_soon_24 : decode cX5_soon 24 = .ok (.bipush (-2), 2) := by decide +kernel
theorem dX5_soon_26 : decode cX5_soon 26 = .ok (.ireturn, 1) := by decide +kernel
theorem dX5_soon_27 : decode cX5_soon 27 = .ok (.aload_n 0, 1) := by decide +kernel
theorem dX5_soon_28 : decode cX5_soon 28 = .ok (.getfield 19, 3) := by decide +kernel
theorem dX5_soon_31 : decode cX5_soon 31 = .ok (.iload_n 1, 1) := by decide +kernel
theorem dX5_soon_32 : decode cX5_soon 32 = .ok (.invokevirtual 152, 3) := by decide +kernel
theorem dX5_soon_35 : decode cX5_soon 35 = .ok (.istore_n 3, 1) := by decide +kernel
theorem dX5_soon_36 : decode cX5_soon 36 = .ok (.iconst 0, 1) := by decide +kernel
theorem dX5_soon_37 : decode cX5_soon 37 = .ok (.istore 4, 2) := by decide +kernel
theorem dX5_soon_39 : decode cX5_soon 39 = .ok (.iload 4, 2) := by decide +kernel
theorem dX5_soon_41 : decode cX5_soon 41 = .ok (.iconst 4, 1) := by decide +kernel
theorem dX5_soon_42 : decode cX5_soon 42 = .ok (.if_icmp .gt 44, 3) := by decide +kernel
theorem dX5_soon_45 : decode cX5_soon 45 = .ok (.aload_n 0, 1) := by decide +kernel
theorem dX5_soon_46 : decode cX5_soon 46 = .ok (.getfield 19, 3) := by decide +kernel
theorem dX5_soon_49 : decode cX5_soon 49 = .ok (.aload_n 0, 1) := by decide +kernel
theorem dX5_soon_50 : decode cX5_soon 50 = .ok (.getfield 48, 3) := by decide +kernel
theorem dX5_soon_53 : decode cX5_soon 53 = .ok (.iload_n 3, 1) := by decide +kernel
theorem dX5_soon_54 : decode cX5_soon 54 = .ok (.iload 4, 2) := by decide +kernel
theorem dX5_soon_56 : decode cX5_soon 56 = .ok (.invokestatic 155, 3) := by decide +kernel
theorem dX5_soon_59 : decode cX5_soon 59 = .ok (.istore 5, 2) := by decide +kernel
theorem dX5_soon_61 : decode cX5_soon 61 = .ok (.iload 5, 2) := by decide +kernel
theorem dX5_soon_63 : decode cX5_soon 63 = .ok (.bipush (-9), 2) := by decide +kernel
theorem dX5_soon_65 : decode cX5_soon 65 = .ok (.if_icmp .eq 15, 3) := by decide +kernel
theorem dX5_soon_68 : decode cX5_soon 68 = .ok (.iload_n 2, 1) := by decide +kernel
theorem dX5_soon_69 : decode cX5_soon 69 = .ok (.ifCond .ne 8, 3) := by decide +kernel
theorem dX5_soon_72 : decode cX5_soon 72 = .ok (.iload 4, 2) := by decide +kernel
theorem dX5_soon_74 : decode cX5_soon 74 = .ok (.goto 5, 3) := by decide +kernel
theorem dX5_soon_77 : decode cX5_soon 77 = .ok (.iload 5, 2) := by decide +kernel
theorem dX5_soon_79 : decode cX5_soon 79 = .ok (.ireturn, 1) := by decide +kernel
theorem dX5_soon_80 : decode cX5_soon 80 = .ok (.iinc 4 1, 3) := by decide +kernel
theorem dX5_soon_83 : decode cX5_soon 83 = .ok (.goto (-44), 3) := by decide +kernel
theorem dX5_soon_86 : decode cX5_soon 86 = .ok (.bipush (-9), 2) := by decide +kernel
theorem dX5_soon_88 : decode cX5_soon 88 = .ok (.ireturn, 1) := by decide +kernel
theorem dX5_judge_0 : decode cX5_judge 0 = .ok (.iload_n 1, 1) := by decide +kernel
theorem dX5_judge_1 : decode cX5_judge 1 = .ok (.iconst 1, 1) := by decide +kernel
theorem dX5_judge_2 : decode cX5_judge 2 = .ok (.if_icmp .lt 25, 3) := by decide +kernel
theorem dX5_judge_5 : decode cX5_judge 5 = .ok (.iload_n 1, 1) := by decide +kernel
theorem dX5_judge_6 : decode cX5_judge 6 = .ok (.iconst 4, 1) := by decide +kernel
theorem dX5_judge_7 : decode cX5_judge 7 = .ok (.if_icmp .gt 20, 3) := by decide +kernel
theorem dX5_judge_10 : decode cX5_judge 10 = .ok (.lload_n 2, 1) := by decide +kernel
theorem dX5_judge_11 : decode cX5_judge 11 = .ok (.lconst 0, 1) := by decide +kernel
theorem dX5_judge_12 : decode cX5_judge 12 = .ok (.lcmp, 1) := by decide +kernel
theorem dX5_judge_13 : decode cX5_judge 13 = .ok (.ifCond .lt 14, 3) := by decide +kernel
theorem dX5_judge_16 : decode cX5_judge 16 = .ok (.lload_n 2, 1) := by decide +kernel
theorem dX5_judge_17 : decode cX5_judge 17 = .ok (.iconst 3, 1) := by decide +kernel
theorem dX5_judge_18 : decode cX5_judge 18 = .ok (.iload_n 1, 1) := by decide +kernel
theorem dX5_judge_19 : decode cX5_judge 19 = .ok (.imul, 1) := by decide +kernel
theorem dX5_judge_20 : decode cX5_judge 20 = .ok (.invokestatic 159, 3) := by decide +kernel
theorem dX5_judge_23 : decode cX5_judge 23 = .ok (.lcmp, 1) := by decide +kernel
theorem dX5_judge_24 : decode cX5_judge 24 = .ok (.ifCond .lt 6, 3) := by decide +kernel
theorem dX5_judge_27 : decode cX5_judge 27 = .ok (.bipush (-2), 2) := by decide +kernel
theorem dX5_judge_29 : decode cX5_judge 29 = .ok (.ireturn, 1) := by decide +kernel
theorem dX5_judge_30 : decode cX5_judge 30 = .ok (.aload_n 0, 1) := by decide +kernel
theorem dX5_judge_31 : decode cX5_judge 31 = .ok (.getfield 48, 3) := by decide +kernel
theorem dX5_judge_34 : decode cX5_judge 34 = .ok (.istore 4, 2) := by decide +kernel
theorem dX5_judge_36 : decode cX5_judge 36 = .ok (.iconst 0, 1) := by decide +kernel
theorem dX5_judge_37 : decode cX5_judge 37 = .ok (.istore 5, 2) := by decide +kernel
theorem dX5_judge_39 : decode cX5_judge 39 = .ok (.iload 5, 2) := by decide +kernel
theorem dX5_judge_41 : decode cX5_judge 41 = .ok (.iload_n 1, 1) := by decide +kernel
theorem dX5_judge_42 : decode cX5_judge 42 = .ok (.if_icmp .ge 45, 3) := by decide +kernel
theorem dX5_judge_45 : decode cX5_judge 45 = .ok (.lload_n 2, 1) := by decide +kernel
theorem dX5_judge_46 : decode cX5_judge 46 = .ok (.iload_n 1, 1) := by decide +kernel
theorem dX5_judge_47 : decode cX5_judge 47 = .ok (.iconst 1, 1) := by decide +kernel
theorem dX5_judge_48 : decode cX5_judge 48 = .ok (.isub, 1) := by decide +kernel
theorem dX5_judge_49 : decode cX5_judge 49 = .ok (.iload 5, 2) := by decide +kernel
theorem dX5_judge_51 : decode cX5_judge 51 = .ok (.isub, 1) := by decide +kernel
theorem dX5_judge_52 : decode cX5_judge 52 = .ok (.invokestatic 163, 3) := by decide +kernel
theorem dX5_judge_55 : decode cX5_judge 55 = .ok (.istore 6, 2) := by decide +kernel
theorem dX5_judge_57 : decode cX5_judge 57 = .ok (.aload_n 0, 1) := by decide +kernel
theorem dX5_judge_58 : decode cX5_judge 58 = .ok (.iload 4, 2) := by decide +kernel
theorem dX5_judge_60 : decode cX5_judge 60 = .ok (.iload 6, 2) := by decide +kernel
theorem dX5_judge_62 : decode cX5_judge 62 = .ok (.invokevirtual 167, 3) := by decide +kernel
theorem dX5_judge_65 : decode cX5_judge 65 = .ok (.ifCond .ne 6, 3) := by decide +kernel
theorem dX5_judge_68 : decode cX5_judge 68 = .ok (.iload 5, 2) := by decide +kernel
theorem dX5_judge_70 : decode cX5_judge 70 = .ok (.ireturn, 1) := by decide +kernel
theorem dX5_judge_71 : decode cX5_judge 71 = .ok (.aload_n 0, 1) := by decide +kernel
theorem dX5_judge_72 : decode cX5_judge 72 = .ok (.iload 4, 2) := by decide +kernel
theorem dX5_judge_74 : decode cX5_judge 74 = .ok (.iload 6, 2) := by decide +kernel
theorem dX5_judge_76 : decode cX5_judge 76 = .ok (.invokevirtual 170, 3) := by decide +kernel
theorem dX5_judge_79 : decode cX5_judge 79 = .ok (.istore 4, 2) := by decide +kernel
theorem dX5_judge_81 : decode cX5_judge 81 = .ok (.iinc 5 1, 3) := by decide +kernel
theorem dX5_judge_84 : decode cX5_judge 84 = .ok (.goto (-45), 3) := by decide +kernel
theorem dX5_judge_87 : decode cX5_judge 87 = .ok (.bipush (-9), 2) := by decide +kernel
theorem dX5_judge_89 : decode cX5_judge 89 = .ok (.ireturn, 1) := by decide +kernel
theorem dX5_share_0 : decode cX5_share 0 = .ok (.aload_n 0, 1) := by decide +kernel
theorem dX5_share_1 : decode cX5_share 1 = .ok (.getfield 19, 3) := by decide +kernel
theorem dX5_share_4 : decode cX5_share 4 = .ok (.iload_n 1, 1) := by decide +kernel
theorem dX5_share_5 : decode cX5_share 5 = .ok (.invokevirtual 103, 3) := by decide +kernel
theorem dX5_share_8 : decode cX5_share 8 = .ok (.ifCond .ne 5, 3) := by decide +kernel
theorem dX5_share_11 : decode cX5_share 11 = .ok (.iconst (-1), 1) := by decide +kernel
theorem dX5_share_12 : decode cX5_share 12 = .ok (.ireturn, 1) := by decide +kernel
theorem dX5_share_13 : decode cX5_share 13 = .ok (.iconst 1, 1) := by decide +kernel
theorem dX5_share_14 : decode cX5_share 14 = .ok (.iload_n 1, 1) := by decide +kernel
theorem dX5_share_15 : decode cX5_share 15 = .ok (.ishl, 1) := by decide +kernel
theorem dX5_share_16 : decode cX5_share 16 = .ok (.istore_n 3, 1) := by decide +kernel
theorem dX5_share_17 : decode cX5_share 17 = .ok (.iconst 0, 1) := by decide +kernel
theorem dX5_share_18 : decode cX5_share 18 = .ok (.istore 4, 2) := by decide +kernel
theorem dX5_share_20 : decode cX5_share 20 = .ok (.iconst 0, 1) := by decide +kernel
theorem dX5_share_21 : decode cX5_share 21 = .ok (.istore 5, 2) := by decide +kernel
theorem dX5_share_23 : decode cX5_share 23 = .ok (.iload 5, 2) := by decide +kernel
theorem dX5_share_25 : decode cX5_share 25 = .ok (.iconst 1, 1) := by decide +kernel
theorem dX5_share_26 : decode cX5_share 26 = .ok (.aload_n 0, 1) := by decide +kernel
theorem dX5_share_27 : decode cX5_share 27 = .ok (.getfield 19, 3) := by decide +kernel
theorem dX5_share_30 : decode cX5_share 30 = .ok (.getfield 80, 3) := by decide +kernel
theorem dX5_share_33 : decode cX5_share 33 = .ok (.ishl, 1) := by decide +kernel
theorem dX5_share_34 : decode cX5_share 34 = .ok (.if_icmp .ge 56, 3) := by decide +kernel
theorem dX5_share_37 : decode cX5_share 37 = .ok (.iload 5, 2) := by decide +kernel
theorem dX5_share_39 : decode cX5_share 39 = .ok (.iload_n 3, 1) := by decide +kernel
theorem dX5_share_40 : decode cX5_share 40 = .ok (.iand, 1) := by decide +kernel
theorem dX5_share_41 : decode cX5_share 41 = .ok (.ifCond .ne 43, 3) := by decide +kernel
theorem dX5_share_44 : decode cX5_share 44 = .ok (.aload_n 0, 1) := by decide +kernel
theorem dX5_share_45 : decode cX5_share 45 = .ok (.getfield 19, 3) := by decide +kernel
theorem dX5_share_48 : decode cX5_share 48 = .ok (.iload 5, 2) := by decide +kernel
theorem dX5_share_50 : decode cX5_share 50 = .ok (.iload_n 3, 1) := by decide +kernel
theorem dX5_share_51 : decode cX5_share 51 = .ok (.ior, 1) := by decide +kernel
theorem dX5_share_52 : decode cX5_share 52 = .ok (.invokevirtual 173, 3) := by decide +kernel
theorem dX5_share_55 : decode cX5_share 55 = .ok (.aload_n 0, 1) := by decide +kernel
theorem dX5_share_56 : decode cX5_share 56 = .ok (.getfield 19, 3) := by decide +kernel
theorem dX5_share_59 : decode cX5_share 59 = .ok (.iload 5, 2) := by decide +kernel
theorem dX5_share_61 : decode cX5_share 61 = .ok (.invokevirtual 173, 3) := by decide +kernel
theorem dX5_share_64 : decode cX5_share 64 = .ok (.isub, 1) := by decide +kernel
theorem dX5_share_65 : decode cX5_share 65 = .ok (.istore 6, 2) := by decide +kernel
theorem dX5_share_67 : decode cX5_share 67 = .ok (.iload 4, 2) := by decide +kernel
theorem dX5_share_69 : decode cX5_share 69 = .ok (.iload 6, 2) := by decide +kernel
theorem dX5_share_71 : decode cX5_share 71 = .ok (.aload_n 0, 1) := by decide +kernel
theorem dX5_share_72 : decode cX5_share 72 = .ok (.iload 5, 2) := by decide +kernel
theorem dX5_share_74 : decode cX5_share 74 = .ok (.invokestatic 176, 3) := by decide +kernel
theorem dX5_share_77 : decode cX5_share 77 = .ok (.invokevirtual 181, 3) := by decide +kernel
theorem dX5_share_80 : decode cX5_share 80 = .ok (.imul, 1) := by decide +kernel
theorem dX5_share_81 : decode cX5_share 81 = .ok (.iadd, 1) := by decide +kernel
theorem dX5_share_82 : decode cX5_share 82 = .ok (.istore 4, 2) := by decide +kernel
theorem dX5_share_84 : decode cX5_share 84 = .ok (.iinc 5 1, 3) := by decide +kernel
theorem dX5_share_87 : decode cX5_share 87 = .ok (.goto (-64), 3) := by decide +kernel
theorem dX5_share_90 : decode cX5_share 90 = .ok (.iload 4, 2) := by decide +kernel
theorem dX5_share_92 : decode cX5_share 92 = .ok (.aload_n 0, 1) := by decide +kernel
theorem dX5_share_93 : decode cX5_share 93 = .ok (.getfield 19, 3) := by decide +kernel
theorem dX5_share_96 : decode cX5_share 96 = .ok (.getfield 80, 3) := by decide +kernel
theorem dX5_share_99 : decode cX5_share 99 = .ok (.invokestatic 184, 3) := by decide +kernel
theorem dX5_share_102 : decode cX5_share 102 = .ok (.iload_n 2, 1) := by decide +kernel
theorem dX5_share_103 : decode cX5_share 103 = .ok (.invokestatic 187, 3) := by decide +kernel
theorem dX5_share_106 : decode cX5_share 106 = .ok (.ireturn, 1) := by decide +kernel
theorem dX5_attempt_0 : decode cX5_attempt 0 = .ok (.iload_n 1, 1) := by decide +kernel
theorem dX5_attempt_1 : decode cX5_attempt 1 = .ok (.ifCond .lt 18, 3) := by decide +kernel
theorem dX5_attempt_4 : decode cX5_attempt 4 = .ok (.iload_n 1, 1) := by decide +kernel
theorem dX5_attempt_5 : decode cX5_attempt 5 = .ok (.bipush 31, 2) := by decide +kernel
theorem dX5_attempt_7 : decode cX5_attempt 7 = .ok (.if_icmp .gt 12, 3) := by decide +kernel
theorem dX5_attempt_10 : decode cX5_attempt 10 = .ok (.iload_n 2, 1) := by decide +kernel
theorem dX5_attempt_11 : decode cX5_attempt 11 = .ok (.ifCond .lt 8, 3) := by decide +kernel
theorem dX5_attempt_14 : decode cX5_attempt 14 = .ok (.iload_n 2, 1) := by decide +kernel
theorem dX5_attempt_15 : decode cX5_attempt 15 = .ok (.iconst 1, 1) := by decide +kernel
theorem dX5_attempt_16 : decode cX5_attempt 16 = .ok (.if_icmp .le 6, 3) := by decide +kernel
theorem dX5_attempt_19 : decode cX5_attempt 19 = .ok (.bipush (-2), 2) := by decide +kernel
theorem dX5_attempt_21 : decode cX5_attempt 21 = .ok (.ireturn, 1) := by decide +kernel
theorem dX5_attempt_22 : decode cX5_attempt 22 = .ok (.aload_n 0, 1) := by decide +kernel
theorem dX5_attempt_23 : decode cX5_attempt 23 = .ok (.getfield 33, 3) := by decide +kernel
theorem dX5_attempt_26 : decode cX5_attempt 26 = .ok (.iload_n 1, 1) := by decide +kernel
theorem dX5_attempt_27 : decode cX5_attempt 27 = .ok (.iload_n 2, 1) := by decide +kernel
theorem dX5_attempt_28 : decode cX5_attempt 28 = .ok (.iconst 1, 1) := by decide +kernel
theorem dX5_attempt_29 : decode cX5_attempt 29 = .ok (.if_icmp .ne 7, 3) := by decide +kernel
theorem dX5_attempt_32 : decode cX5_attempt 32 = .ok (.iconst 1, 1) := by decide +kernel
theorem dX5_attempt_33 : decode cX5_attempt 33 = .ok (.goto 4, 3) := by decide +kernel
theorem dX5_attempt_36 : decode cX5_attempt 36 = .ok (.iconst 0, 1) := by decide +kernel
theorem dX5_attempt_37 : decode cX5_attempt 37 = .ok (.invokevirtual 191, 3) := by decide +kernel
theorem dX5_attempt_40 : decode cX5_attempt 40 = .ok (.ifCond .eq 13, 3) := by decide +kernel
theorem dX5_attempt_43 : decode cX5_attempt 43 = .ok (.aload_n 0, 1) := by decide +kernel
theorem dX5_attempt_44 : decode cX5_attempt 44 = .ok (.getfield 33, 3) := by decide +kernel
theorem dX5_attempt_47 : decode cX5_attempt 47 = .ok (.getfield 102, 3) := by decide +kernel
theorem dX5_attempt_50 : decode cX5_attempt 50 = .ok (.goto 5, 3) := by decide +kernel
theorem dX5_attempt_53 : decode cX5_attempt 53 = .ok (.bipush (-4), 2) := by decide +kernel
theorem dX5_attempt_55 : decode cX5_attempt 55 = .ok (.ireturn, 1) := by decide +kernel
theorem dX5_unattempt_0 : decode cX5_unattempt 0 = .ok (.aload_n 0, 1) := by decide +kernel
theorem dX5_unattempt_1 : decode cX5_unattempt 1 = .ok (.getfield 33, 3) := by decide +kernel
theorem dX5_unattempt_4 : decode cX5_unattempt 4 = .ok (.getfield 102, 3) := by decide +kernel
theorem dX5_unattempt_7 : decode cX5_unattempt 7 = .ok (.istore_n 1, 1) := by decide +kernel
theorem dX5_unattempt_8 : decode cX5_unattempt 8 = .ok (.aload_n 0, 1) := by decide +kernel
theorem dX5_unattempt_9 : decode cX5_unattempt 9 = .ok (.getfield 33, 3) := by decide +kernel
theorem dX5_unattempt_12 : decode cX5_unattempt 12 = .ok (.iconst 0, 1) := by decide +kernel
theorem dX5_unattempt_13 : decode cX5_unattempt 13 = .ok (.putfield 102, 3) := by decide +kernel
theorem dX5_unattempt_16 : decode cX5_unattempt 16 = .ok (.iload_n 1, 1) := by decide +kernel
theorem dX5_unattempt_17 : decode cX5_unattempt 17 = .ok (.ireturn, 1) := by decide +kernel
theorem dX5_kinds_0 : decode cX5_kinds 0 = .ok (.iload_n 1, 1) := by decide +kernel
theorem dX5_kinds_1 : decode cX5_kinds 1 = .ok (.invokestatic 149, 3) := by decide +kernel
theorem dX5_kinds_4 : decode cX5_kinds 4 = .ok (.ifCond .ne 6, 3) := by decide +kernel
theorem dX5_kinds_7 : decode cX5_kinds 7 = .ok (.bipush (-2), 2) := by decide +kernel
theorem dX5_kinds_9 : decode cX5_kinds 9 = .ok (.ireturn, 1) := by decide +kernel
theorem dX5_kinds_10 : decode cX5_kinds 10 = .ok (.iconst 0, 1) := by decide +kernel
theorem dX5_kinds_11 : decode cX5_kinds 11 = .ok (.istore_n 2, 1) := by decide +kernel
theorem dX5_kinds_12 : decode cX5_kinds 12 = .ok (.bipush (-9), 2) := by decide +kernel
theorem dX5_kinds_14 : decode cX5_kinds 14 = .ok (.istore_n 3, 1) := by decide +kernel
theorem dX5_kinds_15 : decode cX5_kinds 15 = .ok (.iconst 0, 1) := by decide +kernel
theorem dX5_kinds_16 : decode cX5_kinds 16 = .ok (.istore 4, 2) := by decide +kernel
theorem dX5_kinds_18 : decode cX5_kinds 18 = .ok (.iload 4, 2) := by decide +kernel
theorem dX5_kinds_20 : decode cX5_kinds 20 = .ok (.iconst 4, 1) := by decide +kernel
theorem dX5_kinds_21 : decode cX5_kinds 21 = .ok (.if_icmp .ge 58, 3) := by decide +kernel
theorem dX5_kinds_24 : decode cX5_kinds 24 = .ok (.iconst 0, 1) := by decide +kernel
theorem dX5_kinds_25 : decode cX5_kinds 25 = .ok (.istore 5, 2) := by decide +kernel
theorem dX5_kinds_27 : decode cX5_kinds 27 = .ok (.iload 5, 2) := by decide +kernel
theorem dX5_kinds_29 : decode cX5_kinds 29 = .ok (.iconst 4, 1) := by decide +kernel
theorem dX5_kinds_30 : decode cX5_kinds 30 = .ok (.if_icmp .ge 43, 3) := by decide +kernel
theorem dX5_kinds_33 : decode cX5_kinds 33 = .ok (.aload_n 0, 1) := by decide +kernel
theorem dX5_kinds_34 : decode cX5_kinds 34 = .ok (.getfield 33, 3) := by decide +kernel
theorem dX5_kinds_37 : decode cX5_kinds 37 = .ok (.iload 4, 2) := by decide +kernel
theorem dX5_kinds_39 : decode cX5_kinds 39 = .ok (.iload 5, 2) := by decide +kernel
theorem dX5_kinds_41 : decode cX5_kinds 41 = .ok (.invokevirtual 195, 3) := by decide +kernel
theorem dX5_kinds_44 : decode cX5_kinds 44 = .ok (.ifCond .eq 23, 3) := by decide +kernel
theorem dX5_kinds_47 : decode cX5_kinds 47 = .ok (.iload_n 2, 1) := by decide +kernel
theorem dX5_kinds_48 : decode cX5_kinds 48 = .ok (.ifCond .ne 14, 3) := by decide +kernel
theorem dX5_kinds_51 : decode cX5_kinds 51 = .ok (.bipush 10, 2) := by decide +kernel
theorem dX5_kinds_53 : decode cX5_kinds 53 = .ok (.iload 4, 2) := by decide +kernel
theorem dX5_kinds_55 : decode cX5_kinds 55 = .ok (.imul, 1) := by decide +kernel
theorem dX5_kinds_56 : decode cX5_kinds 56 = .ok (.iload 5, 2) := by decide +kernel
theorem dX5_kinds_58 : decode cX5_kinds 58 = .ok (.iadd, 1) := by decide +kernel
theorem dX5_kinds_59 : decode cX5_kinds 59 = .ok (.goto 4, 3) := by decide +kernel
theorem dX5_kinds_62 : decode cX5_kinds 62 = .ok (.iload_n 3, 1) := by decide +kernel
theorem dX5_kinds_63 : decode cX5_kinds 63 = .ok (.istore_n 3, 1) := by decide +kernel
theorem dX5_kinds_64 : decode cX5_kinds 64 = .ok (.iinc 2 1, 3) := by decide +kernel
theorem dX5_kinds_67 : decode cX5_kinds 67 = .ok (.iinc 5 1, 3) := by decide +kernel
theorem dX5_kinds_70 : decode cX5_kinds 70 = .ok (.goto (-43), 3) := by decide +kernel
theorem dX5_kinds_73 : decode cX5_kinds 73 = .ok (.iinc 4 1, 3) := by decide +kernel
theorem dX5_kinds_76 : decode cX5_kinds 76 = .ok (.goto (-58), 3) := by decide +kernel
theorem dX5_kinds_79 : decode cX5_kinds 79 = .ok (.iload_n 1, 1) := by decide +kernel
theorem dX5_kinds_80 : decode cX5_kinds 80 = .ok (.ifCond .ne 7, 3) := by decide +kernel
theorem dX5_kinds_83 : decode cX5_kinds 83 = .ok (.iload_n 2, 1) := by decide +kernel
theorem dX5_kinds_84 : decode cX5_kinds 84 = .ok (.goto 4, 3) := by decide +kernel
theorem dX5_kinds_87 : decode cX5_kinds 87 = .ok (.iload_n 3, 1) := by decide +kernel
theorem dX5_kinds_88 : decode cX5_kinds 88 = .ok (.ireturn, 1) := by decide +kernel
theorem dX5_rests_0 : decode cX5_rests 0 = .ok (.iload_n 1, 1) := by decide +kernel
theorem dX5_rests_1 : decode cX5_rests 1 = .ok (.invokestatic 114, 3) := by decide +kernel
theorem dX5_rests_4 : decode cX5_rests 4 = .ok (.ifCond .eq 10, 3) := by decide +kernel
theorem dX5_rests_7 : decode cX5_rests 7 = .ok (.iload_n 2, 1) := by decide +kernel
theorem dX5_rests_8 : decode cX5_rests 8 = .ok (.invokestatic 114, 3) := by decide +kernel
theorem dX5_rests_11 : decode cX5_rests 11 = .ok (.ifCond .ne 5, 3) := by decide +kernel
theorem dX5_rests_14 : decode cX5_rests 14 = .ok (.iconst (-1), 1) := by decide +kernel
theorem dX5_rests_15 : decode cX5_rests 15 = .ok (.ireturn, 1) := by decide +kernel
theorem dX5_rests_16 : decode cX5_rests 16 = .ok (.iload_n 1, 1) := by decide +kernel
theorem dX5_rests_17 : decode cX5_rests 17 = .ok (.iload_n 2, 1) := by decide +kernel
theorem dX5_rests_18 : decode cX5_rests 18 = .ok (.if_icmp .eq 10, 3) := by decide +kernel
theorem dX5_rests_21 : decode cX5_rests 21 = .ok (.iload_n 3, 1) := by decide +kernel
theorem dX5_rests_22 : decode cX5_rests 22 = .ok (.invokestatic 149, 3) := by decide +kernel
theorem dX5_rests_25 : decode cX5_rests 25 = .ok (.ifCond .ne 6, 3) := by decide +kernel
theorem dX5_rests_28 : decode cX5_rests 28 = .ok (.bipush (-2), 2) := by decide +kernel
theorem dX5_rests_30 : decode cX5_rests 30 = .ok (.ireturn, 1) := by decide +kernel
theorem dX5_rests_31 : decode cX5_rests 31 = .ok (.iconst 0, 1) := by decide +kernel
theorem dX5_rests_32 : decode cX5_rests 32 = .ok (.istore 4, 2) := by decide +kernel
theorem dX5_rests_34 : decode cX5_rests 34 = .ok (.bipush (-9), 2) := by decide +kernel
theorem dX5_rests_36 : decode cX5_rests 36 = .ok (.istore 5, 2) := by decide +kernel
theorem dX5_rests_38 : decode cX5_rests 38 = .ok (.iconst 0, 1) := by decide +kernel
theorem dX5_rests_39 : decode cX5_rests 39 = .ok (.istore 6, 2) := by decide +kernel
theorem dX5_rests_41 : decode cX5_rests 41 = .ok (.iload 6, 2) := by decide +kernel
theorem dX5_rests_43 : decode cX5_rests 43 = .ok (.iconst 3, 1) := by decide +kernel
theorem dX5_rests_44 : decode cX5_rests 44 = .ok (.if_icmp .ge 60, 3) := by decide +kernel
theorem dX5_rests_47 : decode cX5_rests 47 = .ok (.iconst 0, 1) := by decide +kernel
theorem dX5_rests_48 : decode cX5_rests 48 = .ok (.istore 7, 2) := by decide +kernel
theorem dX5_rests_50 : decode cX5_rests 50 = .ok (.iload 7, 2) := by decide +kernel
theorem dX5_rests_52 : decode cX5_rests 52 = .ok (.iconst 3, 1) := by decide +kernel
theorem dX5_rests_53 : decode cX5_rests 53 = .ok (.if_icmp .ge 45, 3) := by decide +kernel
theorem dX5_rests_56 : decode cX5_rests 56 = .ok (.aload_n 0, 1) := by decide +kernel
theorem dX5_rests_57 : decode cX5_rests 57 = .ok (.iload_n 1, 1) := by decide +kernel
theorem dX5_rests_58 : decode cX5_rests 58 = .ok (.iload_n 2, 1) := by decide +kernel
theorem dX5_rests_59 : decode cX5_rests 59 = .ok (.iload 6, 2) := by decide +kernel
theorem dX5_rests_61 : decode cX5_rests 61 = .ok (.iload 7, 2) := by decide +kernel
theorem dX5_rests_63 : decode cX5_rests 63 = .ok (.invokevirtual 198, 3) := by decide +kernel
theorem dX5_rests_66 : decode cX5_rests 66 = .ok (.ifCond .eq 26, 3) := by decide +kernel
theorem dX5_rests_69 : decode cX5_rests 69 = .ok (.iload 4, 2) := by decide +kernel
theorem dX5_rests_71 : decode cX5_rests 71 = .ok (.ifCond .ne 14, 3) := by decide +kernel
theorem dX5_rests_74 : decode cX5_rests 74 = .ok (.bipush 10, 2) := by decide +kernel
theorem dX5_rests_76 : decode cX5_rests 76 = .ok (.iload 6, 2) := by decide +kernel
theorem dX5_rests_78 : decode cX5_rests 78 = .ok (.imul, 1) := by decide +kernel
theorem dX5_rests_79 : decode cX5_rests 79 = .ok (.iload 7, 2) := by decide +kernel
theorem dX5_rests_81 : decode cX5_rests 81 = .ok (.iadd, 1) := by decide +kernel
theorem dX5_rests_82 : decode cX5_rests 82 = .ok (.goto 5, 3) := by decide +kernel
theorem dX5_rests_85 : decode cX5_rests 85 = .ok (.iload 5, 2) := by decide +kernel
theorem dX5_rests_87 : decode cX5_rests 87 = .ok (.istore 5, 2) := by decide +kernel
theorem dX5_rests_89 : decode cX5_rests 89 = .ok (.iinc 4 1, 3) := by decide +kernel
theorem dX5_rests_92 : decode cX5_rests 92 = .ok (.iinc 7 1, 3) := by decide +kernel
theorem dX5_rests_95 : decode cX5_rests 95 = .ok (.goto (-45), 3) := by decide +kernel
theorem dX5_rests_98 : decode cX5_rests 98 = .ok (.iinc 6 1, 3) := by decide +kernel
theorem dX5_rests_101 : decode cX5_rests 101 = .ok (.goto (-60), 3) := by decide +kernel
theorem dX5_rests_104 : decode cX5_rests 104 = .ok (.iload_n 3, 1) := by decide +kernel
theorem dX5_rests_105 : decode cX5_rests 105 = .ok (.ifCond .ne 8, 3) := by decide +kernel
theorem dX5_rests_108 : decode cX5_rests 108 = .ok (.iload 4, 2) := by decide +kernel
theorem dX5_rests_110 : decode cX5_rests 110 = .ok (.goto 5, 3) := by decide +kernel
theorem dX5_rests_113 : decode cX5_rests 113 = .ok (.iload 5, 2) := by decide +kernel
theorem dX5_rests_115 : decode cX5_rests 115 = .ok (.ireturn, 1) := by decide +kernel
theorem dX5_wet_0 : decode cX5_wet 0 = .ok (.iload_n 1, 1) := by decide +kernel
theorem dX5_wet_1 : decode cX5_wet 1 = .ok (.ifCond .lt 19, 3) := by decide +kernel
theorem dX5_wet_4 : decode cX5_wet 4 = .ok (.iload_n 1, 1) := by decide +kernel
theorem dX5_wet_5 : decode cX5_wet 5 = .ok (.bipush 7, 2) := by decide +kernel
theorem dX5_wet_7 : decode cX5_wet 7 = .ok (.if_icmp .gt 13, 3) := by decide +kernel
theorem dX5_wet_10 : decode cX5_wet 10 = .ok (.iload_n 2, 1) := by decide +kernel
theorem dX5_wet_11 : decode cX5_wet 11 = .ok (.ifCond .lt 9, 3) := by decide +kernel
theorem dX5_wet_14 : decode cX5_wet 14 = .ok (.iload_n 2, 1) := by decide +kernel
theorem dX5_wet_15 : decode cX5_wet 15 = .ok (.bipush 10, 2) := by decide +kernel
theorem dX5_wet_17 : decode cX5_wet 17 = .ok (.if_icmp .le 6, 3) := by decide +kernel
theorem dX5_wet_20 : decode cX5_wet 20 = .ok (.bipush (-2), 2) := by decide +kernel
theorem dX5_wet_22 : decode cX5_wet 22 = .ok (.ireturn, 1) := by decide +kernel
theorem dX5_wet_23 : decode cX5_wet 23 = .ok (.iconst 0, 1) := by decide +kernel
theorem dX5_wet_24 : decode cX5_wet 24 = .ok (.istore 4, 2) := by decide +kernel
theorem dX5_wet_26 : decode cX5_wet 26 = .ok (.iconst 1, 1) := by decide +kernel
theorem dX5_wet_27 : decode cX5_wet 27 = .ok (.istore 5, 2) := by decide +kernel
theorem dX5_wet_29 : decode cX5_wet 29 = .ok (.iconst 0, 1) := by decide +kernel
theorem dX5_wet_30 : decode cX5_wet 30 = .ok (.istore 6, 2) := by decide +kernel
theorem dX5_wet_32 : decode cX5_wet 32 = .ok (.iload 6, 2) := by decide +kernel
theorem dX5_wet_34 : decode cX5_wet 34 = .ok (.iconst 4, 1) := by decide +kernel
theorem dX5_wet_35 : decode cX5_wet 35 = .ok (.if_icmp .ge 36, 3) := by decide +kernel
theorem dX5_wet_38 : decode cX5_wet 38 = .ok (.iload 5, 2) := by decide +kernel
theorem dX5_wet_40 : decode cX5_wet 40 = .ok (.aload_n 0, 1) := by decide +kernel
theorem dX5_wet_41 : decode cX5_wet 41 = .ok (.getfield 19, 3) := by decide +kernel
theorem dX5_wet_44 : decode cX5_wet 44 = .ok (.aload_n 0, 1) := by decide +kernel
theorem dX5_wet_45 : decode cX5_wet 45 = .ok (.getfield 48, 3) := by decide +kernel
theorem dX5_wet_48 : decode cX5_wet 48 = .ok (.iload 6, 2) := by decide +kernel
theorem dX5_wet_50 : decode cX5_wet 50 = .ok (.invokevirtual 133, 3) := by decide +kernel
theorem dX5_wet_53 : decode cX5_wet 53 = .ok (.ifCond .eq 8, 3) := by decide +kernel
theorem dX5_wet_56 : decode cX5_wet 56 = .ok (.bipush 10, 2) := by decide +kernel
theorem dX5_wet_58 : decode cX5_wet 58 = .ok (.goto 4, 3) := by decide +kernel
theorem dX5_wet_61 : decode cX5_wet 61 = .ok (.iconst 1, 1) := by decide +kernel
theorem dX5_wet_62 : decode cX5_wet 62 = .ok (.imul, 1) := by decide +kernel
theorem dX5_wet_63 : decode cX5_wet 63 = .ok (.istore 5, 2) := by decide +kernel
theorem dX5_wet_65 : decode cX5_wet 65 = .ok (.iinc 6 1, 3) := by decide +kernel
theorem dX5_wet_68 : decode cX5_wet 68 = .ok (.goto (-36), 3) := by decide +kernel
theorem dX5_wet_71 : decode cX5_wet 71 = .ok (.iconst 0, 1) := by decide +kernel
theorem dX5_wet_72 : decode cX5_wet 72 = .ok (.istore 6, 2) := by decide +kernel
theorem dX5_wet_74 : decode cX5_wet 74 = .ok (.iload 6, 2) := by decide +kernel
theorem dX5_wet_76 : decode cX5_wet 76 = .ok (.bipush 16, 2) := by decide +kernel
theorem dX5_wet_78 : decode cX5_wet 78 = .ok (.if_icmp .ge 34, 3) := by decide +kernel
theorem dX5_wet_81 : decode cX5_wet 81 = .ok (.aload_n 0, 1) := by decide +kernel
theorem dX5_wet_82 : decode cX5_wet 82 = .ok (.iload 6, 2) := by decide +kernel
theorem dX5_wet_84 : decode cX5_wet 84 = .ok (.invokevirtual 202, 3) := by decide +kernel
theorem dX5_wet_87 : decode cX5_wet 87 = .ok (.invokestatic 176, 3) := by decide +kernel
theorem dX5_wet_90 : decode cX5_wet 90 = .ok (.iload_n 1, 1) := by decide +kernel
theorem dX5_wet_91 : decode cX5_wet 91 = .ok (.if_icmp .lt 15, 3) := by decide +kernel
theorem dX5_wet_94 : decode cX5_wet 94 = .ok (.iload 4, 2) := by decide +kernel
theorem dX5_wet_96 : decode cX5_wet 96 = .ok (.aload_n 0, 1) := by decide +kernel
theorem dX5_wet_97 : decode cX5_wet 97 = .ok (.iload 6, 2) := by decide +kernel
theorem dX5_wet_99 : decode cX5_wet 99 = .ok (.iload_n 2, 1) := by decide +kernel
theorem dX5_wet_100 : decode cX5_wet 100 = .ok (.invokevirtual 205, 3) := by decide +kernel
theorem dX5_wet_103 : decode cX5_wet 103 = .ok (.iadd, 1) := by decide +kernel
theorem dX5_wet_104 : decode cX5_wet 104 = .ok (.istore 4, 2) := by decide +kernel
theorem dX5_wet_106 : decode cX5_wet 106 = .ok (.iinc 6 1, 3) := by decide +kernel
theorem dX5_wet_109 : decode cX5_wet 109 = .ok (.goto (-35), 3) := by decide +kernel
theorem dX5_wet_112 : decode cX5_wet 112 = .ok (.iload 4, 2) := by decide +kernel
theorem dX5_wet_114 : decode cX5_wet 114 = .ok (.iload 5, 2) := by decide +kernel
theorem dX5_wet_116 : decode cX5_wet 116 = .ok (.iload_n 3, 1) := by decide +kernel
theorem dX5_wet_117 : decode cX5_wet 117 = .ok (.invokestatic 187, 3) := by decide +kernel
theorem dX5_wet_120 : decode cX5_wet 120 = .ok (.ireturn, 1) := by decide +kernel
theorem dX5_seed_0 : decode cX5_seed 0 = .ok (.aload_n 0, 1) := by decide +kernel
theorem dX5_seed_1 : decode cX5_seed 1 = .ok (.getfield 55, 3) := by decide +kernel
theorem dX5_seed_4 : decode cX5_seed 4 = .ok (.lstore_n 3, 1) := by decide +kernel
theorem dX5_seed_5 : decode cX5_seed 5 = .ok (.aload_n 0, 1) := by decide +kernel
theorem dX5_seed_6 : decode cX5_seed 6 = .ok (.lload_n 1, 1) := by decide +kernel
theorem dX5_seed_7 : decode cX5_seed 7 = .ok (.putfield 55, 3) := by decide +kernel
theorem dX5_seed_10 : decode cX5_seed 10 = .ok (.lload_n 3, 1) := by decide +kernel
theorem dX5_seed_11 : decode cX5_seed 11 = .ok (.lreturn, 1) := by decide +kernel
theorem dX5_terms_0 : decode cX5_terms 0 = .ok (.iload_n 1, 1) := by decide +kernel
theorem dX5_terms_1 : decode cX5_terms 1 = .ok (.iconst 1, 1) := by decide +kernel
theorem dX5_terms_2 : decode cX5_terms 2 = .ok (.if_icmp .lt 9, 3) := by decide +kernel
theorem dX5_terms_5 : decode cX5_terms 5 = .ok (.iload_n 1, 1) := by decide +kernel
theorem dX5_terms_6 : decode cX5_terms 6 = .ok (.bipush 30, 2) := by decide +kernel
theorem dX5_terms_8 : decode cX5_terms 8 = .ok (.if_icmp .le 6, 3) := by decide +kernel
theorem dX5_terms_11 : decode cX5_terms 11 = .ok (.bipush (-2), 2) := by decide +kernel
theorem dX5_terms_13 : decode cX5_terms 13 = .ok (.ireturn, 1) := by decide +kernel
theorem dX5_terms_14 : decode cX5_terms 14 = .ok (.aload_n 0, 1) := by decide +kernel
theorem dX5_terms_15 : decode cX5_terms 15 = .ok (.getfield 48, 3) := by decide +kernel
theorem dX5_terms_18 : decode cX5_terms 18 = .ok (.istore_n 2, 1) := by decide +kernel
theorem dX5_terms_19 : decode cX5_terms 19 = .ok (.iconst 0, 1) := by decide +kernel
theorem dX5_terms_20 : decode cX5_terms 20 = .ok (.istore_n 3, 1) := by decide +kernel
theorem dX5_terms_21 : decode cX5_terms 21 = .ok (.iconst 0, 1) := by decide +kernel
theorem dX5_terms_22 : decode cX5_terms 22 = .ok (.istore 4, 2) := by decide +kernel
theorem dX5_terms_24 : decode cX5_terms 24 = .ok (.iload 4, 2) := by decide +kernel
theorem dX5_terms_26 : decode cX5_terms 26 = .ok (.iload_n 1, 1) := by decide +kernel
theorem dX5_terms_27 : decode cX5_terms 27 = .ok (.if_icmp .ge 50, 3) := by decide +kernel
theorem dX5_terms_30 : decode cX5_terms 30 = .ok (.aload_n 0, 1) := by decide +kernel
theorem dX5_terms_31 : decode cX5_terms 31 = .ok (.aload_n 0, 1) := by decide +kernel
theorem dX5_terms_32 : decode cX5_terms 32 = .ok (.getfield 55, 3) := by decide +kernel
theorem dX5_terms_35 : decode cX5_terms 35 = .ok (.ldc2_w 208, 3) := by decide +kernel
theorem dX5_terms_38 : decode cX5_terms 38 = .ok (.lmul, 1) := by decide +kernel
theorem dX5_terms_39 : decode cX5_terms 39 = .ok (.ldc2_w 210, 3) := by decide +kernel
theorem dX5_terms_42 : decode cX5_terms 42 = .ok (.ladd, 1) := by decide +kernel
theorem dX5_terms_43 : decode cX5_terms 43 = .ok (.putfield 55, 3) := by decide +kernel
theorem dX5_terms_46 : decode cX5_terms 46 = .ok (.aload_n 0, 1) := by decide +kernel
theorem dX5_terms_47 : decode cX5_terms 47 = .ok (.iload_n 2, 1) := by decide +kernel
theorem dX5_terms_48 : decode cX5_terms 48 = .ok (.aload_n 0, 1) := by decide +kernel
theorem dX5_terms_49 : decode cX5_terms 49 = .ok (.getfield 55, 3) := by decide +kernel
theorem dX5_terms_52 : decode cX5_terms 52 = .ok (.bipush 33, 2) := by decide +kernel
theorem dX5_terms_54 : decode cX5_terms 54 = .ok (.lushr, 1) := by decide +kernel
theorem dX5_terms_55 : decode cX5_terms 55 = .ok (.ldc2_w 212, 3) := by decide +kernel
theorem dX5_terms_58 : decode cX5_terms 58 = .ok (.lrem, 1) := by decide +kernel
theorem dX5_terms_59 : decode cX5_terms 59 = .ok (.l2i, 1) := by decide +kernel
theorem dX5_terms_60 : decode cX5_terms 60 = .ok (.invokevirtual 214, 3) := by decide +kernel
theorem dX5_terms_63 : decode cX5_terms 63 = .ok (.istore_n 2, 1) := by decide +kernel
theorem dX5_terms_64 : decode cX5_terms 64 = .ok (.iload_n 3, 1) := by decide +kernel
theorem dX5_terms_65 : decode cX5_terms 65 = .ok (.iload_n 2, 1) := by decide +kernel
theorem dX5_terms_66 : decode cX5_terms 66 = .ok (.invokestatic 130, 3) := by decide +kernel
theorem dX5_terms_69 : decode cX5_terms 69 = .ok (.iadd, 1) := by decide +kernel
theorem dX5_terms_70 : decode cX5_terms 70 = .ok (.istore_n 3, 1) := by decide +kernel
theorem dX5_terms_71 : decode cX5_terms 71 = .ok (.iinc 4 1, 3) := by decide +kernel
theorem dX5_terms_74 : decode cX5_terms 74 = .ok (.goto (-50), 3) := by decide +kernel
theorem dX5_terms_77 : decode cX5_terms 77 = .ok (.iload_n 3, 1) := by decide +kernel
theorem dX5_terms_78 : decode cX5_terms 78 = .ok (.ireturn, 1) := by decide +kernel
theorem dX5_keep_0 : decode cX5_keep 0 = .ok (.iload_n 1, 1) := by decide +kernel
theorem dX5_keep_1 : decode cX5_keep 1 = .ok (.ifCond .lt 8, 3) := by decide +kernel
theorem dX5_keep_4 : decode cX5_keep 4 = .ok (.iload_n 1, 1) := by decide +kernel
theorem dX5_keep_5 : decode cX5_keep 5 = .ok (.iconst 2, 1) := by decide +kernel
theorem dX5_keep_6 : decode cX5_keep 6 = .ok (.if_icmp .lt 5, 3) := by decide +kernel
theorem dX5_keep_9 : decode cX5_keep 9 = .ok (.iconst (-1), 1) := by decide +kernel
theorem dX5_keep_10 : decode cX5_keep 10 = .ok (.ireturn, 1) := by decide +kernel
theorem dX5_keep_11 : decode cX5_keep 11 = .ok (.aload_n 0, 1) := by decide +kernel
theorem dX5_keep_12 : decode cX5_keep 12 = .ok (.getfield 37, 3) := by decide +kernel
theorem dX5_keep_15 : decode cX5_keep 15 = .ok (.iload_n 1, 1) := by decide +kernel
theorem dX5_keep_16 : decode cX5_keep 16 = .ok (.iconst 1, 1) := by decide +kernel
theorem dX5_keep_17 : decode cX5_keep 17 = .ok (.bastore, 1) := by decide +kernel
theorem dX5_keep_18 : decode cX5_keep 18 = .ok (.aload_n 0, 1) := by decide +kernel
theorem dX5_keep_19 : decode cX5_keep 19 = .ok (.getfield 41, 3) := by decide +kernel
theorem dX5_keep_22 : decode cX5_keep 22 = .ok (.iload_n 1, 1) := by decide +kernel
theorem dX5_keep_23 : decode cX5_keep 23 = .ok (.aload_n 0, 1) := by decide +kernel
theorem dX5_keep_24 : decode cX5_keep 24 = .ok (.getfield 48, 3) := by decide +kernel
theorem dX5_keep_27 : decode cX5_keep 27 = .ok (.iastore, 1) := by decide +kernel
theorem dX5_keep_28 : decode cX5_keep 28 = .ok (.aload_n 0, 1) := by decide +kernel
theorem dX5_keep_29 : decode cX5_keep 29 = .ok (.getfield 45, 3) := by decide +kernel
theorem dX5_keep_32 : decode cX5_keep 32 = .ok (.iload_n 1, 1) := by decide +kernel
theorem dX5_keep_33 : decode cX5_keep 33 = .ok (.aload_n 0, 1) := by decide +kernel
theorem dX5_keep_34 : decode cX5_keep 34 = .ok (.getfield 52, 3) := by decide +kernel
theorem dX5_keep_37 : decode cX5_keep 37 = .ok (.iastore, 1) := by decide +kernel
theorem dX5_keep_38 : decode cX5_keep 38 = .ok (.aload_n 0, 1) := by decide +kernel
theorem dX5_keep_39 : decode cX5_keep 39 = .ok (.invokevirtual 87, 3) := by decide +kernel
theorem dX5_keep_42 : decode cX5_keep 42 = .ok (.ireturn, 1) := by decide +kernel
theorem dX5_again_0 : decode cX5_again 0 = .ok (.iload_n 1, 1) := by decide +kernel
theorem dX5_again_1 : decode cX5_again 1 = .ok (.ifCond .lt 8, 3) := by decide +kernel
theorem dX5_again_4 : decode cX5_again 4 = .ok (.iload_n 1, 1) := by decide +kernel
theorem dX5_again_5 : decode cX5_again 5 = .ok (.iconst 2, 1) := by decide +kernel
theorem dX5_again_6 : decode cX5_again 6 = .ok (.if_icmp .lt 5, 3) := by decide +kernel
theorem dX5_again_9 : decode cX5_again 9 = .ok (.iconst (-1), 1) := by decide +kernel
theorem dX5_again_10 : decode cX5_again 10 = .ok (.ireturn, 1) := by decide +kernel
theorem dX5_again_11 : decode cX5_again 11 = .ok (.aload_n 0, 1) := by decide +kernel
theorem dX5_again_12 : decode cX5_again 12 = .ok (.getfield 37, 3) := by decide +kernel
theorem dX5_again_15 : decode cX5_again 15 = .ok (.iload_n 1, 1) := by decide +kernel
theorem dX5_again_16 : decode cX5_again 16 = .ok (.baload, 1) := by decide +kernel
theorem dX5_again_17 : decode cX5_again 17 = .ok (.ifCond .ne 6, 3) := by decide +kernel
theorem dX5_again_20 : decode cX5_again 20 = .ok (.bipush (-3), 2) := by decide +kernel
theorem dX5_again_22 : decode cX5_again 22 = .ok (.ireturn, 1) := by decide +kernel
theorem dX5_again_23 : decode cX5_again 23 = .ok (.aload_n 0, 1) := by decide +kernel
theorem dX5_again_24 : decode cX5_again 24 = .ok (.aload_n 0, 1) := by decide +kernel
theorem dX5_again_25 : decode cX5_again 25 = .ok (.getfield 41, 3) := by decide +kernel
theorem dX5_again_28 : decode cX5_again 28 = .ok (.iload_n 1, 1) := by decide +kernel
theorem dX5_again_29 : decode cX5_again 29 = .ok (.iaload, 1) := by decide +kernel
theorem dX5_again_30 : decode cX5_again 30 = .ok (.putfield 48, 3) := by decide +kernel
theorem dX5_again_33 : decode cX5_again 33 = .ok (.aload_n 0, 1) := by decide +kernel
theorem dX5_again_34 : decode cX5_again 34 = .ok (.aload_n 0, 1) := by decide +kernel
theorem dX5_again_35 : decode cX5_again 35 = .ok (.getfield 45, 3) := by decide +kernel
theorem dX5_again_38 : decode cX5_again 38 = .ok (.iload_n 1, 1) := by decide +kernel
theorem dX5_again_39 : decode cX5_again 39 = .ok (.iaload, 1) := by decide +kernel
theorem dX5_again_40 : decode cX5_again 40 = .ok (.putfield 52, 3) := by decide +kernel
theorem dX5_again_43 : decode cX5_again 43 = .ok (.aload_n 0, 1) := by decide +kernel
theorem dX5_again_44 : decode cX5_again 44 = .ok (.getfield 26, 3) := by decide +kernel
theorem dX5_again_47 : decode cX5_again 47 = .ok (.iconst 0, 1) := by decide +kernel
theorem dX5_again_48 : decode cX5_again 48 = .ok (.putfield 74, 3) := by decide +kernel
theorem dX5_again_51 : decode cX5_again 51 = .ok (.aload_n 0, 1) := by decide +kernel
theorem dX5_again_52 : decode cX5_again 52 = .ok (.invokevirtual 87, 3) := by decide +kernel
theorem dX5_again_55 : decode cX5_again 55 = .ok (.ireturn, 1) := by decide +kernel
theorem dX5_isColumn_0 : decode cX5_isColumn 0 = .ok (.iload_n 0, 1) := by decide +kernel
theorem dX5_isColumn_1 : decode cX5_isColumn 1 = .ok (.ifCond .lt 12, 3) := by decide +kernel
theorem dX5_isColumn_4 : decode cX5_isColumn 4 = .ok (.iload_n 0, 1) := by decide +kernel
theorem dX5_isColumn_5 : decode cX5_isColumn 5 = .ok (.iconst 4, 1) := by decide +kernel
theorem dX5_isColumn_6 : decode cX5_isColumn 6 = .ok (.if_icmp .ge 7, 3) := by decide +kernel
theorem dX5_isColumn_9 : decode cX5_isColumn 9 = .ok (.iconst 1, 1) := by decide +kernel
theorem dX5_isColumn_10 : decode cX5_isColumn 10 = .ok (.goto 4, 3) := by decide +kernel
theorem dX5_isColumn_13 : decode cX5_isColumn 13 = .ok (.iconst 0, 1) := by decide +kernel
theorem dX5_isColumn_14 : decode cX5_isColumn 14 = .ok (.ireturn, 1) := by decide +kernel
theorem dX5_isCountOrFirst_0 : decode cX5_isCountOrFirst 0 = .ok (.iload_n 0, 1) := by decide +kernel
theorem dX5_isCountOrFirst_1 : decode cX5_isCountOrFirst 1 = .ok (.ifCond .eq 8, 3) := by decide +kernel
theorem dX5_isCountOrFirst_4 : decode cX5_isCountOrFirst 4 = .ok (.iload_n 0, 1) := by decide +kernel
theorem dX5_isCountOrFirst_5 : decode cX5_isCountOrFirst 5 = .ok (.iconst 1, 1) := by decide +kernel
theorem dX5_isCountOrFirst_6 : decode cX5_isCountOrFirst 6 = .ok (.if_icmp .ne 7, 3) := by decide +kernel
theorem dX5_isCountOrFirst_9 : decode cX5_isCountOrFirst 9 = .ok (.iconst 1, 1) := by decide +kernel
theorem dX5_isCountOrFirst_10 : decode cX5_isCountOrFirst 10 = .ok (.goto 4, 3) := by decide +kernel
theorem dX5_isCountOrFirst_13 : decode cX5_isCountOrFirst 13 = .ok (.iconst 0, 1) := by decide +kernel
theorem dX5_isCountOrFirst_14 : decode cX5_isCountOrFirst 14 = .ok (.ireturn, 1) := by decide +kernel
theorem dX5_allPoles_0 : decode cX5_allPoles 0 = .ok (.aload_n 0, 1) := by decide +kernel
theorem dX5_allPoles_1 : decode cX5_allPoles 1 = .ok (.getfield 48, 3) := by decide +kernel
theorem dX5_allPoles_4 : decode cX5_allPoles 4 = .ok (.invokestatic 112, 3) := by decide +kernel
theorem dX5_allPoles_7 : decode cX5_allPoles 7 = .ok (.invokestatic 176, 3) := by decide +kernel
theorem dX5_allPoles_10 : decode cX5_allPoles 10 = .ok (.ireturn, 1) := by decide +kernel
theorem dX5_leastRow_0 : decode cX5_leastRow 0 = .ok (.iload_n 2, 1) := by decide +kernel
theorem dX5_leastRow_1 : decode cX5_leastRow 1 = .ok (.iload_n 1, 1) := by decide +kernel
theorem dX5_leastRow_2 : decode cX5_leastRow 2 = .ok (.invokestatic 90, 3) := by decide +kernel
theorem dX5_leastRow_5 : decode cX5_leastRow 5 = .ok (.iconst (-1), 1) := by decide +kernel
theorem dX5_leastRow_6 : decode cX5_leastRow 6 = .ok (.ixor, 1) := by decide +kernel
theorem dX5_leastRow_7 : decode cX5_leastRow 7 = .ok (.iand, 1) := by decide +kernel
theorem dX5_leastRow_8 : decode cX5_leastRow 8 = .ok (.istore 4, 2) := by decide +kernel
theorem dX5_leastRow_10 : decode cX5_leastRow 10 = .ok (.iload_n 3, 1) := by decide +kernel
theorem dX5_leastRow_11 : decode cX5_leastRow 11 = .ok (.ifCond .gt 15, 3) := by decide +kernel
theorem dX5_leastRow_14 : decode cX5_leastRow 14 = .ok (.iload 4, 2) := by decide +kernel
theorem dX5_leastRow_16 : decode cX5_leastRow 16 = .ok (.ifCond .ne 7, 3) := by decide +kernel
theorem dX5_leastRow_19 : decode cX5_leastRow 19 = .ok (.iconst 0, 1) := by decide +kernel
theorem dX5_leastRow_20 : decode cX5_leastRow 20 = .ok (.goto 5, 3) := by decide +kernel
theorem dX5_leastRow_23 : decode cX5_leastRow 23 = .ok (.bipush (-9), 2) := by decide +kernel
theorem dX5_leastRow_25 : decode cX5_leastRow 25 = .ok (.ireturn, 1) := by decide +kernel
theorem dX5_leastRow_26 : decode cX5_leastRow 26 = .ok (.iload 4, 2) := by decide +kernel
theorem dX5_leastRow_28 : decode cX5_leastRow 28 = .ok (.invokestatic 217, 3) := by decide +kernel
theorem dX5_leastRow_31 : decode cX5_leastRow 31 = .ok (.iload_n 1, 1) := by decide +kernel
theorem dX5_leastRow_32 : decode cX5_leastRow 32 = .ok (.invokestatic 112, 3) := by decide +kernel
theorem dX5_leastRow_35 : decode cX5_leastRow 35 = .ok (.iconst (-1), 1) := by decide +kernel
theorem dX5_leastRow_36 : decode cX5_leastRow 36 = .ok (.ixor, 1) := by decide +kernel
theorem dX5_leastRow_37 : decode cX5_leastRow 37 = .ok (.iand, 1) := by decide +kernel
theorem dX5_leastRow_38 : decode cX5_leastRow 38 = .ok (.invokestatic 176, 3) := by decide +kernel
theorem dX5_leastRow_41 : decode cX5_leastRow 41 = .ok (.iload_n 3, 1) := by decide +kernel
theorem dX5_leastRow_42 : decode cX5_leastRow 42 = .ok (.if_icmp .le 6, 3) := by decide +kernel
theorem dX5_leastRow_45 : decode cX5_leastRow 45 = .ok (.bipush (-9), 2) := by decide +kernel
theorem dX5_leastRow_47 : decode cX5_leastRow 47 = .ok (.ireturn, 1) := by decide +kernel
theorem dX5_leastRow_48 : decode cX5_leastRow 48 = .ok (.iconst 1, 1) := by decide +kernel
theorem dX5_leastRow_49 : decode cX5_leastRow 49 = .ok (.istore 5, 2) := by decide +kernel
theorem dX5_leastRow_51 : decode cX5_leastRow 51 = .ok (.iload 5, 2) := by decide +kernel
theorem dX5_leastRow_53 : decode cX5_leastRow 53 = .ok (.bipush 8, 2) := by decide +kernel
theorem dX5_leastRow_55 : decode cX5_leastRow 55 = .ok (.if_icmp .gt 115, 3) := by decide +kernel
theorem dX5_leastRow_58 : decode cX5_leastRow 58 = .ok (.iload 5, 2) := by decide +kernel
theorem dX5_leastRow_60 : decode cX5_leastRow 60 = .ok (.iconst 4, 1) := by decide +kernel
theorem dX5_leastRow_61 : decode cX5_leastRow 61 = .ok (.if_icmp .gt 7, 3) := by decide +kernel
theorem dX5_leastRow_64 : decode cX5_leastRow 64 = .ok (.iconst 1, 1) := by decide +kernel
theorem dX5_leastRow_65 : decode cX5_leastRow 65 = .ok (.goto 4, 3) := by decide +kernel
theorem dX5_leastRow_68 : decode cX5_leastRow 68 = .ok (.iconst 0, 1) := by decide +kernel
theorem dX5_leastRow_69 : decode cX5_leastRow 69 = .ok (.istore 6, 2) := by decide +kernel
theorem dX5_leastRow_71 : decode cX5_leastRow 71 = .ok (.iload 5, 2) := by decide +kernel
theorem dX5_leastRow_73 : decode cX5_leastRow 73 = .ok (.iconst 1, 1) := by decide +kernel
theorem dX5_leastRow_74 : decode cX5_leastRow 74 = .ok (.isub, 1) := by decide +kernel
theorem dX5_leastRow_75 : decode cX5_leastRow 75 = .ok (.iconst 4, 1) := by decide +kernel
theorem dX5_leastRow_76 : decode cX5_leastRow 76 = .ok (.irem, 1) := by decide +kernel
theorem dX5_leastRow_77 : decode cX5_leastRow 77 = .ok (.istore 7, 2) := by decide +kernel
theorem dX5_leastRow_79 : decode cX5_leastRow 79 = .ok (.iload 6, 2) := by decide +kernel
theorem dX5_leastRow_81 : decode cX5_leastRow 81 = .ok (.ifCond .eq 16, 3) := by decide +kernel
theorem dX5_leastRow_84 : decode cX5_leastRow 84 = .ok (.aload_n 0, 1) := by decide +kernel
theorem dX5_leastRow_85 : decode cX5_leastRow 85 = .ok (.iload_n 1, 1) := by decide +kernel
theorem dX5_leastRow_86 : decode cX5_leastRow 86 = .ok (.iload 7, 2) := by decide +kernel
theorem dX5_leastRow_88 : decode cX5_leastRow 88 = .ok (.invokevirtual 220, 3) := by decide +kernel
theorem dX5_leastRow_91 : decode cX5_leastRow 91 = .ok (.ifCond .eq 73, 3) := by decide +kernel
theorem dX5_leastRow_94 : decode cX5_leastRow 94 = .ok (.goto 13, 3) := by decide +kernel
theorem dX5_leastRow_97 : decode cX5_leastRow 97 = .ok (.aload_n 0, 1) := by decide +kernel
theorem dX5_leastRow_98 : decode cX5_leastRow 98 = .ok (.iload_n 1, 1) := by decide +kernel
theorem dX5_leastRow_99 : decode cX5_leastRow 99 = .ok (.iload 7, 2) := by decide +kernel
theorem dX5_leastRow_101 : decode cX5_leastRow 101 = .ok (.invokevirtual 133, 3) := by decide +kernel
theorem dX5_leastRow_104 : decode cX5_leastRow 104 = .ok (.ifCond .eq 60, 3) := by decide +kernel
theorem dX5_leastRow_107 : decode cX5_leastRow 107 = .ok (.iload 6, 2) := by decide +kernel
theorem dX5_leastRow_109 : decode cX5_leastRow 109 = .ok (.ifCond .eq 13, 3) := by decide +kernel
theorem dX5_leastRow_112 : decode cX5_leastRow 112 = .ok (.aload_n 0, 1) := by decide +kernel
theorem dX5_leastRow_113 : decode cX5_leastRow 113 = .ok (.iload_n 1, 1) := by decide +kernel
theorem dX5_leastRow_114 : decode cX5_leastRow 114 = .ok (.iload 7, 2) := by decide +kernel
theorem dX5_leastRow_116 : decode cX5_leastRow 116 = .ok (.invokevirtual 127, 3) := by decide +kernel
theorem dX5_leastRow_119 : decode cX5_leastRow 119 = .ok (.goto 10, 3) := by decide +kernel
theorem dX5_leastRow_122 : decode cX5_leastRow 122 = .ok (.aload_n 0, 1) := by decide +kernel
theorem dX5_leastRow_123 : decode cX5_leastRow 123 = .ok (.iload_n 1, 1) := by decide +kernel
theorem dX5_leastRow_124 : decode cX5_leastRow 124 = .ok (.iload 7, 2) := by decide +kernel
theorem dX5_leastRow_126 : decode cX5_leastRow 126 = .ok (.invokevirtual 137, 3) := by decide +kernel
theorem dX5_leastRow_129 : decode cX5_leastRow 129 = .ok (.istore 8, 2) := by decide +kernel
theorem dX5_leastRow_131 : decode cX5_leastRow 131 = .ok (.aload_n 0, 1) := by decide +kernel
theorem dX5_leastRow_132 : decode cX5_leastRow 132 = .ok (.iload 8, 2) := by decide +kernel
theorem dX5_leastRow_134 : decode cX5_leastRow 134 = .ok (.iload_n 2, 1) := by decide +kernel
theorem dX5_leastRow_135 : decode cX5_leastRow 135 = .ok (.iload_n 3, 1) := by decide +kernel
theorem dX5_leastRow_136 : decode cX5_leastRow 136 = .ok (.iconst 1, 1) := by decide +kernel
theorem dX5_leastRow_137 : decode cX5_leastRow 137 = .ok (.isub, 1) := by decide +kernel
theorem dX5_leastRow_138 : decode cX5_leastRow 138 = .ok (.invokestatic 155, 3) := by decide +kernel
theorem dX5_leastRow_141 : decode cX5_leastRow 141 = .ok (.istore 9, 2) := by decide +kernel
theorem dX5_leastRow_143 : decode cX5_leastRow 143 = .ok (.iload 9, 2) := by decide +kernel
theorem dX5_leastRow_145 : decode cX5_leastRow 145 = .ok (.bipush (-9), 2) := by decide +kernel
theorem dX5_leastRow_147 : decode cX5_leastRow 147 = .ok (.if_icmp .eq 17, 3) := by decide +kernel
theorem dX5_leastRow_150 : decode cX5_leastRow 150 = .ok (.iload 5, 2) := by decide +kernel
theorem dX5_leastRow_152 : decode cX5_leastRow 152 = .ok (.iload_n 3, 1) := by decide +kernel
theorem dX5_leastRow_153 : decode cX5_leastRow 153 = .ok (.iconst 1, 1) := by decide +kernel
theorem dX5_leastRow_154 : decode cX5_leastRow 154 = .ok (.isub, 1) := by decide +kernel
theorem dX5_leastRow_155 : decode cX5_leastRow 155 = .ok (.invokestatic 159, 3) := by decide +kernel
theorem dX5_leastRow_158 : decode cX5_leastRow 158 = .ok (.l2i, 1) := by decide +kernel
theorem dX5_leastRow_159 : decode cX5_leastRow 159 = .ok (.imul, 1) := by decide +kernel
theorem dX5_leastRow_160 : decode cX5_leastRow 160 = .ok (.iload 9, 2) := by decide +kernel
theorem dX5_leastRow_162 : decode cX5_leastRow 162 = .ok (.iadd, 1) := by decide +kernel
theorem dX5_leastRow_163 : decode cX5_leastRow 163 = .ok (.ireturn, 1) := by decide +kernel
theorem dX5_leastRow_164 : decode cX5_leastRow 164 = .ok (.iinc 5 1, 3) := by decide +kernel
theorem dX5_leastRow_167 : decode cX5_leastRow 167 = .ok (.goto (-116), 3) := by decide +kernel
theorem dX5_leastRow_170 : decode cX5_leastRow 170 = .ok (.bipush (-9), 2) := by decide +kernel
theorem dX5_leastRow_172 : decode cX5_leastRow 172 = .ok (.ireturn, 1) := by decide +kernel
theorem dX5_downToGround_0 : decode cX5_downToGround 0 = .ok (.iload_n 0, 1) := by decide +kernel
theorem dX5_downToGround_1 : decode cX5_downToGround 1 = .ok (.iload_n 0, 1) := by decide +kernel
theorem dX5_downToGround_2 : decode cX5_downToGround 2 = .ok (.iconst 4, 1) := by decide +kernel
theorem dX5_downToGround_3 : decode cX5_downToGround 3 = .ok (.ishr, 1) := by decide +kernel
theorem dX5_downToGround_4 : decode cX5_downToGround 4 = .ok (.ior, 1) := by decide +kernel
theorem dX5_downToGround_5 : decode cX5_downToGround 5 = .ok (.iload_n 0, 1) := by decide +kernel
theorem dX5_downToGround_6 : decode cX5_downToGround 6 = .ok (.bipush 8, 2) := by decide +kernel
theorem dX5_downToGround_8 : decode cX5_downToGround 8 = .ok (.ishr, 1) := by decide +kernel
theorem dX5_downToGround_9 : decode cX5_downToGround 9 = .ok (.ior, 1) := by decide +kernel
theorem dX5_downToGround_10 : decode cX5_downToGround 10 = .ok (.iload_n 0, 1) := by decide +kernel
theorem dX5_downToGround_11 : decode cX5_downToGround 11 = .ok (.bipush 12, 2) := by decide +kernel
theorem dX5_downToGround_13 : decode cX5_downToGround 13 = .ok (.ishr, 1) := by decide +kernel
theorem dX5_downToGround_14 : decode cX5_downToGround 14 = .ok (.ior, 1) := by decide +kernel
theorem dX5_downToGround_15 : decode cX5_downToGround 15 = .ok (.ireturn, 1) := by decide +kernel
theorem dX5_doingFromEnd_0 : decode cX5_doingFromEnd 0 = .ok (.lload_n 0, 1) := by decide +kernel
theorem dX5_doingFromEnd_1 : decode cX5_doingFromEnd 1 = .ok (.lstore_n 3, 1) := by decide +kernel
theorem dX5_doingFromEnd_2 : decode cX5_doingFromEnd 2 = .ok (.iconst 0, 1) := by decide +kernel
theorem dX5_doingFromEnd_3 : decode cX5_doingFromEnd 3 = .ok (.istore 5, 2) := by decide +kernel
theorem dX5_doingFromEnd_5 : decode cX5_doingFromEnd 5 = .ok (.iload 5, 2) := by decide +kernel
theorem dX5_doingFromEnd_7 : decode cX5_doingFromEnd 7 = .ok (.iload_n 2, 1) := by decide +kernel
theorem dX5_doingFromEnd_8 : decode cX5_doingFromEnd 8 = .ok (.if_icmp .ge 15, 3) := by decide +kernel
theorem dX5_doingFromEnd_11 : decode cX5_doingFromEnd 11 = .ok (.lload_n 3, 1) := by decide +kernel
theorem dX5_doingFromEnd_12 : decode cX5_doingFromEnd 12 = .ok (.ldc2_w 223, 3) := by decide +kernel
theorem dX5_doingFromEnd_15 : decode cX5_doingFromEnd 15 = .ok (.ldiv, 1) := by decide +kernel
theorem dX5_doingFromEnd_16 : decode cX5_doingFromEnd 16 = .ok (.lstore_n 3, 1) := by decide +kernel
theorem dX5_doingFromEnd_17 : decode cX5_doingFromEnd 17 = .ok (.iinc 5 1, 3) := by decide +kernel
theorem dX5_doingFromEnd_20 : decode cX5_doingFromEnd 20 = .ok (.goto (-15), 3) := by decide +kernel
theorem dX5_doingFromEnd_23 : decode cX5_doingFromEnd 23 = .ok (.lload_n 3, 1) := by decide +kernel
theorem dX5_doingFromEnd_24 : decode cX5_doingFromEnd 24 = .ok (.ldc2_w 223, 3) := by decide +kernel
theorem dX5_doingFromEnd_27 : decode cX5_doingFromEnd 27 = .ok (.lrem, 1) := by decide +kernel
theorem dX5_doingFromEnd_28 : decode cX5_doingFromEnd 28 = .ok (.l2i, 1) := by decide +kernel
theorem dX5_doingFromEnd_29 : decode cX5_doingFromEnd 29 = .ok (.ireturn, 1) := by decide +kernel
theorem dX5_canBe_0 : decode cX5_canBe 0 = .ok (.iload_n 2, 1) := by decide +kernel
theorem dX5_canBe_1 : decode cX5_canBe 1 = .ok (.bipush 10, 2) := by decide +kernel
theorem dX5_canBe_3 : decode cX5_canBe 3 = .ok (.idiv, 1) := by decide +kernel
theorem dX5_canBe_4 : decode cX5_canBe 4 = .ok (.bipush 10, 2) := by decide +kernel
theorem dX5_canBe_6 : decode cX5_canBe 6 = .ok (.irem, 1) := by decide +kernel
theorem dX5_canBe_7 : decode cX5_canBe 7 = .ok (.istore_n 3, 1) := by decide +kernel
theorem dX5_canBe_8 : decode cX5_canBe 8 = .ok (.iload_n 2, 1) := by decide +kernel
theorem dX5_canBe_9 : decode cX5_canBe 9 = .ok (.bipush 10, 2) := by decide +kernel
theorem dX5_canBe_11 : decode cX5_canBe 11 = .ok (.irem, 1) := by decide +kernel
theorem dX5_canBe_12 : decode cX5_canBe 12 = .ok (.istore 4, 2) := by decide +kernel
theorem dX5_canBe_14 : decode cX5_canBe 14 = .ok (.iload_n 2, 1) := by decide +kernel
theorem dX5_canBe_15 : decode cX5_canBe 15 = .ok (.bipush 100, 2) := by decide +kernel
theorem dX5_canBe_17 : decode cX5_canBe 17 = .ok (.idiv, 1) := by decide +kernel
theorem dX5_canBe_18 : decode cX5_canBe 18 = .ok (.tableswitch 176 1 5 #[34, 65, 96, 111, 153], 34) := by decide +kernel
theorem dX5_canBe_52 : decode cX5_canBe 52 = .ok (.iload_n 3, 1) := by decide +kernel
theorem dX5_canBe_53 : decode cX5_canBe 53 = .ok (.ifCond .ne 28, 3) := by decide +kernel
theorem dX5_canBe_56 : decode cX5_canBe 56 = .ok (.iload 4, 2) := by decide +kernel
theorem dX5_canBe_58 : decode cX5_canBe 58 = .ok (.invokestatic 114, 3) := by decide +kernel
theorem dX5_canBe_61 : decode cX5_canBe 61 = .ok (.ifCond .eq 20, 3) := by decide +kernel
theorem dX5_canBe_64 : decode cX5_canBe 64 = .ok (.aload_n 0, 1) := by decide +kernel
theorem dX5_canBe_65 : decode cX5_canBe 65 = .ok (.getfield 19, 3) := by decide +kernel
theorem dX5_canBe_68 : decode cX5_canBe 68 = .ok (.iload_n 1, 1) := by decide +kernel
theorem dX5_canBe_69 : decode cX5_canBe 69 = .ok (.iload 4, 2) := by decide +kernel
theorem dX5_canBe_71 : decode cX5_canBe 71 = .ok (.invokevirtual 220, 3) := by decide +kernel
theorem dX5_canBe_74 : decode cX5_canBe 74 = .ok (.ifCond .eq 7, 3) := by decide +kernel
theorem dX5_canBe_77 : decode cX5_canBe 77 = .ok (.iconst 1, 1) := by decide +kernel
theorem dX5_canBe_78 : decode cX5_canBe 78 = .ok (.goto 4, 3) := by decide +kernel
theorem dX5_canBe_81 : decode cX5_canBe 81 = .ok (.iconst 0, 1) := by decide +kernel
theorem dX5_canBe_82 : decode cX5_canBe 82 = .ok (.ireturn, 1) := by decide +kernel
theorem dX5_canBe_83 : decode cX5_canBe 83 = .ok (.iload_n 3, 1) := by decide +kernel
theorem dX5_canBe_84 : decode cX5_canBe 84 = .ok (.ifCond .ne 28, 3) := by decide +kernel
theorem dX5_canBe_87 : decode cX5_canBe 87 = .ok (.iload 4, 2) := by decide +kernel
theorem dX5_canBe_89 : decode cX5_canBe 89 = .ok (.invokestatic 114, 3) := by decide +kernel
theorem dX5_canBe_92 : decode cX5_canBe 92 = .ok (.ifCond .eq 20, 3) := by decide +kernel
theorem dX5_canBe_95 : decode cX5_canBe 95 = .ok (.aload_n 0, 1) := by decide +kernel
theorem dX5_canBe_96 : decode cX5_canBe 96 = .ok (.getfield 19, 3) := by decide +kernel
theorem dX5_canBe_99 : decode cX5_canBe 99 = .ok (.iload_n 1, 1) := by decide +kernel
theorem dX5_canBe_100 : decode cX5_canBe 100 = .ok (.iload 4, 2) := by decide +kernel
theorem dX5_canBe_102 : decode cX5_canBe 102 = .ok (.invokevirtual 133, 3) := by decide +kernel
theorem dX5_canBe_105 : decode cX5_canBe 105 = .ok (.ifCond .eq 7, 3) := by decide +kernel
theorem dX5_canBe_108 : decode cX5_canBe 108 = .ok (.iconst 1, 1) := by decide +kernel
theorem dX5_canBe_109 : decode cX5_canBe 109 = .ok (.goto 4, 3) := by decide +kernel
theorem dX5_canBe_112 : decode cX5_canBe 112 = .ok (.iconst 0, 1) := by decide +kernel
theorem dX5_canBe_113 : decode cX5_canBe 113 = .ok (.ireturn, 1) := by decide +kernel
theorem dX5_canBe_114 : decode cX5_canBe 114 = .ok (.iload_n 3, 1) := by decide +kernel
theorem dX5_canBe_115 : decode cX5_canBe 115 = .ok (.ifCond .ne 12, 3) := by decide +kernel
theorem dX5_canBe_118 : decode cX5_canBe 118 = .ok (.iload 4, 2) := by decide +kernel
theorem dX5_canBe_120 : decode cX5_canBe 120 = .ok (.ifCond .ne 7, 3) := by decide +kernel
theorem dX5_canBe_123 : decode cX5_canBe 123 = .ok (.iconst 1, 1) := by decide +kernel
theorem dX5_canBe_124 : decode cX5_canBe 124 = .ok (.goto 4, 3) := by decide +kernel
theorem dX5_canBe_127 : decode cX5_canBe 127 = .ok (.iconst 0, 1) := by decide +kernel
theorem dX5_canBe_128 : decode cX5_canBe 128 = .ok (.ireturn, 1) := by decide +kernel
theorem dX5_canBe_129 : decode cX5_canBe 129 = .ok (.iload_n 3, 1) := by decide +kernel
theorem dX5_canBe_130 : decode cX5_canBe 130 = .ok (.ifCond .ne 39, 3) := by decide +kernel
theorem dX5_canBe_133 : decode cX5_canBe 133 = .ok (.aload_n 0, 1) := by decide +kernel
theorem dX5_canBe_134 : decode cX5_canBe 134 = .ok (.getfield 19, 3) := by decide +kernel
theorem dX5_canBe_137 : decode cX5_canBe 137 = .ok (.iload 4, 2) := by decide +kernel
theorem dX5_canBe_139 : decode cX5_canBe 139 = .ok (.invokevirtual 103, 3) := by decide +kernel
theorem dX5_canBe_142 : decode cX5_canBe 142 = .ok (.ifCond .eq 27, 3) := by decide +kernel
theorem dX5_canBe_145 : decode cX5_canBe 145 = .ok (.iload_n 1, 1) := by decide +kernel
theorem dX5_canBe_146 : decode cX5_canBe 146 = .ok (.invokestatic 90, 3) := by decide +kernel
theorem dX5_canBe_149 : decode cX5_canBe 149 = .ok (.aload_n 0, 1) := by decide +kernel
theorem dX5_canBe_150 : decode cX5_canBe 150 = .ok (.getfield 19, 3) := by decide +kernel
theorem dX5_canBe_153 : decode cX5_canBe 153 = .ok (.iload 4, 2) := by decide +kernel
theorem dX5_canBe_155 : decode cX5_canBe 155 = .ok (.invokevirtual 106, 3) := by decide +kernel
theorem dX5_canBe_158 : decode cX5_canBe 158 = .ok (.ishr, 1) := by decide +kernel
theorem dX5_canBe_159 : decode cX5_canBe 159 = .ok (.iconst 1, 1) := by decide +kernel
theorem dX5_canBe_160 : decode cX5_canBe 160 = .ok (.iand, 1) := by decide +kernel
theorem dX5_canBe_161 : decode cX5_canBe 161 = .ok (.iconst 1, 1) := by decide +kernel
theorem dX5_canBe_162 : decode cX5_canBe 162 = .ok (.if_icmp .ne 7, 3) := by decide +kernel
theorem dX5_canBe_165 : decode cX5_canBe 165 = .ok (.iconst 1, 1) := by decide +kernel
theorem dX5_canBe_166 : decode cX5_canBe 166 = .ok (.goto 4, 3) := by decide +kernel
theorem dX5_canBe_169 : decode cX5_canBe 169 = .ok (.iconst 0, 1) := by decide +kernel
theorem dX5_canBe_170 : decode cX5_canBe 170 = .ok (.ireturn, 1) := by decide +kernel
theorem dX5_canBe_171 : decode cX5_canBe 171 = .ok (.iload_n 3, 1) := by decide +kernel
theorem dX5_canBe_172 : decode cX5_canBe 172 = .ok (.invokestatic 114, 3) := by decide +kernel
theorem dX5_canBe_175 : decode cX5_canBe 175 = .ok (.ifCond .eq 17, 3) := by decide +kernel
theorem dX5_canBe_178 : decode cX5_canBe 178 = .ok (.iload_n 1, 1) := by decide +kernel
theorem dX5_canBe_179 : decode cX5_canBe 179 = .ok (.iload_n 3, 1) := by decide +kernel
theorem dX5_canBe_180 : decode cX5_canBe 180 = .ok (.invokestatic 117, 3) := by decide +kernel
theorem dX5_canBe_183 : decode cX5_canBe 183 = .ok (.iload 4, 2) := by decide +kernel
theorem dX5_canBe_185 : decode cX5_canBe 185 = .ok (.if_icmp .lt 7, 3) := by decide +kernel
theorem dX5_canBe_188 : decode cX5_canBe 188 = .ok (.iconst 1, 1) := by decide +kernel
theorem dX5_canBe_189 : decode cX5_canBe 189 = .ok (.goto 4, 3) := by decide +kernel
theorem dX5_canBe_192 : decode cX5_canBe 192 = .ok (.iconst 0, 1) := by decide +kernel
theorem dX5_canBe_193 : decode cX5_canBe 193 = .ok (.ireturn, 1) := by decide +kernel
theorem dX5_canBe_194 : decode cX5_canBe 194 = .ok (.iconst 0, 1) := by decide +kernel
theorem dX5_canBe_195 : decode cX5_canBe 195 = .ok (.ireturn, 1) := by decide +kernel
theorem dX5_withDoing_0 : decode cX5_withDoing 0 = .ok (.iload_n 2, 1) := by decide +kernel
theorem dX5_withDoing_1 : decode cX5_withDoing 1 = .ok (.bipush 100, 2) := by decide +kernel
theorem dX5_withDoing_3 : decode cX5_withDoing 3 = .ok (.idiv, 1) := by decide +kernel
theorem dX5_withDoing_4 : decode cX5_withDoing 4 = .ok (.tableswitch 63 1 3 #[28, 41, 54], 28) := by decide +kernel
theorem dX5_withDoing_32 : decode cX5_withDoing 32 = .ok (.aload_n 0, 1) := by decide +kernel
theorem dX5_withDoing_33 : decode cX5_withDoing 33 = .ok (.getfield 19, 3) := by decide +kernel
theorem dX5_withDoing_36 : decode cX5_withDoing 36 = .ok (.iload_n 1, 1) := by decide +kernel
theorem dX5_withDoing_37 : decode cX5_withDoing 37 = .ok (.iload_n 2, 1) := by decide +kernel
theorem dX5_withDoing_38 : decode cX5_withDoing 38 = .ok (.bipush 10, 2) := by decide +kernel
theorem dX5_withDoing_40 : decode cX5_withDoing 40 = .ok (.irem, 1) := by decide +kernel
theorem dX5_withDoing_41 : decode cX5_withDoing 41 = .ok (.invokevirtual 127, 3) := by decide +kernel
theorem dX5_withDoing_44 : decode cX5_withDoing 44 = .ok (.ireturn, 1) := by decide +kernel
theorem dX5_withDoing_45 : decode cX5_withDoing 45 = .ok (.aload_n 0, 1) := by decide +kernel
theorem dX5_withDoing_46 : decode cX5_withDoing 46 = .ok (.getfield 19, 3) := by decide +kernel
theorem dX5_withDoing_49 : decode cX5_withDoing 49 = .ok (.iload_n 1, 1) := by decide +kernel
theorem dX5_withDoing_50 : decode cX5_withDoing 50 = .ok (.iload_n 2, 1) := by decide +kernel
theorem dX5_withDoing_51 : decode cX5_withDoing 51 = .ok (.bipush 10, 2) := by decide +kernel
theorem dX5_withDoing_53 : decode cX5_withDoing 53 = .ok (.irem, 1) := by decide +kernel
theorem dX5_withDoing_54 : decode cX5_withDoing 54 = .ok (.invokevirtual 137, 3) := by decide +kernel
theorem dX5_withDoing_57 : decode cX5_withDoing 57 = .ok (.ireturn, 1) := by decide +kernel
theorem dX5_withDoing_58 : decode cX5_withDoing 58 = .ok (.aload_n 0, 1) := by decide +kernel
theorem dX5_withDoing_59 : decode cX5_withDoing 59 = .ok (.getfield 19, 3) := by decide +kernel
theorem dX5_withDoing_62 : decode cX5_withDoing 62 = .ok (.iload_n 1, 1) := by decide +kernel
theorem dX5_withDoing_63 : decode cX5_withDoing 63 = .ok (.invokevirtual 140, 3) := by decide +kernel
theorem dX5_withDoing_66 : decode cX5_withDoing 66 = .ok (.ireturn, 1) := by decide +kernel
theorem dX5_withDoing_67 : decode cX5_withDoing 67 = .ok (.iload_n 1, 1) := by decide +kernel
theorem dX5_withDoing_68 : decode cX5_withDoing 68 = .ok (.ireturn, 1) := by decide +kernel
theorem dX5_ordersWith_0 : decode cX5_ordersWith 0 = .ok (.iload_n 1, 1) := by decide +kernel
theorem dX5_ordersWith_1 : decode cX5_ordersWith 1 = .ok (.invokestatic 184, 3) := by decide +kernel
theorem dX5_ordersWith_4 : decode cX5_ordersWith 4 = .ok (.aload_n 0, 1) := by decide +kernel
theorem dX5_ordersWith_5 : decode cX5_ordersWith 5 = .ok (.getfield 19, 3) := by decide +kernel
theorem dX5_ordersWith_8 : decode cX5_ordersWith 8 = .ok (.getfield 80, 3) := by decide +kernel
theorem dX5_ordersWith_11 : decode cX5_ordersWith 11 = .ok (.iconst 1, 1) := by decide +kernel
theorem dX5_ordersWith_12 : decode cX5_ordersWith 12 = .ok (.isub, 1) := by decide +kernel
theorem dX5_ordersWith_13 : decode cX5_ordersWith 13 = .ok (.iload_n 1, 1) := by decide +kernel
theorem dX5_ordersWith_14 : decode cX5_ordersWith 14 = .ok (.isub, 1) := by decide +kernel
theorem dX5_ordersWith_15 : decode cX5_ordersWith 15 = .ok (.invokestatic 184, 3) := by decide +kernel
theorem dX5_ordersWith_18 : decode cX5_ordersWith 18 = .ok (.imul, 1) := by decide +kernel
theorem dX5_ordersWith_19 : decode cX5_ordersWith 19 = .ok (.ireturn, 1) := by decide +kernel
theorem dX5_isRest_0 : decode cX5_isRest 0 = .ok (.aload_n 0, 1) := by decide +kernel
theorem dX5_isRest_1 : decode cX5_isRest 1 = .ok (.iload_n 1, 1) := by decide +kernel
theorem dX5_isRest_2 : decode cX5_isRest 2 = .ok (.iload_n 3, 1) := by decide +kernel
theorem dX5_isRest_3 : decode cX5_isRest 3 = .ok (.iload_n 2, 1) := by decide +kernel
theorem dX5_isRest_4 : decode cX5_isRest 4 = .ok (.iload 4, 2) := by decide +kernel
theorem dX5_isRest_6 : decode cX5_isRest 6 = .ok (.invokevirtual 225, 3) := by decide +kernel
theorem dX5_isRest_9 : decode cX5_isRest 9 = .ok (.istore 5, 2) := by decide +kernel
theorem dX5_isRest_11 : decode cX5_isRest 11 = .ok (.iload 5, 2) := by decide +kernel
theorem dX5_isRest_13 : decode cX5_isRest 13 = .ok (.iload_n 1, 1) := by decide +kernel
theorem dX5_isRest_14 : decode cX5_isRest 14 = .ok (.invokestatic 229, 3) := by decide +kernel
theorem dX5_isRest_17 : decode cX5_isRest 17 = .ok (.istore 6, 2) := by decide +kernel
theorem dX5_isRest_19 : decode cX5_isRest 19 = .ok (.iload 5, 2) := by decide +kernel
theorem dX5_isRest_21 : decode cX5_isRest 21 = .ok (.iload_n 2, 1) := by decide +kernel
theorem dX5_isRest_22 : decode cX5_isRest 22 = .ok (.invokestatic 229, 3) := by decide +kernel
theorem dX5_isRest_25 : decode cX5_isRest 25 = .ok (.istore 7, 2) := by decide +kernel
theorem dX5_isRest_27 : decode cX5_isRest 27 = .ok (.iconst 0, 1) := by decide +kernel
theorem dX5_isRest_28 : decode cX5_isRest 28 = .ok (.istore 8, 2) := by decide +kernel
theorem dX5_isRest_30 : decode cX5_isRest 30 = .ok (.iload 8, 2) := by decide +kernel
theorem dX5_isRest_32 : decode cX5_isRest 32 = .ok (.iconst 3, 1) := by decide +kernel
theorem dX5_isRest_33 : decode cX5_isRest 33 = .ok (.if_icmp .ge 48, 3) := by decide +kernel
theorem dX5_isRest_36 : decode cX5_isRest 36 = .ok (.aload_n 0, 1) := by decide +kernel
theorem dX5_isRest_37 : decode cX5_isRest 37 = .ok (.iload_n 1, 1) := by decide +kernel
theorem dX5_isRest_38 : decode cX5_isRest 38 = .ok (.iload 8, 2) := by decide +kernel
theorem dX5_isRest_40 : decode cX5_isRest 40 = .ok (.iload_n 2, 1) := by decide +kernel
theorem dX5_isRest_41 : decode cX5_isRest 41 = .ok (.iload 4, 2) := by decide +kernel
theorem dX5_isRest_43 : decode cX5_isRest 43 = .ok (.invokevirtual 225, 3) := by decide +kernel
theorem dX5_isRest_46 : decode cX5_isRest 46 = .ok (.iload_n 1, 1) := by decide +kernel
theorem dX5_isRest_47 : decode cX5_isRest 47 = .ok (.invokestatic 229, 3) := by decide +kernel
theorem dX5_isRest_50 : decode cX5_isRest 50 = .ok (.iload 6, 2) := by decide +kernel
theorem dX5_isRest_52 : decode cX5_isRest 52 = .ok (.if_icmp .gt 21, 3) := by decide +kernel
theorem dX5_isRest_55 : decode cX5_isRest 55 = .ok (.aload_n 0, 1) := by decide +kernel
theorem dX5_isRest_56 : decode cX5_isRest 56 = .ok (.iload_n 1, 1) := by decide +kernel
theorem dX5_isRest_57 : decode cX5_isRest 57 = .ok (.iload_n 3, 1) := by decide +kernel
theorem dX5_isRest_58 : decode cX5_isRest 58 = .ok (.iload_n 2, 1) := by decide +kernel
theorem dX5_isRest_59 : decode cX5_isRest 59 = .ok (.iload 8, 2) := by decide +kernel
theorem dX5_isRest_61 : decode cX5_isRest 61 = .ok (.invokevirtual 225, 3) := by decide +kernel
theorem dX5_isRest_64 : decode cX5_isRest 64 = .ok (.iload_n 2, 1) := by decide +kernel
theorem dX5_isRest_65 : decode cX5_isRest 65 = .ok (.invokestatic 229, 3) := by decide +kernel
theorem dX5_isRest_68 : decode cX5_isRest 68 = .ok (.iload 7, 2) := by decide +kernel
theorem dX5_isRest_70 : decode cX5_isRest 70 = .ok (.if_icmp .le 5, 3) := by decide +kernel
theorem dX5_isRest_73 : decode cX5_isRest 73 = .ok (.iconst 0, 1) := by decide +kernel
theorem dX5_isRest_74 : decode cX5_isRest 74 = .ok (.ireturn, 1) := by decide +kernel
theorem dX5_isRest_75 : decode cX5_isRest 75 = .ok (.iinc 8 1, 3) := by decide +kernel
theorem dX5_isRest_78 : decode cX5_isRest 78 = .ok (.goto (-48), 3) := by decide +kernel
theorem dX5_isRest_81 : decode cX5_isRest 81 = .ok (.iconst 1, 1) := by decide +kernel
theorem dX5_isRest_82 : decode cX5_isRest 82 = .ok (.ireturn, 1) := by decide +kernel
theorem dX5_withChoices_0 : decode cX5_withChoices 0 = .ok (.aload_n 0, 1) := by decide +kernel
theorem dX5_withChoices_1 : decode cX5_withChoices 1 = .ok (.aload_n 0, 1) := by decide +kernel
theorem dX5_withChoices_2 : decode cX5_withChoices 2 = .ok (.aload_n 0, 1) := by decide +kernel
theorem dX5_withChoices_3 : decode cX5_withChoices 3 = .ok (.getfield 48, 3) := by decide +kernel
theorem dX5_withChoices_6 : decode cX5_withChoices 6 = .ok (.iload_n 1, 1) := by decide +kernel
theorem dX5_withChoices_7 : decode cX5_withChoices 7 = .ok (.iload_n 2, 1) := by decide +kernel
theorem dX5_withChoices_8 : decode cX5_withChoices 8 = .ok (.invokevirtual 232, 3) := by decide +kernel
theorem dX5_withChoices_11 : decode cX5_withChoices 11 = .ok (.iload_n 3, 1) := by decide +kernel
theorem dX5_withChoices_12 : decode cX5_withChoices 12 = .ok (.iload 4, 2) := by decide +kernel
theorem dX5_withChoices_14 : decode cX5_withChoices 14 = .ok (.invokevirtual 232, 3) := by decide +kernel
theorem dX5_withChoices_17 : decode cX5_withChoices 17 = .ok (.ireturn, 1) := by decide +kernel
theorem dX5_withChoice_0 : decode cX5_withChoice 0 = .ok (.iload_n 3, 1) := by decide +kernel
theorem dX5_withChoice_1 : decode cX5_withChoice 1 = .ok (.iconst 1, 1) := by decide +kernel
theorem dX5_withChoice_2 : decode cX5_withChoice 2 = .ok (.if_icmp .ne 25, 3) := by decide +kernel
theorem dX5_withChoice_5 : decode cX5_withChoice 5 = .ok (.aload_n 0, 1) := by decide +kernel
theorem dX5_withChoice_6 : decode cX5_withChoice 6 = .ok (.getfield 19, 3) := by decide +kernel
theorem dX5_withChoice_9 : decode cX5_withChoice 9 = .ok (.iload_n 1, 1) := by decide +kernel
theorem dX5_withChoice_10 : decode cX5_withChoice 10 = .ok (.iload_n 2, 1) := by decide +kernel
theorem dX5_withChoice_11 : decode cX5_withChoice 11 = .ok (.invokevirtual 220, 3) := by decide +kernel
theorem dX5_withChoice_14 : decode cX5_withChoice 14 = .ok (.ifCond .eq 13, 3) := by decide +kernel
theorem dX5_withChoice_17 : decode cX5_withChoice 17 = .ok (.aload_n 0, 1) := by decide +kernel
theorem dX5_withChoice_18 : decode cX5_withChoice 18 = .ok (.getfield 19, 3) := by decide +kernel
theorem dX5_withChoice_21 : decode cX5_withChoice 21 = .ok (.iload_n 1, 1) := by decide +kernel
theorem dX5_withChoice_22 : decode cX5_withChoice 22 = .ok (.iload_n 2, 1) := by decide +kernel
theorem dX5_withChoice_23 : decode cX5_withChoice 23 = .ok (.invokevirtual 127, 3) := by decide +kernel
theorem dX5_withChoice_26 : decode cX5_withChoice 26 = .ok (.ireturn, 1) := by decide +kernel
theorem dX5_withChoice_27 : decode cX5_withChoice 27 = .ok (.iload_n 3, 1) := by decide +kernel
theorem dX5_withChoice_28 : decode cX5_withChoice 28 = .ok (.iconst 2, 1) := by decide +kernel
theorem dX5_withChoice_29 : decode cX5_withChoice 29 = .ok (.if_icmp .ne 25, 3) := by decide +kernel
theorem dX5_withChoice_32 : decode cX5_withChoice 32 = .ok (.aload_n 0, 1) := by decide +kernel
theorem dX5_withChoice_33 : decode cX5_withChoice 33 = .ok (.getfield 19, 3) := by decide +kernel
theorem dX5_withChoice_36 : decode cX5_withChoice 36 = .ok (.iload_n 1, 1) := by decide +kernel
theorem dX5_withChoice_37 : decode cX5_withChoice 37 = .ok (.iload_n 2, 1) := by decide +kernel
theorem dX5_withChoice_38 : decode cX5_withChoice 38 = .ok (.invokevirtual 133, 3) := by decide +kernel
theorem dX5_withChoice_41 : decode cX5_withChoice 41 = .ok (.ifCond .eq 13, 3) := by decide +kernel
theorem dX5_withChoice_44 : decode cX5_withChoice 44 = .ok (.aload_n 0, 1) := by decide +kernel
theorem dX5_withChoice_45 : decode cX5_withChoice 45 = .ok (.getfield 19, 3) := by decide +kernel
theorem dX5_withChoice_48 : decode cX5_withChoice 48 = .ok (.iload_n 1, 1) := by decide +kernel
theorem dX5_withChoice_49 : decode cX5_withChoice 49 = .ok (.iload_n 2, 1) := by decide +kernel
theorem dX5_withChoice_50 : decode cX5_withChoice 50 = .ok (.invokevirtual 137, 3) := by decide +kernel
theorem dX5_withChoice_53 : decode cX5_withChoice 53 = .ok (.ireturn, 1) := by decide +kernel
theorem dX5_withChoice_54 : decode cX5_withChoice 54 = .ok (.iload_n 1, 1) := by decide +kernel
theorem dX5_withChoice_55 : decode cX5_withChoice 55 = .ok (.ireturn, 1) := by decide +kernel
theorem dX5_worth_0 : decode cX5_worth 0 = .ok (.iload_n 0, 1) := by decide +kernel
theorem dX5_worth_1 : decode cX5_worth 1 = .ok (.invokestatic 90, 3) := by decide +kernel
theorem dX5_worth_4 : decode cX5_worth 4 = .ok (.sipush 4369, 3) := by decide +kernel
theorem dX5_worth_7 : decode cX5_worth 7 = .ok (.iload_n 1, 1) := by decide +kernel
theorem dX5_worth_8 : decode cX5_worth 8 = .ok (.ishl, 1) := by decide +kernel
theorem dX5_worth_9 : decode cX5_worth 9 = .ok (.iand, 1) := by decide +kernel
theorem dX5_worth_10 : decode cX5_worth 10 = .ok (.invokestatic 176, 3) := by decide +kernel
theorem dX5_worth_13 : decode cX5_worth 13 = .ok (.istore_n 2, 1) := by decide +kernel
theorem dX5_worth_14 : decode cX5_worth 14 = .ok (.iconst 2, 1) := by decide +kernel
theorem dX5_worth_15 : decode cX5_worth 15 = .ok (.iload_n 2, 1) := by decide +kernel
theorem dX5_worth_16 : decode cX5_worth 16 = .ok (.imul, 1) := by decide +kernel
theorem dX5_worth_17 : decode cX5_worth 17 = .ok (.iload_n 0, 1) := by decide +kernel
theorem dX5_worth_18 : decode cX5_worth 18 = .ok (.iload_n 1, 1) := by decide +kernel
theorem dX5_worth_19 : decode cX5_worth 19 = .ok (.invokestatic 117, 3) := by decide +kernel
theorem dX5_worth_22 : decode cX5_worth 22 = .ok (.isub, 1) := by decide +kernel
theorem dX5_worth_23 : decode cX5_worth 23 = .ok (.ireturn, 1) := by decide +kernel
theorem dX5_hadWithout_0 : decode cX5_hadWithout 0 = .ok (.aload_n 0, 1) := by decide +kernel
theorem dX5_hadWithout_1 : decode cX5_hadWithout 1 = .ok (.getfield 48, 3) := by decide +kernel
theorem dX5_hadWithout_4 : decode cX5_hadWithout 4 = .ok (.invokestatic 112, 3) := by decide +kernel
theorem dX5_hadWithout_7 : decode cX5_hadWithout 7 = .ok (.istore_n 2, 1) := by decide +kernel
theorem dX5_hadWithout_8 : decode cX5_hadWithout 8 = .ok (.iconst 0, 1) := by decide +kernel
theorem dX5_hadWithout_9 : decode cX5_hadWithout 9 = .ok (.istore_n 3, 1) := by decide +kernel
theorem dX5_hadWithout_10 : decode cX5_hadWithout 10 = .ok (.iload_n 3, 1) := by decide +kernel
theorem dX5_hadWithout_11 : decode cX5_hadWithout 11 = .ok (.iconst 4, 1) := by decide +kernel
theorem dX5_hadWithout_12 : decode cX5_hadWithout 12 = .ok (.if_icmp .ge 52, 3) := by decide +kernel
theorem dX5_hadWithout_15 : decode cX5_hadWithout 15 = .ok (.iload_n 1, 1) := by decide +kernel
theorem dX5_hadWithout_16 : decode cX5_hadWithout 16 = .ok (.iload_n 3, 1) := by decide +kernel
theorem dX5_hadWithout_17 : decode cX5_hadWithout 17 = .ok (.ishr, 1) := by decide +kernel
theorem dX5_hadWithout_18 : decode cX5_hadWithout 18 = .ok (.iconst 1, 1) := by decide +kernel
theorem dX5_hadWithout_19 : decode cX5_hadWithout 19 = .ok (.iand, 1) := by decide +kernel
theorem dX5_hadWithout_20 : decode cX5_hadWithout 20 = .ok (.iconst 1, 1) := by decide +kernel
theorem dX5_hadWithout_21 : decode cX5_hadWithout 21 = .ok (.if_icmp .ne 37, 3) := by decide +kernel
theorem dX5_hadWithout_24 : decode cX5_hadWithout 24 = .ok (.aload_n 0, 1) := by decide +kernel
theorem dX5_hadWithout_25 : decode cX5_hadWithout 25 = .ok (.getfield 19, 3) := by decide +kernel
theorem dX5_hadWithout_28 : decode cX5_hadWithout 28 = .ok (.aload_n 0, 1) := by decide +kernel
theorem dX5_hadWithout_29 : decode cX5_hadWithout 29 = .ok (.getfield 48, 3) := by decide +kernel
theorem dX5_hadWithout_32 : decode cX5_hadWithout 32 = .ok (.iload_n 3, 1) := by decide +kernel
theorem dX5_hadWithout_33 : decode cX5_hadWithout 33 = .ok (.invokevirtual 133, 3) := by decide +kernel
theorem dX5_hadWithout_36 : decode cX5_hadWithout 36 = .ok (.ifCond .eq 22, 3) := by decide +kernel
theorem dX5_hadWithout_39 : decode cX5_hadWithout 39 = .ok (.iload_n 2, 1) := by decide +kernel
theorem dX5_hadWithout_40 : decode cX5_hadWithout 40 = .ok (.iload_n 3, 1) := by decide +kernel
theorem dX5_hadWithout_41 : decode cX5_hadWithout 41 = .ok (.aload_n 0, 1) := by decide +kernel
theorem dX5_hadWithout_42 : decode cX5_hadWithout 42 = .ok (.getfield 48, 3) := by decide +kernel
theorem dX5_hadWithout_45 : decode cX5_hadWithout 45 = .ok (.iload_n 3, 1) := by decide +kernel
theorem dX5_hadWithout_46 : decode cX5_hadWithout 46 = .ok (.invokestatic 117, 3) := by decide +kernel
theorem dX5_hadWithout_49 : decode cX5_hadWithout 49 = .ok (.iconst 1, 1) := by decide +kernel
theorem dX5_hadWithout_50 : decode cX5_hadWithout 50 = .ok (.isub, 1) := by decide +kernel
theorem dX5_hadWithout_51 : decode cX5_hadWithout 51 = .ok (.invokestatic 236, 3) := by decide +kernel
theorem dX5_hadWithout_54 : decode cX5_hadWithout 54 = .ok (.iconst (-1), 1) := by decide +kernel
theorem dX5_hadWithout_55 : decode cX5_hadWithout 55 = .ok (.ixor, 1) := by decide +kernel
theorem dX5_hadWithout_56 : decode cX5_hadWithout 56 = .ok (.iand, 1) := by decide +kernel
theorem dX5_hadWithout_57 : decode cX5_hadWithout 57 = .ok (.istore_n 2, 1) := by decide +kernel
theorem dX5_hadWithout_58 : decode cX5_hadWithout 58 = .ok (.iinc 3 1, 3) := by decide +kernel
theorem dX5_hadWithout_61 : decode cX5_hadWithout 61 = .ok (.goto (-51), 3) := by decide +kernel
theorem dX5_hadWithout_64 : decode cX5_hadWithout 64 = .ok (.aload_n 0, 1) := by decide +kernel
theorem dX5_hadWithout_65 : decode cX5_hadWithout 65 = .ok (.getfield 19, 3) := by decide +kernel
theorem dX5_hadWithout_68 : decode cX5_hadWithout 68 = .ok (.aload_n 0, 1) := by decide +kernel
theorem dX5_hadWithout_69 : decode cX5_hadWithout 69 = .ok (.getfield 48, 3) := by decide +kernel
theorem dX5_hadWithout_72 : decode cX5_hadWithout 72 = .ok (.invokestatic 90, 3) := by decide +kernel
theorem dX5_hadWithout_75 : decode cX5_hadWithout 75 = .ok (.iload_n 2, 1) := by decide +kernel
theorem dX5_hadWithout_76 : decode cX5_hadWithout 76 = .ok (.invokevirtual 98, 3) := by decide +kernel
theorem dX5_hadWithout_79 : decode cX5_hadWithout 79 = .ok (.ireturn, 1) := by decide +kernel
theorem dX5_weightOf_0 : decode cX5_weightOf 0 = .ok (.iconst 1, 1) := by decide +kernel
theorem dX5_weightOf_1 : decode cX5_weightOf 1 = .ok (.istore_n 3, 1) := by decide +kernel
theorem dX5_weightOf_2 : decode cX5_weightOf 2 = .ok (.iconst 0, 1) := by decide +kernel
theorem dX5_weightOf_3 : decode cX5_weightOf 3 = .ok (.istore 4, 2) := by decide +kernel
theorem dX5_weightOf_5 : decode cX5_weightOf 5 = .ok (.iload 4, 2) := by decide +kernel
theorem dX5_weightOf_7 : decode cX5_weightOf 7 = .ok (.iconst 4, 1) := by decide +kernel
theorem dX5_weightOf_8 : decode cX5_weightOf 8 = .ok (.if_icmp .ge 68, 3) := by decide +kernel
theorem dX5_weightOf_11 : decode cX5_weightOf 11 = .ok (.iload_n 1, 1) := by decide +kernel
theorem dX5_weightOf_12 : decode cX5_weightOf 12 = .ok (.iload 4, 2) := by decide +kernel
theorem dX5_weightOf_14 : decode cX5_weightOf 14 = .ok (.ishr, 1) := by decide +kernel
theorem dX5_weightOf_15 : decode cX5_weightOf 15 = .ok (.iconst 1, 1) := by decide +kernel
theorem dX5_weightOf_16 : decode cX5_weightOf 16 = .ok (.iand, 1) := by decide +kernel
theorem dX5_weightOf_17 : decode cX5_weightOf 17 = .ok (.iconst 1, 1) := by decide +kernel
theorem dX5_weightOf_18 : decode cX5_weightOf 18 = .ok (.if_icmp .ne 7, 3) := by decide +kernel
theorem dX5_weightOf_21 : decode cX5_weightOf 21 = .ok (.iconst 1, 1) := by decide +kernel
theorem dX5_weightOf_22 : decode cX5_weightOf 22 = .ok (.goto 4, 3) := by decide +kernel
theorem dX5_weightOf_25 : decode cX5_weightOf 25 = .ok (.iconst 0, 1) := by decide +kernel
theorem dX5_weightOf_26 : decode cX5_weightOf 26 = .ok (.istore 5, 2) := by decide +kernel
theorem dX5_weightOf_28 : decode cX5_weightOf 28 = .ok (.aload_n 0, 1) := by decide +kernel
theorem dX5_weightOf_29 : decode cX5_weightOf 29 = .ok (.getfield 19, 3) := by decide +kernel
theorem dX5_weightOf_32 : decode cX5_weightOf 32 = .ok (.aload_n 0, 1) := by decide +kernel
theorem dX5_weightOf_33 : decode cX5_weightOf 33 = .ok (.getfield 48, 3) := by decide +kernel
theorem dX5_weightOf_36 : decode cX5_weightOf 36 = .ok (.iload 4, 2) := by decide +kernel
theorem dX5_weightOf_38 : decode cX5_weightOf 38 = .ok (.invokevirtual 133, 3) := by decide +kernel
theorem dX5_weightOf_41 : decode cX5_weightOf 41 = .ok (.ifCond .eq 22, 3) := by decide +kernel
theorem dX5_weightOf_44 : decode cX5_weightOf 44 = .ok (.iload_n 3, 1) := by decide +kernel
theorem dX5_weightOf_45 : decode cX5_weightOf 45 = .ok (.iload 5, 2) := by decide +kernel
theorem dX5_weightOf_47 : decode cX5_weightOf 47 = .ok (.ifCond .eq 7, 3) := by decide +kernel
theorem dX5_weightOf_50 : decode cX5_weightOf 50 = .ok (.iload_n 2, 1) := by decide +kernel
theorem dX5_weightOf_51 : decode cX5_weightOf 51 = .ok (.goto 7, 3) := by decide +kernel
theorem dX5_weightOf_54 : decode cX5_weightOf 54 = .ok (.bipush 10, 2) := by decide +kernel
theorem dX5_weightOf_56 : decode cX5_weightOf 56 = .ok (.iload_n 2, 1) := by decide +kernel
theorem dX5_weightOf_57 : decode cX5_weightOf 57 = .ok (.isub, 1) := by decide +kernel
theorem dX5_weightOf_58 : decode cX5_weightOf 58 = .ok (.imul, 1) := by decide +kernel
theorem dX5_weightOf_59 : decode cX5_weightOf 59 = .ok (.istore_n 3, 1) := by decide +kernel
theorem dX5_weightOf_60 : decode cX5_weightOf 60 = .ok (.goto 10, 3) := by decide +kernel
theorem dX5_weightOf_63 : decode cX5_weightOf 63 = .ok (.iload 5, 2) := by decide +kernel
theorem dX5_weightOf_65 : decode cX5_weightOf 65 = .ok (.ifCond .eq 5, 3) := by decide +kernel
theorem dX5_weightOf_68 : decode cX5_weightOf 68 = .ok (.iconst 0, 1) := by decide +kernel
theorem dX5_weightOf_69 : decode cX5_weightOf 69 = .ok (.ireturn, 1) := by decide +kernel
theorem dX5_weightOf_70 : decode cX5_weightOf 70 = .ok (.iinc 4 1, 3) := by decide +kernel
theorem dX5_weightOf_73 : decode cX5_weightOf 73 = .ok (.goto (-68), 3) := by decide +kernel
theorem dX5_weightOf_76 : decode cX5_weightOf 76 = .ok (.iload_n 3, 1) := by decide +kernel
theorem dX5_weightOf_77 : decode cX5_weightOf 77 = .ok (.ireturn, 1) := by decide +kernel
theorem dX5_withChance_0 : decode cX5_withChance 0 = .ok (.iload_n 2, 1) := by decide +kernel
theorem dX5_withChance_1 : decode cX5_withChance 1 = .ok (.bipush 15, 2) := by decide +kernel
theorem dX5_withChance_3 : decode cX5_withChance 3 = .ok (.if_icmp .ne 12, 3) := by decide +kernel
theorem dX5_withChance_6 : decode cX5_withChance 6 = .ok (.aload_n 0, 1) := by decide +kernel
theorem dX5_withChance_7 : decode cX5_withChance 7 = .ok (.getfield 19, 3) := by decide +kernel
theorem dX5_withChance_10 : decode cX5_withChance 10 = .ok (.iload_n 1, 1) := by decide +kernel
theorem dX5_withChance_11 : decode cX5_withChance 11 = .ok (.invokevirtual 140, 3) := by decide +kernel
theorem dX5_withChance_14 : decode cX5_withChance 14 = .ok (.ireturn, 1) := by decide +kernel
theorem dX5_withChance_15 : decode cX5_withChance 15 = .ok (.aload_n 0, 1) := by decide +kernel
theorem dX5_withChance_16 : decode cX5_withChance 16 = .ok (.iload_n 1, 1) := by decide +kernel
theorem dX5_withChance_17 : decode cX5_withChance 17 = .ok (.iload_n 2, 1) := by decide +kernel
theorem dX5_withChance_18 : decode cX5_withChance 18 = .ok (.iconst 4, 1) := by decide +kernel
theorem dX5_withChance_19 : decode cX5_withChance 19 = .ok (.irem, 1) := by decide +kernel
theorem dX5_withChance_20 : decode cX5_withChance 20 = .ok (.iload_n 2, 1) := by decide +kernel
theorem dX5_withChance_21 : decode cX5_withChance 21 = .ok (.bipush 8, 2) := by decide +kernel
theorem dX5_withChance_23 : decode cX5_withChance 23 = .ok (.if_icmp .gt 7, 3) := by decide +kernel
theorem dX5_withChance_26 : decode cX5_withChance 26 = .ok (.iconst 1, 1) := by decide +kernel
theorem dX5_withChance_27 : decode cX5_withChance 27 = .ok (.goto 4, 3) := by decide +kernel
theorem dX5_withChance_30 : decode cX5_withChance 30 = .ok (.iconst 2, 1) := by decide +kernel
theorem dX5_withChance_31 : decode cX5_withChance 31 = .ok (.invokevirtual 232, 3) := by decide +kernel
theorem dX5_withChance_34 : decode cX5_withChance 34 = .ok (.ireturn, 1) := by decide +kernel
theorem dX5_factorial_0 : decode cX5_factorial 0 = .ok (.iconst 1, 1) := by decide +kernel
theorem dX5_factorial_1 : decode cX5_factorial 1 = .ok (.istore_n 1, 1) := by decide +kernel
theorem dX5_factorial_2 : decode cX5_factorial 2 = .ok (.iconst 2, 1) := by decide +kernel
theorem dX5_factorial_3 : decode cX5_factorial 3 = .ok (.istore_n 2, 1) := by decide +kernel
theorem dX5_factorial_4 : decode cX5_factorial 4 = .ok (.iload_n 2, 1) := by decide +kernel
theorem dX5_factorial_5 : decode cX5_factorial 5 = .ok (.iload_n 0, 1) := by decide +kernel
theorem dX5_factorial_6 : decode cX5_factorial 6 = .ok (.if_icmp .gt 13, 3) := by decide +kernel
theorem dX5_factorial_9 : decode cX5_factorial 9 = .ok (.iload_n 1, 1) := by decide +kernel
theorem dX5_factorial_10 : decode cX5_factorial 10 = .ok (.iload_n 2, 1) := by decide +kernel
theorem dX5_factorial_11 : decode cX5_factorial 11 = .ok (.imul, 1) := by decide +kernel
theorem dX5_factorial_12 : decode cX5_factorial 12 = .ok (.istore_n 1, 1) := by decide +kernel
theorem dX5_factorial_13 : decode cX5_factorial 13 = .ok (.iinc 2 1, 3) := by decide +kernel
theorem dX5_factorial_16 : decode cX5_factorial 16 = .ok (.goto (-12), 3) := by decide +kernel
theorem dX5_factorial_19 : decode cX5_factorial 19 = .ok (.iload_n 1, 1) := by decide +kernel
theorem dX5_factorial_20 : decode cX5_factorial 20 = .ok (.ireturn, 1) := by decide +kernel
theorem dX5_powerOfTen_0 : decode cX5_powerOfTen 0 = .ok (.lconst 1, 1) := by decide +kernel
theorem dX5_powerOfTen_1 : decode cX5_powerOfTen 1 = .ok (.lstore_n 1, 1) := by decide +kernel
theorem dX5_powerOfTen_2 : decode cX5_powerOfTen 2 = .ok (.iconst 0, 1) := by decide +kernel
theorem dX5_powerOfTen_3 : decode cX5_powerOfTen 3 = .ok (.istore_n 3, 1) := by decide +kernel
theorem dX5_powerOfTen_4 : decode cX5_powerOfTen 4 = .ok (.iload_n 3, 1) := by decide +kernel
theorem dX5_powerOfTen_5 : decode cX5_powerOfTen 5 = .ok (.iload_n 0, 1) := by decide +kernel
theorem dX5_powerOfTen_6 : decode cX5_powerOfTen 6 = .ok (.if_icmp .ge 15, 3) := by decide +kernel
theorem dX5_powerOfTen_9 : decode cX5_powerOfTen 9 = .ok (.lload_n 1, 1) := by decide +kernel
theorem dX5_powerOfTen_10 : decode cX5_powerOfTen 10 = .ok (.ldc2_w 239, 3) := by decide +kernel
theorem dX5_powerOfTen_13 : decode cX5_powerOfTen 13 = .ok (.lmul, 1) := by decide +kernel
theorem dX5_powerOfTen_14 : decode cX5_powerOfTen 14 = .ok (.lstore_n 1, 1) := by decide +kernel
theorem dX5_powerOfTen_15 : decode cX5_powerOfTen 15 = .ok (.iinc 3 1, 3) := by decide +kernel
theorem dX5_powerOfTen_18 : decode cX5_powerOfTen 18 = .ok (.goto (-14), 3) := by decide +kernel
theorem dX5_powerOfTen_21 : decode cX5_powerOfTen 21 = .ok (.lload_n 1, 1) := by decide +kernel
theorem dX5_powerOfTen_22 : decode cX5_powerOfTen 22 = .ok (.lreturn, 1) := by decide +kernel
theorem dX5_told_0 : decode cX5_told 0 = .ok (.iload_n 0, 1) := by decide +kernel
theorem dX5_told_1 : decode cX5_told 1 = .ok (.iload_n 1, 1) := by decide +kernel
theorem dX5_told_2 : decode cX5_told 2 = .ok (.invokestatic 241, 3) := by decide +kernel
theorem dX5_told_5 : decode cX5_told 5 = .ok (.istore_n 3, 1) := by decide +kernel
theorem dX5_told_6 : decode cX5_told 6 = .ok (.iload_n 3, 1) := by decide +kernel
theorem dX5_told_7 : decode cX5_told 7 = .ok (.iconst 1, 1) := by decide +kernel
theorem dX5_told_8 : decode cX5_told 8 = .ok (.if_icmp .ge 13, 3) := by decide +kernel
theorem dX5_told_11 : decode cX5_told 11 = .ok (.iload_n 2, 1) := by decide +kernel
theorem dX5_told_12 : decode cX5_told 12 = .ok (.ifCond .eq 7, 3) := by decide +kernel
theorem dX5_told_15 : decode cX5_told 15 = .ok (.iload_n 0, 1) := by decide +kernel
theorem dX5_told_16 : decode cX5_told 16 = .ok (.goto 4, 3) := by decide +kernel
theorem dX5_told_19 : decode cX5_told 19 = .ok (.iload_n 1, 1) := by decide +kernel
theorem dX5_told_20 : decode cX5_told 20 = .ok (.ireturn, 1) := by decide +kernel
theorem dX5_told_21 : decode cX5_told 21 = .ok (.iload_n 2, 1) := by decide +kernel
theorem dX5_told_22 : decode cX5_told 22 = .ok (.ifCond .eq 9, 3) := by decide +kernel
theorem dX5_told_25 : decode cX5_told 25 = .ok (.iload_n 0, 1) := by decide +kernel
theorem dX5_told_26 : decode cX5_told 26 = .ok (.iload_n 3, 1) := by decide +kernel
theorem dX5_told_27 : decode cX5_told 27 = .ok (.idiv, 1) := by decide +kernel
theorem dX5_told_28 : decode cX5_told 28 = .ok (.goto 6, 3) := by decide +kernel
theorem dX5_told_31 : decode cX5_told 31 = .ok (.iload_n 1, 1) := by decide +kernel
theorem dX5_told_32 : decode cX5_told 32 = .ok (.iload_n 3, 1) := by decide +kernel
theorem dX5_told_33 : decode cX5_told 33 = .ok (.idiv, 1) := by decide +kernel
theorem dX5_told_34 : decode cX5_told 34 = .ok (.ireturn, 1) := by decide +kernel
theorem dX5_commonDivisor_0 : decode cX5_commonDivisor 0 = .ok (.iload_n 0, 1) := by decide +kernel
theorem dX5_commonDivisor_1 : decode cX5_commonDivisor 1 = .ok (.istore_n 2, 1) := by decide +kernel
theorem dX5_commonDivisor_2 : decode cX5_commonDivisor 2 = .ok (.iload_n 1, 1) := by decide +kernel
theorem dX5_commonDivisor_3 : decode cX5_commonDivisor 3 = .ok (.istore_n 3, 1) := by decide +kernel
theorem dX5_commonDivisor_4 : decode cX5_commonDivisor 4 = .ok (.iconst 0, 1) := by decide +kernel
theorem dX5_commonDivisor_5 : decode cX5_commonDivisor 5 = .ok (.istore 4, 2) := by decide +kernel
theorem dX5_commonDivisor_7 : decode cX5_commonDivisor 7 = .ok (.iload 4, 2) := by decide +kernel
theorem dX5_commonDivisor_9 : decode cX5_commonDivisor 9 = .ok (.bipush 64, 2) := by decide +kernel
theorem dX5_commonDivisor_11 : decode cX5_commonDivisor 11 = .ok (.if_icmp .ge 23, 3) := by decide +kernel
theorem dX5_commonDivisor_14 : decode cX5_commonDivisor 14 = .ok (.iload_n 3, 1) := by decide +kernel
theorem dX5_commonDivisor_15 : decode cX5_commonDivisor 15 = .ok (.ifCond .eq 19, 3) := by decide +kernel
theorem dX5_commonDivisor_18 : decode cX5_commonDivisor 18 = .ok (.iload_n 2, 1) := by decide +kernel
theorem dX5_commonDivisor_19 : decode cX5_commonDivisor 19 = .ok (.iload_n 3, 1) := by decide +kernel
theorem dX5_commonDivisor_20 : decode cX5_commonDivisor 20 = .ok (.irem, 1) := by decide +kernel
theorem dX5_commonDivisor_21 : decode cX5_commonDivisor 21 = .ok (.istore 5, 2) := by decide +kernel
theorem dX5_commonDivisor_23 : decode cX5_commonDivisor 23 = .ok (.iload_n 3, 1) := by decide +kernel
theorem dX5_commonDivisor_24 : decode cX5_commonDivisor 24 = .ok (.istore_n 2, 1) := by decide +kernel
theorem dX5_commonDivisor_25 : decode cX5_commonDivisor 25 = .ok (.iload 5, 2) := by decide +kernel
theorem dX5_commonDivisor_27 : decode cX5_commonDivisor 27 = .ok (.istore_n 3, 1) := by decide +kernel
theorem dX5_commonDivisor_28 : decode cX5_commonDivisor 28 = .ok (.iinc 4 1, 3) := by decide +kernel
theorem dX5_commonDivisor_31 : decode cX5_commonDivisor 31 = .ok (.goto (-24), 3) := by decide +kernel
theorem dX5_commonDivisor_34 : decode cX5_commonDivisor 34 = .ok (.iload_n 2, 1) := by decide +kernel
theorem dX5_commonDivisor_35 : decode cX5_commonDivisor 35 = .ok (.ireturn, 1) := by decide +kernel
