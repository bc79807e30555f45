theorem dX10_init_0 : decode cX10_init 0 = .ok (.aload_n 0, 1) := by decide +kernel
theorem dX10_init_1 : decode cX10_init 1 = .ok (.invokespecial 1, 3) := by decide +kernel
theorem dX10_init_4 : decode cX10_init 4 = .ok (.aload_n 0, 1) := by decide +kernel
theorem dX10_init_5 : decode cX10_init 5 = .ok (.iconst 4, 1) := by decide +kernel
theorem dX10_init_6 : decode cX10_init 6 = .ok (.newarray .int, 2) := by decide +kernel
theorem dX10_init_8 : decode cX10_init 8 = .ok (.putfield 7, 3) := by decide +kernel
theorem dX10_init_11 : decode cX10_init 11 = .ok (.aload_n 0, 1) := by decide +kernel
theorem dX10_init_12 : decode cX10_init 12 = .ok (.iconst 4, 1) := by decide +kernel
theorem dX10_init_13 : decode cX10_init 13 = .ok (.newarray .int, 2) := by decide +kernel
theorem dX10_init_15 : decode cX10_init 15 = .ok (.putfield 13, 3) := by decide +kernel
theorem dX10_init_18 : decode cX10_init 18 = .ok (.aload_n 0, 1) := by decide +kernel
theorem dX10_init_19 : decode cX10_init 19 = .ok (.bipush 86, 2) := by decide +kernel
theorem dX10_init_21 : decode cX10_init 21 = .ok (.newarray .int, 2) := by decide +kernel
theorem dX10_init_23 : decode cX10_init 23 = .ok (.putfield 16, 3) := by decide +kernel
theorem dX10_init_26 : decode cX10_init 26 = .ok (.aload_n 0, 1) := by decide +kernel
theorem dX10_init_27 : decode cX10_init 27 = .ok (.bipush 20, 2) := by decide +kernel
theorem dX10_init_29 : decode cX10_init 29 = .ok (.newarray .int, 2) := by decide +kernel
theorem dX10_init_31 : decode cX10_init 31 = .ok (.putfield 19, 3) := by decide +kernel
theorem dX10_init_34 : decode cX10_init 34 = .ok (.aload_n 0, 1) := by decide +kernel
theorem dX10_init_35 : decode cX10_init 35 = .ok (.bipush 8, 2) := by decide +kernel
theorem dX10_init_37 : decode cX10_init 37 = .ok (.newarray .int, 2) := by decide +kernel
theorem dX10_init_39 : decode cX10_init 39 = .ok (.putfield 22, 3) := by decide +kernel
theorem dX10_init_42 : decode cX10_init 42 = .ok (.aload_n 0, 1) := by decide +kernel
theorem dX10_init_43 : decode cX10_init 43 = .ok (.bipush 48, 2) := by decide +kernel
theorem dX10_init_45 : decode cX10_init 45 = .ok (.newarray .int, 2) := by decide +kernel
theorem dX10_init_47 : decode cX10_init 47 = .ok (.putfield 25, 3) := by decide +kernel
theorem dX10_init_50 : decode cX10_init 50 = .ok (.aload_n 0, 1) := by decide +kernel
theorem dX10_init_51 : decode cX10_init 51 = .ok (.bipush 8, 2) := by decide +kernel
theorem dX10_init_53 : decode cX10_init 53 = .ok (.newarray .int, 2) := by decide +kernel
theorem dX10_init_55 : decode cX10_init 55 = .ok (.putfield 28, 3) := by decide +kernel
theorem dX10_init_58 : decode cX10_init 58 = .ok (.aload_n 0, 1) := by decide +kernel
theorem dX10_init_59 : decode cX10_init 59 = .ok (.sipush 602, 3) := by decide +kernel
theorem dX10_init_62 : decode cX10_init 62 = .ok (.newarray .int, 2) := by decide +kernel
theorem dX10_init_64 : decode cX10_init 64 = .ok (.putfield 31, 3) := by decide +kernel
theorem dX10_init_67 : decode cX10_init 67 = .ok (.aload_n 0, 1) := by decide +kernel
theorem dX10_init_68 : decode cX10_init 68 = .ok (.bipush 25, 2) := by decide +kernel
theorem dX10_init_70 : decode cX10_init 70 = .ok (.newarray .int, 2) := by decide +kernel
theorem dX10_init_72 : decode cX10_init 72 = .ok (.putfield 34, 3) := by decide +kernel
theorem dX10_init_75 : decode cX10_init 75 = .ok (.aload_n 0, 1) := by decide +kernel
theorem dX10_init_76 : decode cX10_init 76 = .ok (.bipush 6, 2) := by decide +kernel
theorem dX10_init_78 : decode cX10_init 78 = .ok (.newarray .int, 2) := by decide +kernel
theorem dX10_init_80 : decode cX10_init 80 = .ok (.putfield 37, 3) := by decide +kernel
theorem dX10_init_83 : decode cX10_init 83 = .ok (.aload_n 0, 1) := by decide +kernel
theorem dX10_init_84 : decode cX10_init 84 = .ok (.bipush 6, 2) := by decide +kernel
theorem dX10_init_86 : decode cX10_init 86 = .ok (.newarray .int, 2) := by decide +kernel
theorem dX10_init_88 : decode cX10_init 88 = .ok (.putfield 40, 3) := by decide +kernel
theorem dX10_init_91 : decode cX10_init 91 = .ok (.aload_n 0, 1) := by decide +kernel
theorem dX10_init_92 : decode cX10_init 92 = .ok (.iconst 2, 1) := by decide +kernel
theorem dX10_init_93 : decode cX10_init 93 = .ok (.newarray .boolean, 2) := by decide +kernel
theorem dX10_init_95 : decode cX10_init 95 = .ok (.putfield 43, 3) := by decide +kernel
theorem dX10_init_98 : decode cX10_init 98 = .ok (.aload_n 0, 1) := by decide +kernel
theorem dX10_init_99 : decode cX10_init 99 = .ok (.bipush 86, 2) := by decide +kernel
theorem dX10_init_101 : decode cX10_init 101 = .ok (.newarray .int, 2) := by decide +kernel
theorem dX10_init_103 : decode cX10_init 103 = .ok (.putfield 47, 3) := by decide +kernel
theorem dX10_init_106 : decode cX10_init 106 = .ok (.return_, 1) := by decide +kernel
theorem dX10_in_0 : decode cX10_in 0 = .ok (.lload_n 0, 1) := by decide +kernel
theorem dX10_in_1 : decode cX10_in 1 = .ok (.lload_n 2, 1) := by decide +kernel
theorem dX10_in_2 : decode cX10_in 2 = .ok (.lcmp, 1) := by decide +kernel
theorem dX10_in_3 : decode cX10_in 3 = .ok (.ifCond .lt 14, 3) := by decide +kernel
theorem dX10_in_6 : decode cX10_in 6 = .ok (.lload_n 0, 1) := by decide +kernel
theorem dX10_in_7 : decode cX10_in 7 = .ok (.lload 4, 2) := by decide +kernel
theorem dX10_in_9 : decode cX10_in 9 = .ok (.lcmp, 1) := by decide +kernel
theorem dX10_in_10 : decode cX10_in 10 = .ok (.ifCond .gt 7, 3) := by decide +kernel
theorem dX10_in_13 : decode cX10_in 13 = .ok (.iconst 1, 1) := by decide +kernel
theorem dX10_in_14 : decode cX10_in 14 = .ok (.goto 4, 3) := by decide +kernel
theorem dX10_in_17 : decode cX10_in 17 = .ok (.iconst 0, 1) := by decide +kernel
theorem dX10_in_18 : decode cX10_in 18 = .ok (.ireturn, 1) := by decide +kernel
theorem dX10_has_0 : decode cX10_has 0 = .ok (.iload_n 0, 1) := by decide +kernel
theorem dX10_has_1 : decode cX10_has 1 = .ok (.iload_n 1, 1) := by decide +kernel
theorem dX10_has_2 : decode cX10_has 2 = .ok (.ishr, 1) := by decide +kernel
theorem dX10_has_3 : decode cX10_has 3 = .ok (.iconst 1, 1) := by decide +kernel
theorem dX10_has_4 : decode cX10_has 4 = .ok (.iand, 1) := by decide +kernel
theorem dX10_has_5 : decode cX10_has 5 = .ok (.iconst 1, 1) := by decide +kernel
theorem dX10_has_6 : decode cX10_has 6 = .ok (.if_icmp .ne 7, 3) := by decide +kernel
theorem dX10_has_9 : decode cX10_has 9 = .ok (.iconst 1, 1) := by decide +kernel
theorem dX10_has_10 : decode cX10_has 10 = .ok (.goto 4, 3) := by decide +kernel
theorem dX10_has_13 : decode cX10_has 13 = .ok (.iconst 0, 1) := by decide +kernel
theorem dX10_has_14 : decode cX10_has 14 = .ok (.ireturn, 1) := by decide +kernel
theorem dX10_ones_0 : decode cX10_ones 0 = .ok (.iconst 0, 1) := by decide +kernel
theorem dX10_ones_1 : decode cX10_ones 1 = .ok (.istore_n 1, 1) := by decide +kernel
theorem dX10_ones_2 : decode cX10_ones 2 = .ok (.iconst 0, 1) := by decide +kernel
theorem dX10_ones_3 : decode cX10_ones 3 = .ok (.istore_n 2, 1) := by decide +kernel
theorem dX10_ones_4 : decode cX10_ones 4 = .ok (.iload_n 2, 1) := by decide +kernel
theorem dX10_ones_5 : decode cX10_ones 5 = .ok (.bipush 25, 2) := by decide +kernel
theorem dX10_ones_7 : decode cX10_ones 7 = .ok (.if_icmp .ge 17, 3) := by decide +kernel
theorem dX10_ones_10 : decode cX10_ones 10 = .ok (.iload_n 1, 1) := by decide +kernel
theorem dX10_ones_11 : decode cX10_ones 11 = .ok (.iload_n 0, 1) := by decide +kernel
theorem dX10_ones_12 : decode cX10_ones 12 = .ok (.iload_n 2, 1) := by decide +kernel
theorem dX10_ones_13 : decode cX10_ones 13 = .ok (.ishr, 1) := by decide +kernel
theorem dX10_ones_14 : decode cX10_ones 14 = .ok (.iconst 1, 1) := by decide +kernel
theorem dX10_ones_15 : decode cX10_ones 15 = .ok (.iand, 1) := by decide +kernel
theorem dX10_ones_16 : decode cX10_ones 16 = .ok (.iadd, 1) := by decide +kernel
theorem dX10_ones_17 : decode cX10_ones 17 = .ok (.istore_n 1, 1) := by decide +kernel
theorem dX10_ones_18 : decode cX10_ones 18 = .ok (.iinc 2 1, 3) := by decide +kernel
theorem dX10_ones_21 : decode cX10_ones 21 = .ok (.goto (-17), 3) := by decide +kernel
theorem dX10_ones_24 : decode cX10_ones 24 = .ok (.iload_n 1, 1) := by decide +kernel
theorem dX10_ones_25 : decode cX10_ones 25 = .ok (.ireturn, 1) := by decide +kernel
theorem dX10_write_0 : decode cX10_write 0 = .ok (.iload_n 1, 1) := by decide +kernel
theorem dX10_write_1 : decode cX10_write 1 = .ok (.i2l, 1) := by decide +kernel
theorem dX10_write_2 : decode cX10_write 2 = .ok (.lconst 0, 1) := by decide +kernel
theorem dX10_write_3 : decode cX10_write 3 = .ok (.ldc2_w 50, 3) := by decide +kernel
theorem dX10_write_6 : decode cX10_write 6 = .ok (.invokestatic 52, 3) := by decide +kernel
theorem dX10_write_9 : decode cX10_write 9 = .ok (.ifCond .ne 6, 3) := by decide +kernel
theorem dX10_write_12 : decode cX10_write 12 = .ok (.bipush (-2), 2) := by decide +kernel
theorem dX10_write_14 : decode cX10_write 14 = .ok (.ireturn, 1) := by decide +kernel
theorem dX10_write_15 : decode cX10_write 15 = .ok (.aload_n 0, 1) := by decide +kernel
theorem dX10_write_16 : decode cX10_write 16 = .ok (.getfield 56, 3) := by decide +kernel
theorem dX10_write_19 : decode cX10_write 19 = .ok (.bipush 48, 2) := by decide +kernel
theorem dX10_write_21 : decode cX10_write 21 = .ok (.if_icmp .ne 6, 3) := by decide +kernel
theorem dX10_write_24 : decode cX10_write 24 = .ok (.bipush (-4), 2) := by decide +kernel
theorem dX10_write_26 : decode cX10_write 26 = .ok (.ireturn, 1) := by decide +kernel
theorem dX10_write_27 : decode cX10_write 27 = .ok (.aload_n 0, 1) := by decide +kernel
theorem dX10_write_28 : decode cX10_write 28 = .ok (.getfield 25, 3) := by decide +kernel
theorem dX10_write_31 : decode cX10_write 31 = .ok (.aload_n 0, 1) := by decide +kernel
theorem dX10_write_32 : decode cX10_write 32 = .ok (.getfield 56, 3) := by decide +kernel
theorem dX10_write_35 : decode cX10_write 35 = .ok (.iload_n 1, 1) := by decide +kernel
theorem dX10_write_36 : decode cX10_write 36 = .ok (.iastore, 1) := by decide +kernel
theorem dX10_write_37 : decode cX10_write 37 = .ok (.aload_n 0, 1) := by decide +kernel
theorem dX10_write_38 : decode cX10_write 38 = .ok (.dup, 1) := by decide +kernel
theorem dX10_write_39 : decode cX10_write 39 = .ok (.getfield 56, 3) := by decide +kernel
theorem dX10_write_42 : decode cX10_write 42 = .ok (.iconst 1, 1) := by decide +kernel
theorem dX10_write_43 : decode cX10_write 43 = .ok (.iadd, 1) := by decide +kernel
theorem dX10_write_44 : decode cX10_write 44 = .ok (.putfield 56, 3) := by decide +kernel
theorem dX10_write_47 : decode cX10_write 47 = .ok (.aload_n 0, 1) := by decide +kernel
theorem dX10_write_48 : decode cX10_write 48 = .ok (.getfield 56, 3) := by decide +kernel
theorem dX10_write_51 : decode cX10_write 51 = .ok (.ireturn, 1) := by decide +kernel
theorem dX10_wipe_0 : decode cX10_wipe 0 = .ok (.aload_n 0, 1) := by decide +kernel
theorem dX10_wipe_1 : decode cX10_wipe 1 = .ok (.getfield 56, 3) := by decide +kernel
theorem dX10_wipe_4 : decode cX10_wipe 4 = .ok (.istore_n 1, 1) := by decide +kernel
theorem dX10_wipe_5 : decode cX10_wipe 5 = .ok (.aload_n 0, 1) := by decide +kernel
theorem dX10_wipe_6 : decode cX10_wipe 6 = .ok (.iconst 0, 1) := by decide +kernel
theorem dX10_wipe_7 : decode cX10_wipe 7 = .ok (.putfield 56, 3) := by decide +kernel
theorem dX10_wipe_10 : decode cX10_wipe 10 = .ok (.iload_n 1, 1) := by decide +kernel
theorem dX10_wipe_11 : decode cX10_wipe 11 = .ok (.ireturn, 1) := by decide +kernel
theorem dX10_figureOf_0 : decode cX10_figureOf 0 = .ok (.aload_n 0, 1) := by decide +kernel
theorem dX10_figureOf_1 : decode cX10_figureOf 1 = .ok (.getfield 60, 3) := by decide +kernel
theorem dX10_figureOf_4 : decode cX10_figureOf 4 = .ok (.bipush (-9), 2) := by decide +kernel
theorem dX10_figureOf_6 : decode cX10_figureOf 6 = .ok (.if_icmp .ne 18, 3) := by decide +kernel
theorem dX10_figureOf_9 : decode cX10_figureOf 9 = .ok (.aload_n 0, 1) := by decide +kernel
theorem dX10_figureOf_10 : decode cX10_figureOf 10 = .ok (.getfield 63, 3) := by decide +kernel
theorem dX10_figureOf_13 : decode cX10_figureOf 13 = .ok (.aload_n 0, 1) := by decide +kernel
theorem dX10_figureOf_14 : decode cX10_figureOf 14 = .ok (.getfield 56, 3) := by decide +kernel
theorem dX10_figureOf_17 : decode cX10_figureOf 17 = .ok (.if_icmp .ge 7, 3) := by decide +kernel
theorem dX10_figureOf_20 : decode cX10_figureOf 20 = .ok (.iconst 1, 1) := by decide +kernel
theorem dX10_figureOf_21 : decode cX10_figureOf 21 = .ok (.goto 4, 3) := by decide +kernel
theorem dX10_figureOf_24 : decode cX10_figureOf 24 = .ok (.iconst 0, 1) := by decide +kernel
theorem dX10_figureOf_25 : decode cX10_figureOf 25 = .ok (.istore_n 3, 1) := by decide +kernel
theorem dX10_figureOf_26 : decode cX10_figureOf 26 = .ok (.iload_n 3, 1) := by decide +kernel
theorem dX10_figureOf_27 : decode cX10_figureOf 27 = .ok (.ifCond .eq 18, 3) := by decide +kernel
theorem dX10_figureOf_30 : decode cX10_figureOf 30 = .ok (.aload_n 0, 1) := by decide +kernel
theorem dX10_figureOf_31 : decode cX10_figureOf 31 = .ok (.getfield 25, 3) := by decide +kernel
theorem dX10_figureOf_34 : decode cX10_figureOf 34 = .ok (.aload_n 0, 1) := by decide +kernel
theorem dX10_figureOf_35 : decode cX10_figureOf 35 = .ok (.getfield 63, 3) := by decide +kernel
theorem dX10_figureOf_38 : decode cX10_figureOf 38 = .ok (.iaload, 1) := by decide +kernel
theorem dX10_figureOf_39 : decode cX10_figureOf 39 = .ok (.bipush 48, 2) := by decide +kernel
theorem dX10_figureOf_41 : decode cX10_figureOf 41 = .ok (.isub, 1) := by decide +kernel
theorem dX10_figureOf_42 : decode cX10_figureOf 42 = .ok (.goto 4, 3) := by decide +kernel
theorem dX10_figureOf_45 : decode cX10_figureOf 45 = .ok (.iconst 0, 1) := by decide +kernel
theorem dX10_figureOf_46 : decode cX10_figureOf 46 = .ok (.istore 4, 2) := by decide +kernel
theorem dX10_figureOf_48 : decode cX10_figureOf 48 = .ok (.iload_n 3, 1) := by decide +kernel
theorem dX10_figureOf_49 : decode cX10_figureOf 49 = .ok (.ifCond .eq 21, 3) := by decide +kernel
theorem dX10_figureOf_52 : decode cX10_figureOf 52 = .ok (.iload 4, 2) := by decide +kernel
theorem dX10_figureOf_54 : decode cX10_figureOf 54 = .ok (.i2l, 1) := by decide +kernel
theorem dX10_figureOf_55 : decode cX10_figureOf 55 = .ok (.lconst 0, 1) := by decide +kernel
theorem dX10_figureOf_56 : decode cX10_figureOf 56 = .ok (.iload_n 1, 1) := by decide +kernel
theorem dX10_figureOf_57 : decode cX10_figureOf 57 = .ok (.i2l, 1) := by decide +kernel
theorem dX10_figureOf_58 : decode cX10_figureOf 58 = .ok (.invokestatic 52, 3) := by decide +kernel
theorem dX10_figureOf_61 : decode cX10_figureOf 61 = .ok (.ifCond .eq 9, 3) := by decide +kernel
theorem dX10_figureOf_64 : decode cX10_figureOf 64 = .ok (.iload 4, 2) := by decide +kernel
theorem dX10_figureOf_66 : decode cX10_figureOf 66 = .ok (.iload_n 2, 1) := by decide +kernel
theorem dX10_figureOf_67 : decode cX10_figureOf 67 = .ok (.if_icmp .ne 29, 3) := by decide +kernel
theorem dX10_figureOf_70 : decode cX10_figureOf 70 = .ok (.aload_n 0, 1) := by decide +kernel
theorem dX10_figureOf_71 : decode cX10_figureOf 71 = .ok (.aload_n 0, 1) := by decide +kernel
theorem dX10_figureOf_72 : decode cX10_figureOf 72 = .ok (.getfield 60, 3) := by decide +kernel
theorem dX10_figureOf_75 : decode cX10_figureOf 75 = .ok (.bipush (-9), 2) := by decide +kernel
theorem dX10_figureOf_77 : decode cX10_figureOf 77 = .ok (.if_icmp .ne 10, 3) := by decide +kernel
theorem dX10_figureOf_80 : decode cX10_figureOf 80 = .ok (.aload_n 0, 1) := by decide +kernel
theorem dX10_figureOf_81 : decode cX10_figureOf 81 = .ok (.getfield 63, 3) := by decide +kernel
theorem dX10_figureOf_84 : decode cX10_figureOf 84 = .ok (.goto 7, 3) := by decide +kernel
theorem dX10_figureOf_87 : decode cX10_figureOf 87 = .ok (.aload_n 0, 1) := by decide +kernel
theorem dX10_figureOf_88 : decode cX10_figureOf 88 = .ok (.getfield 60, 3) := by decide +kernel
theorem dX10_figureOf_91 : decode cX10_figureOf 91 = .ok (.putfield 60, 3) := by decide +kernel
theorem dX10_figureOf_94 : decode cX10_figureOf 94 = .ok (.iconst 0, 1) := by decide +kernel
theorem dX10_figureOf_95 : decode cX10_figureOf 95 = .ok (.ireturn, 1) := by decide +kernel
theorem dX10_figureOf_96 : decode cX10_figureOf 96 = .ok (.aload_n 0, 1) := by decide +kernel
theorem dX10_figureOf_97 : decode cX10_figureOf 97 = .ok (.dup, 1) := by decide +kernel
theorem dX10_figureOf_98 : decode cX10_figureOf 98 = .ok (.getfield 63, 3) := by decide +kernel
theorem dX10_figureOf_101 : decode cX10_figureOf 101 = .ok (.iconst 1, 1) := by decide +kernel
theorem dX10_figureOf_102 : decode cX10_figureOf 102 = .ok (.iadd, 1) := by decide +kernel
theorem dX10_figureOf_103 : decode cX10_figureOf 103 = .ok (.putfield 63, 3) := by decide +kernel
theorem dX10_figureOf_106 : decode cX10_figureOf 106 = .ok (.iload 4, 2) := by decide +kernel
theorem dX10_figureOf_108 : decode cX10_figureOf 108 = .ok (.ireturn, 1) := by decide +kernel
theorem dX10_readText_0 : decode cX10_readText 0 = .ok (.aload_n 0, 1) := by decide +kernel
theorem dX10_readText_1 : decode cX10_readText 1 = .ok (.iconst 0, 1) := by decide +kernel
theorem dX10_readText_2 : decode cX10_readText 2 = .ok (.putfield 63, 3) := by decide +kernel
theorem dX10_readText_5 : decode cX10_readText 5 = .ok (.aload_n 0, 1) := by decide +kernel
theorem dX10_readText_6 : decode cX10_readText 6 = .ok (.bipush (-9), 2) := by decide +kernel
theorem dX10_readText_8 : decode cX10_readText 8 = .ok (.putfield 60, 3) := by decide +kernel
theorem dX10_readText_11 : decode cX10_readText 11 = .ok (.aload_n 0, 1) := by decide +kernel
theorem dX10_readText_12 : decode cX10_readText 12 = .ok (.iconst 0, 1) := by decide +kernel
theorem dX10_readText_13 : decode cX10_readText 13 = .ok (.putfield 66, 3) := by decide +kernel
theorem dX10_readText_16 : decode cX10_readText 16 = .ok (.aload_n 0, 1) := by decide +kernel
theorem dX10_readText_17 : decode cX10_readText 17 = .ok (.iconst 0, 1) := by decide +kernel
theorem dX10_readText_18 : decode cX10_readText 18 = .ok (.putfield 69, 3) := by decide +kernel
theorem dX10_readText_21 : decode cX10_readText 21 = .ok (.aload_n 0, 1) := by decide +kernel
theorem dX10_readText_22 : decode cX10_readText 22 = .ok (.getfield 56, 3) := by decide +kernel
theorem dX10_readText_25 : decode cX10_readText 25 = .ok (.ifCond .eq 14, 3) := by decide +kernel
theorem dX10_readText_28 : decode cX10_readText 28 = .ok (.aload_n 0, 1) := by decide +kernel
theorem dX10_readText_29 : decode cX10_readText 29 = .ok (.getfield 25, 3) := by decide +kernel
theorem dX10_readText_32 : decode cX10_readText 32 = .ok (.iconst 0, 1) := by decide +kernel
theorem dX10_readText_33 : decode cX10_readText 33 = .ok (.iaload, 1) := by decide +kernel
theorem dX10_readText_34 : decode cX10_readText 34 = .ok (.bipush 78, 2) := by decide +kernel
theorem dX10_readText_36 : decode cX10_readText 36 = .ok (.if_icmp .eq 5, 3) := by decide +kernel
theorem dX10_readText_39 : decode cX10_readText 39 = .ok (.iconst 0, 1) := by decide +kernel
theorem dX10_readText_40 : decode cX10_readText 40 = .ok (.ireturn, 1) := by decide +kernel
theorem dX10_readText_41 : decode cX10_readText 41 = .ok (.aload_n 0, 1) := by decide +kernel
theorem dX10_readText_42 : decode cX10_readText 42 = .ok (.iconst 1, 1) := by decide +kernel
theorem dX10_readText_43 : decode cX10_readText 43 = .ok (.putfield 63, 3) := by decide +kernel
theorem dX10_readText_46 : decode cX10_readText 46 = .ok (.aload_n 0, 1) := by decide +kernel
theorem dX10_readText_47 : decode cX10_readText 47 = .ok (.getfield 60, 3) := by decide +kernel
theorem dX10_readText_50 : decode cX10_readText 50 = .ok (.bipush (-9), 2) := by decide +kernel
theorem dX10_readText_52 : decode cX10_readText 52 = .ok (.if_icmp .ne 30, 3) := by decide +kernel
theorem dX10_readText_55 : decode cX10_readText 55 = .ok (.aload_n 0, 1) := by decide +kernel
theorem dX10_readText_56 : decode cX10_readText 56 = .ok (.getfield 63, 3) := by decide +kernel
theorem dX10_readText_59 : decode cX10_readText 59 = .ok (.aload_n 0, 1) := by decide +kernel
theorem dX10_readText_60 : decode cX10_readText 60 = .ok (.getfield 56, 3) := by decide +kernel
theorem dX10_readText_63 : decode cX10_readText 63 = .ok (.if_icmp .ge 19, 3) := by decide +kernel
theorem dX10_readText_66 : decode cX10_readText 66 = .ok (.aload_n 0, 1) := by decide +kernel
theorem dX10_readText_67 : decode cX10_readText 67 = .ok (.aload_n 0, 1) := by decide +kernel
theorem dX10_readText_68 : decode cX10_readText 68 = .ok (.getfield 25, 3) := by decide +kernel
theorem dX10_readText_71 : decode cX10_readText 71 = .ok (.aload_n 0, 1) := by decide +kernel
theorem dX10_readText_72 : decode cX10_readText 72 = .ok (.getfield 63, 3) := by decide +kernel
theorem dX10_readText_75 : decode cX10_readText 75 = .ok (.iaload, 1) := by decide +kernel
theorem dX10_readText_76 : decode cX10_readText 76 = .ok (.invokevirtual 72, 3) := by decide +kernel
theorem dX10_readText_79 : decode cX10_readText 79 = .ok (.goto (-33), 3) := by decide +kernel
theorem dX10_readText_82 : decode cX10_readText 82 = .ok (.aload_n 0, 1) := by decide +kernel
theorem dX10_readText_83 : decode cX10_readText 83 = .ok (.getfield 60, 3) := by decide +kernel
theorem dX10_readText_86 : decode cX10_readText 86 = .ok (.ireturn, 1) := by decide +kernel
theorem dX10_readPart_0 : decode cX10_readPart 0 = .ok (.iload_n 1, 1) := by decide +kernel
theorem dX10_readPart_1 : decode cX10_readPart 1 = .ok (.bipush 80, 2) := by decide +kernel
theorem dX10_readPart_3 : decode cX10_readPart 3 = .ok (.if_icmp .ne 145, 3) := by decide +kernel
theorem dX10_readPart_6 : decode cX10_readPart 6 = .ok (.aload_n 0, 1) := by decide +kernel
theorem dX10_readPart_7 : decode cX10_readPart 7 = .ok (.getfield 66, 3) := by decide +kernel
theorem dX10_readPart_10 : decode cX10_readPart 10 = .ok (.iconst 4, 1) := by decide +kernel
theorem dX10_readPart_11 : decode cX10_readPart 11 = .ok (.if_icmp .ge 137, 3) := by decide +kernel
theorem dX10_readPart_14 : decode cX10_readPart 14 = .ok (.aload_n 0, 1) := by decide +kernel
theorem dX10_readPart_15 : decode cX10_readPart 15 = .ok (.dup, 1) := by decide +kernel
theorem dX10_readPart_16 : decode cX10_readPart 16 = .ok (.getfield 63, 3) := by decide +kernel
theorem dX10_readPart_19 : decode cX10_readPart 19 = .ok (.iconst 1, 1) := by decide +kernel
theorem dX10_readPart_20 : decode cX10_readPart 20 = .ok (.iadd, 1) := by decide +kernel
theorem dX10_readPart_21 : decode cX10_readPart 21 = .ok (.putfield 63, 3) := by decide +kernel
theorem dX10_readPart_24 : decode cX10_readPart 24 = .ok (.iconst 5, 1) := by decide +kernel
theorem dX10_readPart_25 : decode cX10_readPart 25 = .ok (.aload_n 0, 1) := by decide +kernel
theorem dX10_readPart_26 : decode cX10_readPart 26 = .ok (.getfield 66, 3) := by decide +kernel
theorem dX10_readPart_29 : decode cX10_readPart 29 = .ok (.imul, 1) := by decide +kernel
theorem dX10_readPart_30 : decode cX10_readPart 30 = .ok (.istore_n 2, 1) := by decide +kernel
theorem dX10_readPart_31 : decode cX10_readPart 31 = .ok (.aload_n 0, 1) := by decide +kernel
theorem dX10_readPart_32 : decode cX10_readPart 32 = .ok (.iconst 4, 1) := by decide +kernel
theorem dX10_readPart_33 : decode cX10_readPart 33 = .ok (.bipush (-9), 2) := by decide +kernel
theorem dX10_readPart_35 : decode cX10_readPart 35 = .ok (.invokevirtual 76, 3) := by decide +kernel
theorem dX10_readPart_38 : decode cX10_readPart 38 = .ok (.istore_n 3, 1) := by decide +kernel
theorem dX10_readPart_39 : decode cX10_readPart 39 = .ok (.aload_n 0, 1) := by decide +kernel
theorem dX10_readPart_40 : decode cX10_readPart 40 = .ok (.getfield 19, 3) := by decide +kernel
theorem dX10_readPart_43 : decode cX10_readPart 43 = .ok (.iload_n 2, 1) := by decide +kernel
theorem dX10_readPart_44 : decode cX10_readPart 44 = .ok (.iconst 5, 1) := by decide +kernel
theorem dX10_readPart_45 : decode cX10_readPart 45 = .ok (.aload_n 0, 1) := by decide +kernel
theorem dX10_readPart_46 : decode cX10_readPart 46 = .ok (.iconst 4, 1) := by decide +kernel
theorem dX10_readPart_47 : decode cX10_readPart 47 = .ok (.bipush (-9), 2) := by decide +kernel
theorem dX10_readPart_49 : decode cX10_readPart 49 = .ok (.invokevirtual 76, 3) := by decide +kernel
theorem dX10_readPart_52 : decode cX10_readPart 52 = .ok (.imul, 1) := by decide +kernel
theorem dX10_readPart_53 : decode cX10_readPart 53 = .ok (.iload_n 3, 1) := by decide +kernel
theorem dX10_readPart_54 : decode cX10_readPart 54 = .ok (.iadd, 1) := by decide +kernel
theorem dX10_readPart_55 : decode cX10_readPart 55 = .ok (.iastore, 1) := by decide +kernel
theorem dX10_readPart_56 : decode cX10_readPart 56 = .ok (.aload_n 0, 1) := by decide +kernel
theorem dX10_readPart_57 : decode cX10_readPart 57 = .ok (.getfield 19, 3) := by decide +kernel
theorem dX10_readPart_60 : decode cX10_readPart 60 = .ok (.iload_n 2, 1) := by decide +kernel
theorem dX10_readPart_61 : decode cX10_readPart 61 = .ok (.iconst 1, 1) := by decide +kernel
theorem dX10_readPart_62 : decode cX10_readPart 62 = .ok (.iadd, 1) := by decide +kernel
theorem dX10_readPart_63 : decode cX10_readPart 63 = .ok (.aload_n 0, 1) := by decide +kernel
theorem dX10_readPart_64 : decode cX10_readPart 64 = .ok (.iconst 3, 1) := by decide +kernel
theorem dX10_readPart_65 : decode cX10_readPart 65 = .ok (.bipush (-9), 2) := by decide +kernel
theorem dX10_readPart_67 : decode cX10_readPart 67 = .ok (.invokevirtual 76, 3) := by decide +kernel
theorem dX10_readPart_70 : decode cX10_readPart 70 = .ok (.iastore, 1) := by decide +kernel
theorem dX10_readPart_71 : decode cX10_readPart 71 = .ok (.aload_n 0, 1) := by decide +kernel
theorem dX10_readPart_72 : decode cX10_readPart 72 = .ok (.getfield 19, 3) := by decide +kernel
theorem dX10_readPart_75 : decode cX10_readPart 75 = .ok (.iload_n 2, 1) := by decide +kernel
theorem dX10_readPart_76 : decode cX10_readPart 76 = .ok (.iconst 2, 1) := by decide +kernel
theorem dX10_readPart_77 : decode cX10_readPart 77 = .ok (.iadd, 1) := by decide +kernel
theorem dX10_readPart_78 : decode cX10_readPart 78 = .ok (.aload_n 0, 1) := by decide +kernel
theorem dX10_readPart_79 : decode cX10_readPart 79 = .ok (.bipush 6, 2) := by decide +kernel
theorem dX10_readPart_81 : decode cX10_readPart 81 = .ok (.bipush (-9), 2) := by decide +kernel
theorem dX10_readPart_83 : decode cX10_readPart 83 = .ok (.invokevirtual 76, 3) := by decide +kernel
theorem dX10_readPart_86 : decode cX10_readPart 86 = .ok (.iastore, 1) := by decide +kernel
theorem dX10_readPart_87 : decode cX10_readPart 87 = .ok (.aload_n 0, 1) := by decide +kernel
theorem dX10_readPart_88 : decode cX10_readPart 88 = .ok (.getfield 19, 3) := by decide +kernel
theorem dX10_readPart_91 : decode cX10_readPart 91 = .ok (.iload_n 2, 1) := by decide +kernel
theorem dX10_readPart_92 : decode cX10_readPart 92 = .ok (.iconst 3, 1) := by decide +kernel
theorem dX10_readPart_93 : decode cX10_readPart 93 = .ok (.iadd, 1) := by decide +kernel
theorem dX10_readPart_94 : decode cX10_readPart 94 = .ok (.aload_n 0, 1) := by decide +kernel
theorem dX10_readPart_95 : decode cX10_readPart 95 = .ok (.bipush 6, 2) := by decide +kernel
theorem dX10_readPart_97 : decode cX10_readPart 97 = .ok (.aload_n 0, 1) := by decide +kernel
theorem dX10_readPart_98 : decode cX10_readPart 98 = .ok (.getfield 19, 3) := by decide +kernel
theorem dX10_readPart_101 : decode cX10_readPart 101 = .ok (.iload_n 2, 1) := by decide +kernel
theorem dX10_readPart_102 : decode cX10_readPart 102 = .ok (.iconst 2, 1) := by decide +kernel
theorem dX10_readPart_103 : decode cX10_readPart 103 = .ok (.iadd, 1) := by decide +kernel
theorem dX10_readPart_104 : decode cX10_readPart 104 = .ok (.iaload, 1) := by decide +kernel
theorem dX10_readPart_105 : decode cX10_readPart 105 = .ok (.iconst 3, 1) := by decide +kernel
theorem dX10_readPart_106 : decode cX10_readPart 106 = .ok (.if_icmp .ne 7, 3) := by decide +kernel
theorem dX10_readPart_109 : decode cX10_readPart 109 = .ok (.iconst 3, 1) := by decide +kernel
theorem dX10_readPart_110 : decode cX10_readPart 110 = .ok (.goto 5, 3) := by decide +kernel
theorem dX10_readPart_113 : decode cX10_readPart 113 = .ok (.bipush (-9), 2) := by decide +kernel
theorem dX10_readPart_115 : decode cX10_readPart 115 = .ok (.invokevirtual 76, 3) := by decide +kernel
theorem dX10_readPart_118 : decode cX10_readPart 118 = .ok (.iastore, 1) := by decide +kernel
theorem dX10_readPart_119 : decode cX10_readPart 119 = .ok (.aload_n 0, 1) := by decide +kernel
theorem dX10_readPart_120 : decode cX10_readPart 120 = .ok (.getfield 19, 3) := by decide +kernel
theorem dX10_readPart_123 : decode cX10_readPart 123 = .ok (.iload_n 2, 1) := by decide +kernel
theorem dX10_readPart_124 : decode cX10_readPart 124 = .ok (.iconst 4, 1) := by decide +kernel
theorem dX10_readPart_125 : decode cX10_readPart 125 = .ok (.iadd, 1) := by decide +kernel
theorem dX10_readPart_126 : decode cX10_readPart 126 = .ok (.aload_n 0, 1) := by decide +kernel
theorem dX10_readPart_127 : decode cX10_readPart 127 = .ok (.bipush 9, 2) := by decide +kernel
theorem dX10_readPart_129 : decode cX10_readPart 129 = .ok (.bipush (-9), 2) := by decide +kernel
theorem dX10_readPart_131 : decode cX10_readPart 131 = .ok (.invokevirtual 76, 3) := by decide +kernel
theorem dX10_readPart_134 : decode cX10_readPart 134 = .ok (.iastore, 1) := by decide +kernel
theorem dX10_readPart_135 : decode cX10_readPart 135 = .ok (.aload_n 0, 1) := by decide +kernel
theorem dX10_readPart_136 : decode cX10_readPart 136 = .ok (.dup, 1) := by decide +kernel
theorem dX10_readPart_137 : decode cX10_readPart 137 = .ok (.getfield 66, 3) := by decide +kernel
theorem dX10_readPart_140 : decode cX10_readPart 140 = .ok (.iconst 1, 1) := by decide +kernel
theorem dX10_readPart_141 : decode cX10_readPart 141 = .ok (.iadd, 1) := by decide +kernel
theorem dX10_readPart_142 : decode cX10_readPart 142 = .ok (.putfield 66, 3) := by decide +kernel
theorem dX10_readPart_145 : decode cX10_readPart 145 = .ok (.goto 99, 3) := by decide +kernel
theorem dX10_readPart_148 : decode cX10_readPart 148 = .ok (.iload_n 1, 1) := by decide +kernel
theorem dX10_readPart_149 : decode cX10_readPart 149 = .ok (.bipush 83, 2) := by decide +kernel
theorem dX10_readPart_151 : decode cX10_readPart 151 = .ok (.if_icmp .ne 85, 3) := by decide +kernel
theorem dX10_readPart_154 : decode cX10_readPart 154 = .ok (.aload_n 0, 1) := by decide +kernel
theorem dX10_readPart_155 : decode cX10_readPart 155 = .ok (.getfield 69, 3) := by decide +kernel
theorem dX10_readPart_158 : decode cX10_readPart 158 = .ok (.iconst 4, 1) := by decide +kernel
theorem dX10_readPart_159 : decode cX10_readPart 159 = .ok (.if_icmp .ge 77, 3) := by decide +kernel
theorem dX10_readPart_162 : decode cX10_readPart 162 = .ok (.aload_n 0, 1) := by decide +kernel
theorem dX10_readPart_163 : decode cX10_readPart 163 = .ok (.dup, 1) := by decide +kernel
theorem dX10_readPart_164 : decode cX10_readPart 164 = .ok (.getfield 63, 3) := by decide +kernel
theorem dX10_readPart_167 : decode cX10_readPart 167 = .ok (.iconst 1, 1) := by decide +kernel
theorem dX10_readPart_168 : decode cX10_readPart 168 = .ok (.iadd, 1) := by decide +kernel
theorem dX10_readPart_169 : decode cX10_readPart 169 = .ok (.putfield 63, 3) := by decide +kernel
theorem dX10_readPart_172 : decode cX10_readPart 172 = .ok (.aload_n 0, 1) := by decide +kernel
theorem dX10_readPart_173 : decode cX10_readPart 173 = .ok (.iconst 4, 1) := by decide +kernel
theorem dX10_readPart_174 : decode cX10_readPart 174 = .ok (.bipush (-9), 2) := by decide +kernel
theorem dX10_readPart_176 : decode cX10_readPart 176 = .ok (.invokevirtual 76, 3) := by decide +kernel
theorem dX10_readPart_179 : decode cX10_readPart 179 = .ok (.istore_n 2, 1) := by decide +kernel
theorem dX10_readPart_180 : decode cX10_readPart 180 = .ok (.aload_n 0, 1) := by decide +kernel
theorem dX10_readPart_181 : decode cX10_readPart 181 = .ok (.getfield 22, 3) := by decide +kernel
theorem dX10_readPart_184 : decode cX10_readPart 184 = .ok (.iconst 2, 1) := by decide +kernel
theorem dX10_readPart_185 : decode cX10_readPart 185 = .ok (.aload_n 0, 1) := by decide +kernel
theorem dX10_readPart_186 : decode cX10_readPart 186 = .ok (.getfield 69, 3) := by decide +kernel
theorem dX10_readPart_189 : decode cX10_readPart 189 = .ok (.imul, 1) := by decide +kernel
theorem dX10_readPart_190 : decode cX10_readPart 190 = .ok (.iconst 5, 1) := by decide +kernel
theorem dX10_readPart_191 : decode cX10_readPart 191 = .ok (.aload_n 0, 1) := by decide +kernel
theorem dX10_readPart_192 : decode cX10_readPart 192 = .ok (.iconst 4, 1) := by decide +kernel
theorem dX10_readPart_193 : decode cX10_readPart 193 = .ok (.bipush (-9), 2) := by decide +kernel
theorem dX10_readPart_195 : decode cX10_readPart 195 = .ok (.invokevirtual 76, 3) := by decide +kernel
theorem dX10_readPart_198 : decode cX10_readPart 198 = .ok (.imul, 1) := by decide +kernel
theorem dX10_readPart_199 : decode cX10_readPart 199 = .ok (.iload_n 2, 1) := by decide +kernel
theorem dX10_readPart_200 : decode cX10_readPart 200 = .ok (.iadd, 1) := by decide +kernel
theorem dX10_readPart_201 : decode cX10_readPart 201 = .ok (.iastore, 1) := by decide +kernel
theorem dX10_readPart_202 : decode cX10_readPart 202 = .ok (.aload_n 0, 1) := by decide +kernel
theorem dX10_readPart_203 : decode cX10_readPart 203 = .ok (.getfield 22, 3) := by decide +kernel
theorem dX10_readPart_206 : decode cX10_readPart 206 = .ok (.iconst 2, 1) := by decide +kernel
theorem dX10_readPart_207 : decode cX10_readPart 207 = .ok (.aload_n 0, 1) := by decide +kernel
theorem dX10_readPart_208 : decode cX10_readPart 208 = .ok (.getfield 69, 3) := by decide +kernel
theorem dX10_readPart_211 : decode cX10_readPart 211 = .ok (.imul, 1) := by decide +kernel
theorem dX10_readPart_212 : decode cX10_readPart 212 = .ok (.iconst 1, 1) := by decide +kernel
theorem dX10_readPart_213 : decode cX10_readPart 213 = .ok (.iadd, 1) := by decide +kernel
theorem dX10_readPart_214 : decode cX10_readPart 214 = .ok (.aload_n 0, 1) := by decide +kernel
theorem dX10_readPart_215 : decode cX10_readPart 215 = .ok (.bipush 9, 2) := by decide +kernel
theorem dX10_readPart_217 : decode cX10_readPart 217 = .ok (.bipush (-9), 2) := by decide +kernel
theorem dX10_readPart_219 : decode cX10_readPart 219 = .ok (.invokevirtual 76, 3) := by decide +kernel
theorem dX10_readPart_222 : decode cX10_readPart 222 = .ok (.iastore, 1) := by decide +kernel
theorem dX10_readPart_223 : decode cX10_readPart 223 = .ok (.aload_n 0, 1) := by decide +kernel
theorem dX10_readPart_224 : decode cX10_readPart 224 = .ok (.dup, 1) := by decide +kernel
theorem dX10_readPart_225 : decode cX10_readPart 225 = .ok (.getfield 69, 3) := by decide +kernel
theorem dX10_readPart_228 : decode cX10_readPart 228 = .ok (.iconst 1, 1) := by decide +kernel
theorem dX10_readPart_229 : decode cX10_readPart 229 = .ok (.iadd, 1) := by decide +kernel
theorem dX10_readPart_230 : decode cX10_readPart 230 = .ok (.putfield 69, 3) := by decide +kernel
theorem dX10_readPart_233 : decode cX10_readPart 233 = .ok (.goto 11, 3) := by decide +kernel
theorem dX10_readPart_236 : decode cX10_readPart 236 = .ok (.aload_n 0, 1) := by decide +kernel
theorem dX10_readPart_237 : decode cX10_readPart 237 = .ok (.aload_n 0, 1) := by decide +kernel
theorem dX10_readPart_238 : decode cX10_readPart 238 = .ok (.getfield 63, 3) := by decide +kernel
theorem dX10_readPart_241 : decode cX10_readPart 241 = .ok (.putfield 60, 3) := by decide +kernel
theorem dX10_readPart_244 : decode cX10_readPart 244 = .ok (.return_, 1) := by decide +kernel
theorem dX10_fault_0 : decode cX10_fault 0 = .ok (.aload_n 0, 1) := by decide +kernel
theorem dX10_fault_1 : decode cX10_fault 1 = .ok (.invokevirtual 80, 3) := by decide +kernel
theorem dX10_fault_4 : decode cX10_fault 4 = .ok (.ireturn, 1) := by decide +kernel
theorem dX10_desk_0 : decode cX10_desk 0 = .ok (.aload_n 0, 1) := by decide +kernel
theorem dX10_desk_1 : decode cX10_desk 1 = .ok (.invokevirtual 80, 3) := by decide +kernel
theorem dX10_desk_4 : decode cX10_desk 4 = .ok (.bipush (-9), 2) := by decide +kernel
theorem dX10_desk_6 : decode cX10_desk 6 = .ok (.if_icmp .eq 6, 3) := by decide +kernel
theorem dX10_desk_9 : decode cX10_desk 9 = .ok (.bipush (-3), 2) := by decide +kernel
theorem dX10_desk_11 : decode cX10_desk 11 = .ok (.ireturn, 1) := by decide +kernel
theorem dX10_desk_12 : decode cX10_desk 12 = .ok (.aload_n 0, 1) := by decide +kernel
theorem dX10_desk_13 : decode cX10_desk 13 = .ok (.aload_n 0, 1) := by decide +kernel
theorem dX10_desk_14 : decode cX10_desk 14 = .ok (.getfield 66, 3) := by decide +kernel
theorem dX10_desk_17 : decode cX10_desk 17 = .ok (.putfield 84, 3) := by decide +kernel
theorem dX10_desk_20 : decode cX10_desk 20 = .ok (.iconst 0, 1) := by decide +kernel
theorem dX10_desk_21 : decode cX10_desk 21 = .ok (.istore_n 1, 1) := by decide +kernel
theorem dX10_desk_22 : decode cX10_desk 22 = .ok (.iload_n 1, 1) := by decide +kernel
theorem dX10_desk_23 : decode cX10_desk 23 = .ok (.bipush 43, 2) := by decide +kernel
theorem dX10_desk_25 : decode cX10_desk 25 = .ok (.if_icmp .ge 16, 3) := by decide +kernel
theorem dX10_desk_28 : decode cX10_desk 28 = .ok (.aload_n 0, 1) := by decide +kernel
theorem dX10_desk_29 : decode cX10_desk 29 = .ok (.getfield 16, 3) := by decide +kernel
theorem dX10_desk_32 : decode cX10_desk 32 = .ok (.iload_n 1, 1) := by decide +kernel
theorem dX10_desk_33 : decode cX10_desk 33 = .ok (.iconst 0, 1) := by decide +kernel
theorem dX10_desk_34 : decode cX10_desk 34 = .ok (.iastore, 1) := by decide +kernel
theorem dX10_desk_35 : decode cX10_desk 35 = .ok (.iinc 1 1, 3) := by decide +kernel
theorem dX10_desk_38 : decode cX10_desk 38 = .ok (.goto (-16), 3) := by decide +kernel
theorem dX10_desk_41 : decode cX10_desk 41 = .ok (.iconst 0, 1) := by decide +kernel
theorem dX10_desk_42 : decode cX10_desk 42 = .ok (.istore_n 1, 1) := by decide +kernel
theorem dX10_desk_43 : decode cX10_desk 43 = .ok (.iload_n 1, 1) := by decide +kernel
theorem dX10_desk_44 : decode cX10_desk 44 = .ok (.aload_n 0, 1) := by decide +kernel
theorem dX10_desk_45 : decode cX10_desk 45 = .ok (.getfield 84, 3) := by decide +kernel
theorem dX10_desk_48 : decode cX10_desk 48 = .ok (.if_icmp .ge 113, 3) := by decide +kernel
theorem dX10_desk_51 : decode cX10_desk 51 = .ok (.aload_n 0, 1) := by decide +kernel
theorem dX10_desk_52 : decode cX10_desk 52 = .ok (.getfield 16, 3) := by decide +kernel
theorem dX10_desk_55 : decode cX10_desk 55 = .ok (.iload_n 1, 1) := by decide +kernel
theorem dX10_desk_56 : decode cX10_desk 56 = .ok (.aload_n 0, 1) := by decide +kernel
theorem dX10_desk_57 : decode cX10_desk 57 = .ok (.getfield 19, 3) := by decide +kernel
theorem dX10_desk_60 : decode cX10_desk 60 = .ok (.iconst 5, 1) := by decide +kernel
theorem dX10_desk_61 : decode cX10_desk 61 = .ok (.iload_n 1, 1) := by decide +kernel
theorem dX10_desk_62 : decode cX10_desk 62 = .ok (.imul, 1) := by decide +kernel
theorem dX10_desk_63 : decode cX10_desk 63 = .ok (.iaload, 1) := by decide +kernel
theorem dX10_desk_64 : decode cX10_desk 64 = .ok (.iastore, 1) := by decide +kernel
theorem dX10_desk_65 : decode cX10_desk 65 = .ok (.aload_n 0, 1) := by decide +kernel
theorem dX10_desk_66 : decode cX10_desk 66 = .ok (.getfield 7, 3) := by decide +kernel
theorem dX10_desk_69 : decode cX10_desk 69 = .ok (.iload_n 1, 1) := by decide +kernel
theorem dX10_desk_70 : decode cX10_desk 70 = .ok (.aload_n 0, 1) := by decide +kernel
theorem dX10_desk_71 : decode cX10_desk 71 = .ok (.getfield 19, 3) := by decide +kernel
theorem dX10_desk_74 : decode cX10_desk 74 = .ok (.iconst 5, 1) := by decide +kernel
theorem dX10_desk_75 : decode cX10_desk 75 = .ok (.iload_n 1, 1) := by decide +kernel
theorem dX10_desk_76 : decode cX10_desk 76 = .ok (.imul, 1) := by decide +kernel
theorem dX10_desk_77 : decode cX10_desk 77 = .ok (.iconst 1, 1) := by decide +kernel
theorem dX10_desk_78 : decode cX10_desk 78 = .ok (.iadd, 1) := by decide +kernel
theorem dX10_desk_79 : decode cX10_desk 79 = .ok (.iaload, 1) := by decide +kernel
theorem dX10_desk_80 : decode cX10_desk 80 = .ok (.iastore, 1) := by decide +kernel
theorem dX10_desk_81 : decode cX10_desk 81 = .ok (.aload_n 0, 1) := by decide +kernel
theorem dX10_desk_82 : decode cX10_desk 82 = .ok (.getfield 16, 3) := by decide +kernel
theorem dX10_desk_85 : decode cX10_desk 85 = .ok (.iconst 4, 1) := by decide +kernel
theorem dX10_desk_86 : decode cX10_desk 86 = .ok (.iload_n 1, 1) := by decide +kernel
theorem dX10_desk_87 : decode cX10_desk 87 = .ok (.iadd, 1) := by decide +kernel
theorem dX10_desk_88 : decode cX10_desk 88 = .ok (.aload_n 0, 1) := by decide +kernel
theorem dX10_desk_89 : decode cX10_desk 89 = .ok (.getfield 19, 3) := by decide +kernel
theorem dX10_desk_92 : decode cX10_desk 92 = .ok (.iconst 5, 1) := by decide +kernel
theorem dX10_desk_93 : decode cX10_desk 93 = .ok (.iload_n 1, 1) := by decide +kernel
theorem dX10_desk_94 : decode cX10_desk 94 = .ok (.imul, 1) := by decide +kernel
theorem dX10_desk_95 : decode cX10_desk 95 = .ok (.iconst 2, 1) := by decide +kernel
theorem dX10_desk_96 : decode cX10_desk 96 = .ok (.iadd, 1) := by decide +kernel
theorem dX10_desk_97 : decode cX10_desk 97 = .ok (.iaload, 1) := by decide +kernel
theorem dX10_desk_98 : decode cX10_desk 98 = .ok (.iconst 3, 1) := by decide +kernel
theorem dX10_desk_99 : decode cX10_desk 99 = .ok (.isub, 1) := by decide +kernel
theorem dX10_desk_100 : decode cX10_desk 100 = .ok (.iastore, 1) := by decide +kernel
theorem dX10_desk_101 : decode cX10_desk 101 = .ok (.aload_n 0, 1) := by decide +kernel
theorem dX10_desk_102 : decode cX10_desk 102 = .ok (.getfield 16, 3) := by decide +kernel
theorem dX10_desk_105 : decode cX10_desk 105 = .ok (.bipush 8, 2) := by decide +kernel
theorem dX10_desk_107 : decode cX10_desk 107 = .ok (.iload_n 1, 1) := by decide +kernel
theorem dX10_desk_108 : decode cX10_desk 108 = .ok (.iadd, 1) := by decide +kernel
theorem dX10_desk_109 : decode cX10_desk 109 = .ok (.aload_n 0, 1) := by decide +kernel
theorem dX10_desk_110 : decode cX10_desk 110 = .ok (.getfield 19, 3) := by decide +kernel
theorem dX10_desk_113 : decode cX10_desk 113 = .ok (.iconst 5, 1) := by decide +kernel
theorem dX10_desk_114 : decode cX10_desk 114 = .ok (.iload_n 1, 1) := by decide +kernel
theorem dX10_desk_115 : decode cX10_desk 115 = .ok (.imul, 1) := by decide +kernel
theorem dX10_desk_116 : decode cX10_desk 116 = .ok (.iconst 3, 1) := by decide +kernel
theorem dX10_desk_117 : decode cX10_desk 117 = .ok (.iadd, 1) := by decide +kernel
theorem dX10_desk_118 : decode cX10_desk 118 = .ok (.iaload, 1) := by decide +kernel
theorem dX10_desk_119 : decode cX10_desk 119 = .ok (.iconst 3, 1) := by decide +kernel
theorem dX10_desk_120 : decode cX10_desk 120 = .ok (.isub, 1) := by decide +kernel
theorem dX10_desk_121 : decode cX10_desk 121 = .ok (.iastore, 1) := by decide +kernel
theorem dX10_desk_122 : decode cX10_desk 122 = .ok (.aload_n 0, 1) := by decide +kernel
theorem dX10_desk_123 : decode cX10_desk 123 = .ok (.getfield 13, 3) := by decide +kernel
theorem dX10_desk_126 : decode cX10_desk 126 = .ok (.iload_n 1, 1) := by decide +kernel
theorem dX10_desk_127 : decode cX10_desk 127 = .ok (.iconst 5, 1) := by decide +kernel
theorem dX10_desk_128 : decode cX10_desk 128 = .ok (.aload_n 0, 1) := by decide +kernel
theorem dX10_desk_129 : decode cX10_desk 129 = .ok (.getfield 19, 3) := by decide +kernel
theorem dX10_desk_132 : decode cX10_desk 132 = .ok (.iconst 5, 1) := by decide +kernel
theorem dX10_desk_133 : decode cX10_desk 133 = .ok (.iload_n 1, 1) := by decide +kernel
theorem dX10_desk_134 : decode cX10_desk 134 = .ok (.imul, 1) := by decide +kernel
theorem dX10_desk_135 : decode cX10_desk 135 = .ok (.iconst 4, 1) := by decide +kernel
theorem dX10_desk_136 : decode cX10_desk 136 = .ok (.iadd, 1) := by decide +kernel
theorem dX10_desk_137 : decode cX10_desk 137 = .ok (.iaload, 1) := by decide +kernel
theorem dX10_desk_138 : decode cX10_desk 138 = .ok (.imul, 1) := by decide +kernel
theorem dX10_desk_139 : decode cX10_desk 139 = .ok (.iastore, 1) := by decide +kernel
theorem dX10_desk_140 : decode cX10_desk 140 = .ok (.aload_n 0, 1) := by decide +kernel
theorem dX10_desk_141 : decode cX10_desk 141 = .ok (.getfield 16, 3) := by decide +kernel
theorem dX10_desk_144 : decode cX10_desk 144 = .ok (.bipush 12, 2) := by decide +kernel
theorem dX10_desk_146 : decode cX10_desk 146 = .ok (.iload_n 1, 1) := by decide +kernel
theorem dX10_desk_147 : decode cX10_desk 147 = .ok (.iadd, 1) := by decide +kernel
theorem dX10_desk_148 : decode cX10_desk 148 = .ok (.aload_n 0, 1) := by decide +kernel
theorem dX10_desk_149 : decode cX10_desk 149 = .ok (.getfield 13, 3) := by decide +kernel
theorem dX10_desk_152 : decode cX10_desk 152 = .ok (.iload_n 1, 1) := by decide +kernel
theorem dX10_desk_153 : decode cX10_desk 153 = .ok (.iaload, 1) := by decide +kernel
theorem dX10_desk_154 : decode cX10_desk 154 = .ok (.iastore, 1) := by decide +kernel
theorem dX10_desk_155 : decode cX10_desk 155 = .ok (.iinc 1 1, 3) := by decide +kernel
theorem dX10_desk_158 : decode cX10_desk 158 = .ok (.goto (-115), 3) := by decide +kernel
theorem dX10_desk_161 : decode cX10_desk 161 = .ok (.iconst 0, 1) := by decide +kernel
theorem dX10_desk_162 : decode cX10_desk 162 = .ok (.istore_n 1, 1) := by decide +kernel
theorem dX10_desk_163 : decode cX10_desk 163 = .ok (.iload_n 1, 1) := by decide +kernel
theorem dX10_desk_164 : decode cX10_desk 164 = .ok (.aload_n 0, 1) := by decide +kernel
theorem dX10_desk_165 : decode cX10_desk 165 = .ok (.getfield 69, 3) := by decide +kernel
theorem dX10_desk_168 : decode cX10_desk 168 = .ok (.if_icmp .ge 35, 3) := by decide +kernel
theorem dX10_desk_171 : decode cX10_desk 171 = .ok (.aload_n 0, 1) := by decide +kernel
theorem dX10_desk_172 : decode cX10_desk 172 = .ok (.getfield 16, 3) := by decide +kernel
theorem dX10_desk_175 : decode cX10_desk 175 = .ok (.bipush 18, 2) := by decide +kernel
theorem dX10_desk_177 : decode cX10_desk 177 = .ok (.aload_n 0, 1) := by decide +kernel
theorem dX10_desk_178 : decode cX10_desk 178 = .ok (.getfield 22, 3) := by decide +kernel
theorem dX10_desk_181 : decode cX10_desk 181 = .ok (.iconst 2, 1) := by decide +kernel
theorem dX10_desk_182 : decode cX10_desk 182 = .ok (.iload_n 1, 1) := by decide +kernel
theorem dX10_desk_183 : decode cX10_desk 183 = .ok (.imul, 1) := by decide +kernel
theorem dX10_desk_184 : decode cX10_desk 184 = .ok (.iaload, 1) := by decide +kernel
theorem dX10_desk_185 : decode cX10_desk 185 = .ok (.iadd, 1) := by decide +kernel
theorem dX10_desk_186 : decode cX10_desk 186 = .ok (.aload_n 0, 1) := by decide +kernel
theorem dX10_desk_187 : decode cX10_desk 187 = .ok (.getfield 22, 3) := by decide +kernel
theorem dX10_desk_190 : decode cX10_desk 190 = .ok (.iconst 2, 1) := by decide +kernel
theorem dX10_desk_191 : decode cX10_desk 191 = .ok (.iload_n 1, 1) := by decide +kernel
theorem dX10_desk_192 : decode cX10_desk 192 = .ok (.imul, 1) := by decide +kernel
theorem dX10_desk_193 : decode cX10_desk 193 = .ok (.iconst 1, 1) := by decide +kernel
theorem dX10_desk_194 : decode cX10_desk 194 = .ok (.iadd, 1) := by decide +kernel
theorem dX10_desk_195 : decode cX10_desk 195 = .ok (.iaload, 1) := by decide +kernel
theorem dX10_desk_196 : decode cX10_desk 196 = .ok (.iastore, 1) := by decide +kernel
theorem dX10_desk_197 : decode cX10_desk 197 = .ok (.iinc 1 1, 3) := by decide +kernel
theorem dX10_desk_200 : decode cX10_desk 200 = .ok (.goto (-37), 3) := by decide +kernel
theorem dX10_desk_203 : decode cX10_desk 203 = .ok (.aload_n 0, 1) := by decide +kernel
theorem dX10_desk_204 : decode cX10_desk 204 = .ok (.getfield 16, 3) := by decide +kernel
theorem dX10_desk_207 : decode cX10_desk 207 = .ok (.bipush 16, 2) := by decide +kernel
theorem dX10_desk_209 : decode cX10_desk 209 = .ok (.iconst 1, 1) := by decide +kernel
theorem dX10_desk_210 : decode cX10_desk 210 = .ok (.aload_n 0, 1) := by decide +kernel
theorem dX10_desk_211 : decode cX10_desk 211 = .ok (.getfield 84, 3) := by decide +kernel
theorem dX10_desk_214 : decode cX10_desk 214 = .ok (.ishl, 1) := by decide +kernel
theorem dX10_desk_215 : decode cX10_desk 215 = .ok (.iconst 1, 1) := by decide +kernel
theorem dX10_desk_216 : decode cX10_desk 216 = .ok (.isub, 1) := by decide +kernel
theorem dX10_desk_217 : decode cX10_desk 217 = .ok (.iastore, 1) := by decide +kernel
theorem dX10_desk_218 : decode cX10_desk 218 = .ok (.aload_n 0, 1) := by decide +kernel
theorem dX10_desk_219 : decode cX10_desk 219 = .ok (.iconst 0, 1) := by decide +kernel
theorem dX10_desk_220 : decode cX10_desk 220 = .ok (.putfield 87, 3) := by decide +kernel
theorem dX10_desk_223 : decode cX10_desk 223 = .ok (.aload_n 0, 1) := by decide +kernel
theorem dX10_desk_224 : decode cX10_desk 224 = .ok (.getfield 43, 3) := by decide +kernel
theorem dX10_desk_227 : decode cX10_desk 227 = .ok (.iconst 0, 1) := by decide +kernel
theorem dX10_desk_228 : decode cX10_desk 228 = .ok (.iconst 0, 1) := by decide +kernel
theorem dX10_desk_229 : decode cX10_desk 229 = .ok (.bastore, 1) := by decide +kernel
theorem dX10_desk_230 : decode cX10_desk 230 = .ok (.aload_n 0, 1) := by decide +kernel
theorem dX10_desk_231 : decode cX10_desk 231 = .ok (.getfield 43, 3) := by decide +kernel
theorem dX10_desk_234 : decode cX10_desk 234 = .ok (.iconst 1, 1) := by decide +kernel
theorem dX10_desk_235 : decode cX10_desk 235 = .ok (.iconst 0, 1) := by decide +kernel
theorem dX10_desk_236 : decode cX10_desk 236 = .ok (.bastore, 1) := by decide +kernel
theorem dX10_desk_237 : decode cX10_desk 237 = .ok (.aload_n 0, 1) := by decide +kernel
theorem dX10_desk_238 : decode cX10_desk 238 = .ok (.getfield 84, 3) := by decide +kernel
theorem dX10_desk_241 : decode cX10_desk 241 = .ok (.ireturn, 1) := by decide +kernel
theorem dX10_tenTo_0 : decode cX10_tenTo 0 = .ok (.lconst 1, 1) := by decide +kernel
theorem dX10_tenTo_1 : decode cX10_tenTo 1 = .ok (.lstore_n 1, 1) := by decide +kernel
theorem dX10_tenTo_2 : decode cX10_tenTo 2 = .ok (.iconst 0, 1) := by decide +kernel
theorem dX10_tenTo_3 : decode cX10_tenTo 3 = .ok (.istore_n 3, 1) := by decide +kernel
theorem dX10_tenTo_4 : decode cX10_tenTo 4 = .ok (.iload_n 3, 1) := by decide +kernel
theorem dX10_tenTo_5 : decode cX10_tenTo 5 = .ok (.iload_n 0, 1) := by decide +kernel
theorem dX10_tenTo_6 : decode cX10_tenTo 6 = .ok (.if_icmp .ge 15, 3) := by decide +kernel
theorem dX10_tenTo_9 : decode cX10_tenTo 9 = .ok (.lload_n 1, 1) := by decide +kernel
theorem dX10_tenTo_10 : decode cX10_tenTo 10 = .ok (.ldc2_w 90, 3) := by decide +kernel
theorem dX10_tenTo_13 : decode cX10_tenTo 13 = .ok (.lmul, 1) := by decide +kernel
theorem dX10_tenTo_14 : decode cX10_tenTo 14 = .ok (.lstore_n 1, 1) := by decide +kernel
theorem dX10_tenTo_15 : decode cX10_tenTo 15 = .ok (.iinc 3 1, 3) := by decide +kernel
theorem dX10_tenTo_18 : decode cX10_tenTo 18 = .ok (.goto (-14), 3) := by decide +kernel
theorem dX10_tenTo_21 : decode cX10_tenTo 21 = .ok (.lload_n 1, 1) := by decide +kernel
theorem dX10_tenTo_22 : decode cX10_tenTo 22 = .ok (.lreturn, 1) := by decide +kernel
theorem dX10_word_0 : decode cX10_word 0 = .ok (.iload_n 1, 1) := by decide +kernel
theorem dX10_word_1 : decode cX10_word 1 = .ok (.i2l, 1) := by decide +kernel
theorem dX10_word_2 : decode cX10_word 2 = .ok (.lconst 0, 1) := by decide +kernel
theorem dX10_word_3 : decode cX10_word 3 = .ok (.ldc2_w 92, 3) := by decide +kernel
theorem dX10_word_6 : decode cX10_word 6 = .ok (.invokestatic 52, 3) := by decide +kernel
theorem dX10_word_9 : decode cX10_word 9 = .ok (.ifCond .eq 17, 3) := by decide +kernel
theorem dX10_word_12 : decode cX10_word 12 = .ok (.lload_n 2, 1) := by decide +kernel
theorem dX10_word_13 : decode cX10_word 13 = .ok (.lconst 0, 1) := by decide +kernel
theorem dX10_word_14 : decode cX10_word 14 = .ok (.iload_n 1, 1) := by decide +kernel
theorem dX10_word_15 : decode cX10_word 15 = .ok (.invokestatic 94, 3) := by decide +kernel
theorem dX10_word_18 : decode cX10_word 18 = .ok (.lconst 1, 1) := by decide +kernel
theorem dX10_word_19 : decode cX10_word 19 = .ok (.lsub, 1) := by decide +kernel
theorem dX10_word_20 : decode cX10_word 20 = .ok (.invokestatic 52, 3) := by decide +kernel
theorem dX10_word_23 : decode cX10_word 23 = .ok (.ifCond .ne 6, 3) := by decide +kernel
theorem dX10_word_26 : decode cX10_word 26 = .ok (.bipush (-2), 2) := by decide +kernel
theorem dX10_word_28 : decode cX10_word 28 = .ok (.ireturn, 1) := by decide +kernel
theorem dX10_word_29 : decode cX10_word 29 = .ok (.iconst 0, 1) := by decide +kernel
theorem dX10_word_30 : decode cX10_word 30 = .ok (.istore 4, 2) := by decide +kernel
theorem dX10_word_32 : decode cX10_word 32 = .ok (.iload 4, 2) := by decide +kernel
theorem dX10_word_34 : decode cX10_word 34 = .ok (.iload_n 1, 1) := by decide +kernel
theorem dX10_word_35 : decode cX10_word 35 = .ok (.if_icmp .ge 30, 3) := by decide +kernel
theorem dX10_word_38 : decode cX10_word 38 = .ok (.lload_n 2, 1) := by decide +kernel
theorem dX10_word_39 : decode cX10_word 39 = .ok (.iload 4, 2) := by decide +kernel
theorem dX10_word_41 : decode cX10_word 41 = .ok (.invokestatic 94, 3) := by decide +kernel
theorem dX10_word_44 : decode cX10_word 44 = .ok (.ldiv, 1) := by decide +kernel
theorem dX10_word_45 : decode cX10_word 45 = .ok (.ldc2_w 90, 3) := by decide +kernel
theorem dX10_word_48 : decode cX10_word 48 = .ok (.lrem, 1) := by decide +kernel
theorem dX10_word_49 : decode cX10_word 49 = .ok (.ldc2_w 98, 3) := by decide +kernel
theorem dX10_word_52 : decode cX10_word 52 = .ok (.lcmp, 1) := by decide +kernel
theorem dX10_word_53 : decode cX10_word 53 = .ok (.ifCond .le 6, 3) := by decide +kernel
theorem dX10_word_56 : decode cX10_word 56 = .ok (.bipush (-2), 2) := by decide +kernel
theorem dX10_word_58 : decode cX10_word 58 = .ok (.ireturn, 1) := by decide +kernel
theorem dX10_word_59 : decode cX10_word 59 = .ok (.iinc 4 1, 3) := by decide +kernel
theorem dX10_word_62 : decode cX10_word 62 = .ok (.goto (-30), 3) := by decide +kernel
theorem dX10_word_65 : decode cX10_word 65 = .ok (.aload_n 0, 1) := by decide +kernel
theorem dX10_word_66 : decode cX10_word 66 = .ok (.getfield 100, 3) := by decide +kernel
theorem dX10_word_69 : decode cX10_word 69 = .ok (.istore 4, 2) := by decide +kernel
theorem dX10_word_71 : decode cX10_word 71 = .ok (.aload_n 0, 1) := by decide +kernel
theorem dX10_word_72 : decode cX10_word 72 = .ok (.iload_n 1, 1) := by decide +kernel
theorem dX10_word_73 : decode cX10_word 73 = .ok (.putfield 100, 3) := by decide +kernel
theorem dX10_word_76 : decode cX10_word 76 = .ok (.iconst 0, 1) := by decide +kernel
theorem dX10_word_77 : decode cX10_word 77 = .ok (.istore 5, 2) := by decide +kernel
theorem dX10_word_79 : decode cX10_word 79 = .ok (.iload 5, 2) := by decide +kernel
theorem dX10_word_81 : decode cX10_word 81 = .ok (.iload_n 1, 1) := by decide +kernel
theorem dX10_word_82 : decode cX10_word 82 = .ok (.if_icmp .ge 32, 3) := by decide +kernel
theorem dX10_word_85 : decode cX10_word 85 = .ok (.aload_n 0, 1) := by decide +kernel
theorem dX10_word_86 : decode cX10_word 86 = .ok (.getfield 28, 3) := by decide +kernel
theorem dX10_word_89 : decode cX10_word 89 = .ok (.iload 5, 2) := by decide +kernel
theorem dX10_word_91 : decode cX10_word 91 = .ok (.lload_n 2, 1) := by decide +kernel
theorem dX10_word_92 : decode cX10_word 92 = .ok (.iload_n 1, 1) := by decide +kernel
theorem dX10_word_93 : decode cX10_word 93 = .ok (.iconst 1, 1) := by decide +kernel
theorem dX10_word_94 : decode cX10_word 94 = .ok (.isub, 1) := by decide +kernel
theorem dX10_word_95 : decode cX10_word 95 = .ok (.iload 5, 2) := by decide +kernel
theorem dX10_word_97 : decode cX10_word 97 = .ok (.isub, 1) := by decide +kernel
theorem dX10_word_98 : decode cX10_word 98 = .ok (.invokestatic 94, 3) := by decide +kernel
theorem dX10_word_101 : decode cX10_word 101 = .ok (.ldiv, 1) := by decide +kernel
theorem dX10_word_102 : decode cX10_word 102 = .ok (.ldc2_w 90, 3) := by decide +kernel
theorem dX10_word_105 : decode cX10_word 105 = .ok (.lrem, 1) := by decide +kernel
theorem dX10_word_106 : decode cX10_word 106 = .ok (.l2i, 1) := by decide +kernel
theorem dX10_word_107 : decode cX10_word 107 = .ok (.iastore, 1) := by decide +kernel
theorem dX10_word_108 : decode cX10_word 108 = .ok (.iinc 5 1, 3) := by decide +kernel
theorem dX10_word_111 : decode cX10_word 111 = .ok (.goto (-32), 3) := by decide +kernel
theorem dX10_word_114 : decode cX10_word 114 = .ok (.iload 4, 2) := by decide +kernel
theorem dX10_word_116 : decode cX10_word 116 = .ok (.ireturn, 1) := by decide +kernel
theorem dX10_isPen_0 : decode cX10_isPen 0 = .ok (.iload_n 1, 1) := by decide +kernel
theorem dX10_isPen_1 : decode cX10_isPen 1 = .ok (.i2l, 1) := by decide +kernel
theorem dX10_isPen_2 : decode cX10_isPen 2 = .ok (.lconst 0, 1) := by decide +kernel
theorem dX10_isPen_3 : decode cX10_isPen 3 = .ok (.aload_n 0, 1) := by decide +kernel
theorem dX10_isPen_4 : decode cX10_isPen 4 = .ok (.getfield 84, 3) := by decide +kernel
theorem dX10_isPen_7 : decode cX10_isPen 7 = .ok (.iconst 1, 1) := by decide +kernel
theorem dX10_isPen_8 : decode cX10_isPen 8 = .ok (.isub, 1) := by decide +kernel
theorem dX10_isPen_9 : decode cX10_isPen 9 = .ok (.i2l, 1) := by decide +kernel
theorem dX10_isPen_10 : decode cX10_isPen 10 = .ok (.invokestatic 52, 3) := by decide +kernel
theorem dX10_isPen_13 : decode cX10_isPen 13 = .ok (.ireturn, 1) := by decide +kernel
theorem dX10_across_0 : decode cX10_across 0 = .ok (.iload_n 0, 1) := by decide +kernel
theorem dX10_across_1 : decode cX10_across 1 = .ok (.iconst 2, 1) := by decide +kernel
theorem dX10_across_2 : decode cX10_across 2 = .ok (.if_icmp .eq 9, 3) := by decide +kernel
theorem dX10_across_5 : decode cX10_across 5 = .ok (.iload_n 0, 1) := by decide +kernel
theorem dX10_across_6 : decode cX10_across 6 = .ok (.bipush 6, 2) := by decide +kernel
theorem dX10_across_8 : decode cX10_across 8 = .ok (.if_icmp .ne 7, 3) := by decide +kernel
theorem dX10_across_11 : decode cX10_across 11 = .ok (.iconst 0, 1) := by decide +kernel
theorem dX10_across_12 : decode cX10_across 12 = .ok (.goto 19, 3) := by decide +kernel
theorem dX10_across_15 : decode cX10_across 15 = .ok (.iload_n 0, 1) := by decide +kernel
theorem dX10_across_16 : decode cX10_across 16 = .ok (.iconst 2, 1) := by decide +kernel
theorem dX10_across_17 : decode cX10_across 17 = .ok (.if_icmp .lt 9, 3) := by decide +kernel
theorem dX10_across_20 : decode cX10_across 20 = .ok (.iload_n 0, 1) := by decide +kernel
theorem dX10_across_21 : decode cX10_across 21 = .ok (.bipush 7, 2) := by decide +kernel
theorem dX10_across_23 : decode cX10_across 23 = .ok (.if_icmp .ne 7, 3) := by decide +kernel
theorem dX10_across_26 : decode cX10_across 26 = .ok (.iconst 1, 1) := by decide +kernel
theorem dX10_across_27 : decode cX10_across 27 = .ok (.goto 4, 3) := by decide +kernel
theorem dX10_across_30 : decode cX10_across 30 = .ok (.iconst (-1), 1) := by decide +kernel
theorem dX10_across_31 : decode cX10_across 31 = .ok (.ireturn, 1) := by decide +kernel
theorem dX10_upward_0 : decode cX10_upward 0 = .ok (.iload_n 0, 1) := by decide +kernel
theorem dX10_upward_1 : decode cX10_upward 1 = .ok (.ifCond .eq 8, 3) := by decide +kernel
theorem dX10_upward_4 : decode cX10_upward 4 = .ok (.iload_n 0, 1) := by decide +kernel
theorem dX10_upward_5 : decode cX10_upward 5 = .ok (.iconst 4, 1) := by decide +kernel
theorem dX10_upward_6 : decode cX10_upward 6 = .ok (.if_icmp .ne 7, 3) := by decide +kernel
theorem dX10_upward_9 : decode cX10_upward 9 = .ok (.iconst 0, 1) := by decide +kernel
theorem dX10_upward_10 : decode cX10_upward 10 = .ok (.goto 13, 3) := by decide +kernel
theorem dX10_upward_13 : decode cX10_upward 13 = .ok (.iload_n 0, 1) := by decide +kernel
theorem dX10_upward_14 : decode cX10_upward 14 = .ok (.iconst 4, 1) := by decide +kernel
theorem dX10_upward_15 : decode cX10_upward 15 = .ok (.if_icmp .ge 7, 3) := by decide +kernel
theorem dX10_upward_18 : decode cX10_upward 18 = .ok (.iconst 1, 1) := by decide +kernel
theorem dX10_upward_19 : decode cX10_upward 19 = .ok (.goto 4, 3) := by decide +kernel
theorem dX10_upward_22 : decode cX10_upward 22 = .ok (.iconst (-1), 1) := by decide +kernel
theorem dX10_upward_23 : decode cX10_upward 23 = .ok (.ireturn, 1) := by decide +kernel
theorem dX10_nextDot_0 : decode cX10_nextDot 0 = .ok (.iload_n 0, 1) := by decide +kernel
theorem dX10_nextDot_1 : decode cX10_nextDot 1 = .ok (.iconst 5, 1) := by decide +kernel
theorem dX10_nextDot_2 : decode cX10_nextDot 2 = .ok (.irem, 1) := by decide +kernel
theorem dX10_nextDot_3 : decode cX10_nextDot 3 = .ok (.iload_n 1, 1) := by decide +kernel
theorem dX10_nextDot_4 : decode cX10_nextDot 4 = .ok (.invokestatic 103, 3) := by decide +kernel
theorem dX10_nextDot_7 : decode cX10_nextDot 7 = .ok (.iadd, 1) := by decide +kernel
theorem dX10_nextDot_8 : decode cX10_nextDot 8 = .ok (.istore_n 2, 1) := by decide +kernel
theorem dX10_nextDot_9 : decode cX10_nextDot 9 = .ok (.iload_n 0, 1) := by decide +kernel
theorem dX10_nextDot_10 : decode cX10_nextDot 10 = .ok (.iconst 5, 1) := by decide +kernel
theorem dX10_nextDot_11 : decode cX10_nextDot 11 = .ok (.idiv, 1) := by decide +kernel
theorem dX10_nextDot_12 : decode cX10_nextDot 12 = .ok (.iload_n 1, 1) := by decide +kernel
theorem dX10_nextDot_13 : decode cX10_nextDot 13 = .ok (.invokestatic 107, 3) := by decide +kernel
theorem dX10_nextDot_16 : decode cX10_nextDot 16 = .ok (.iadd, 1) := by decide +kernel
theorem dX10_nextDot_17 : decode cX10_nextDot 17 = .ok (.istore_n 3, 1) := by decide +kernel
theorem dX10_nextDot_18 : decode cX10_nextDot 18 = .ok (.iload_n 2, 1) := by decide +kernel
theorem dX10_nextDot_19 : decode cX10_nextDot 19 = .ok (.i2l, 1) := by decide +kernel
theorem dX10_nextDot_20 : decode cX10_nextDot 20 = .ok (.lconst 0, 1) := by decide +kernel
theorem dX10_nextDot_21 : decode cX10_nextDot 21 = .ok (.ldc2_w 110, 3) := by decide +kernel
theorem dX10_nextDot_24 : decode cX10_nextDot 24 = .ok (.invokestatic 52, 3) := by decide +kernel
theorem dX10_nextDot_27 : decode cX10_nextDot 27 = .ok (.ifCond .eq 23, 3) := by decide +kernel
theorem dX10_nextDot_30 : decode cX10_nextDot 30 = .ok (.iload_n 3, 1) := by decide +kernel
theorem dX10_nextDot_31 : decode cX10_nextDot 31 = .ok (.i2l, 1) := by decide +kernel
theorem dX10_nextDot_32 : decode cX10_nextDot 32 = .ok (.lconst 0, 1) := by decide +kernel
theorem dX10_nextDot_33 : decode cX10_nextDot 33 = .ok (.ldc2_w 110, 3) := by decide +kernel
theorem dX10_nextDot_36 : decode cX10_nextDot 36 = .ok (.invokestatic 52, 3) := by decide +kernel
theorem dX10_nextDot_39 : decode cX10_nextDot 39 = .ok (.ifCond .eq 11, 3) := by decide +kernel
theorem dX10_nextDot_42 : decode cX10_nextDot 42 = .ok (.iconst 5, 1) := by decide +kernel
theorem dX10_nextDot_43 : decode cX10_nextDot 43 = .ok (.iload_n 3, 1) := by decide +kernel
theorem dX10_nextDot_44 : decode cX10_nextDot 44 = .ok (.imul, 1) := by decide +kernel
theorem dX10_nextDot_45 : decode cX10_nextDot 45 = .ok (.iload_n 2, 1) := by decide +kernel
theorem dX10_nextDot_46 : decode cX10_nextDot 46 = .ok (.iadd, 1) := by decide +kernel
theorem dX10_nextDot_47 : decode cX10_nextDot 47 = .ok (.goto 5, 3) := by decide +kernel
theorem dX10_nextDot_50 : decode cX10_nextDot 50 = .ok (.bipush (-9), 2) := by decide +kernel
theorem dX10_nextDot_52 : decode cX10_nextDot 52 = .ok (.ireturn, 1) := by decide +kernel
theorem dX10_size_0 : decode cX10_size 0 = .ok (.iload_n 0, 1) := by decide +kernel
theorem dX10_size_1 : decode cX10_size 1 = .ok (.ifCond .ge 8, 3) := by decide +kernel
theorem dX10_size_4 : decode cX10_size 4 = .ok (.iload_n 0, 1) := by decide +kernel
theorem dX10_size_5 : decode cX10_size 5 = .ok (.ineg, 1) := by decide +kernel
theorem dX10_size_6 : decode cX10_size 6 = .ok (.goto 4, 3) := by decide +kernel
theorem dX10_size_9 : decode cX10_size 9 = .ok (.iload_n 0, 1) := by decide +kernel
theorem dX10_size_10 : decode cX10_size 10 = .ok (.ireturn, 1) := by decide +kernel
theorem dX10_thickOn_0 : decode cX10_thickOn 0 = .ok (.aload_n 0, 1) := by decide +kernel
theorem dX10_thickOn_1 : decode cX10_thickOn 1 = .ok (.getfield 16, 3) := by decide +kernel
theorem dX10_thickOn_4 : decode cX10_thickOn 4 = .ok (.bipush 43, 2) := by decide +kernel
theorem dX10_thickOn_6 : decode cX10_thickOn 6 = .ok (.iload_n 1, 1) := by decide +kernel
theorem dX10_thickOn_7 : decode cX10_thickOn 7 = .ok (.imul, 1) := by decide +kernel
theorem dX10_thickOn_8 : decode cX10_thickOn 8 = .ok (.iconst 4, 1) := by decide +kernel
theorem dX10_thickOn_9 : decode cX10_thickOn 9 = .ok (.iadd, 1) := by decide +kernel
theorem dX10_thickOn_10 : decode cX10_thickOn 10 = .ok (.iload_n 2, 1) := by decide +kernel
theorem dX10_thickOn_11 : decode cX10_thickOn 11 = .ok (.iadd, 1) := by decide +kernel
theorem dX10_thickOn_12 : decode cX10_thickOn 12 = .ok (.iaload, 1) := by decide +kernel
theorem dX10_thickOn_13 : decode cX10_thickOn 13 = .ok (.istore 4, 2) := by decide +kernel
theorem dX10_thickOn_15 : decode cX10_thickOn 15 = .ok (.aload_n 0, 1) := by decide +kernel
theorem dX10_thickOn_16 : decode cX10_thickOn 16 = .ok (.getfield 16, 3) := by decide +kernel
theorem dX10_thickOn_19 : decode cX10_thickOn 19 = .ok (.bipush 43, 2) := by decide +kernel
theorem dX10_thickOn_21 : decode cX10_thickOn 21 = .ok (.iload_n 1, 1) := by decide +kernel
theorem dX10_thickOn_22 : decode cX10_thickOn 22 = .ok (.imul, 1) := by decide +kernel
theorem dX10_thickOn_23 : decode cX10_thickOn 23 = .ok (.bipush 8, 2) := by decide +kernel
theorem dX10_thickOn_25 : decode cX10_thickOn 25 = .ok (.iadd, 1) := by decide +kernel
theorem dX10_thickOn_26 : decode cX10_thickOn 26 = .ok (.iload_n 2, 1) := by decide +kernel
theorem dX10_thickOn_27 : decode cX10_thickOn 27 = .ok (.iadd, 1) := by decide +kernel
theorem dX10_thickOn_28 : decode cX10_thickOn 28 = .ok (.iaload, 1) := by decide +kernel
theorem dX10_thickOn_29 : decode cX10_thickOn 29 = .ok (.istore 5, 2) := by decide +kernel
theorem dX10_thickOn_31 : decode cX10_thickOn 31 = .ok (.iload_n 3, 1) := by decide +kernel
theorem dX10_thickOn_32 : decode cX10_thickOn 32 = .ok (.invokestatic 103, 3) := by decide +kernel
theorem dX10_thickOn_35 : decode cX10_thickOn 35 = .ok (.iload 5, 2) := by decide +kernel
theorem dX10_thickOn_37 : decode cX10_thickOn 37 = .ok (.imul, 1) := by decide +kernel
theorem dX10_thickOn_38 : decode cX10_thickOn 38 = .ok (.iload_n 3, 1) := by decide +kernel
theorem dX10_thickOn_39 : decode cX10_thickOn 39 = .ok (.invokestatic 107, 3) := by decide +kernel
theorem dX10_thickOn_42 : decode cX10_thickOn 42 = .ok (.iload 4, 2) := by decide +kernel
theorem dX10_thickOn_44 : decode cX10_thickOn 44 = .ok (.imul, 1) := by decide +kernel
theorem dX10_thickOn_45 : decode cX10_thickOn 45 = .ok (.isub, 1) := by decide +kernel
theorem dX10_thickOn_46 : decode cX10_thickOn 46 = .ok (.invokestatic 112, 3) := by decide +kernel
theorem dX10_thickOn_49 : decode cX10_thickOn 49 = .ok (.istore 6, 2) := by decide +kernel
theorem dX10_thickOn_51 : decode cX10_thickOn 51 = .ok (.aload_n 0, 1) := by decide +kernel
theorem dX10_thickOn_52 : decode cX10_thickOn 52 = .ok (.getfield 7, 3) := by decide +kernel
theorem dX10_thickOn_55 : decode cX10_thickOn 55 = .ok (.iload_n 2, 1) := by decide +kernel
theorem dX10_thickOn_56 : decode cX10_thickOn 56 = .ok (.iaload, 1) := by decide +kernel
theorem dX10_thickOn_57 : decode cX10_thickOn 57 = .ok (.iconst 1, 1) := by decide +kernel
theorem dX10_thickOn_58 : decode cX10_thickOn 58 = .ok (.if_icmp .ne 28, 3) := by decide +kernel
theorem dX10_thickOn_61 : decode cX10_thickOn 61 = .ok (.iload_n 3, 1) := by decide +kernel
theorem dX10_thickOn_62 : decode cX10_thickOn 62 = .ok (.invokestatic 107, 3) := by decide +kernel
theorem dX10_thickOn_65 : decode cX10_thickOn 65 = .ok (.ifCond .lt 7, 3) := by decide +kernel
theorem dX10_thickOn_68 : decode cX10_thickOn 68 = .ok (.iconst 1, 1) := by decide +kernel
theorem dX10_thickOn_69 : decode cX10_thickOn 69 = .ok (.goto 16, 3) := by decide +kernel
theorem dX10_thickOn_72 : decode cX10_thickOn 72 = .ok (.iconst 1, 1) := by decide +kernel
theorem dX10_thickOn_73 : decode cX10_thickOn 73 = .ok (.iload 4, 2) := by decide +kernel
theorem dX10_thickOn_75 : decode cX10_thickOn 75 = .ok (.invokestatic 112, 3) := by decide +kernel
theorem dX10_thickOn_78 : decode cX10_thickOn 78 = .ok (.iadd, 1) := by decide +kernel
theorem dX10_thickOn_79 : decode cX10_thickOn 79 = .ok (.iload 5, 2) := by decide +kernel
theorem dX10_thickOn_81 : decode cX10_thickOn 81 = .ok (.invokestatic 112, 3) := by decide +kernel
theorem dX10_thickOn_84 : decode cX10_thickOn 84 = .ok (.iadd, 1) := by decide +kernel
theorem dX10_thickOn_85 : decode cX10_thickOn 85 = .ok (.ireturn, 1) := by decide +kernel
theorem dX10_thickOn_86 : decode cX10_thickOn 86 = .ok (.aload_n 0, 1) := by decide +kernel
theorem dX10_thickOn_87 : decode cX10_thickOn 87 = .ok (.getfield 7, 3) := by decide +kernel
theorem dX10_thickOn_90 : decode cX10_thickOn 90 = .ok (.iload_n 2, 1) := by decide +kernel
theorem dX10_thickOn_91 : decode cX10_thickOn 91 = .ok (.iaload, 1) := by decide +kernel
theorem dX10_thickOn_92 : decode cX10_thickOn 92 = .ok (.iconst 3, 1) := by decide +kernel
theorem dX10_thickOn_93 : decode cX10_thickOn 93 = .ok (.if_icmp .ne 20, 3) := by decide +kernel
theorem dX10_thickOn_96 : decode cX10_thickOn 96 = .ok (.iload 6, 2) := by decide +kernel
theorem dX10_thickOn_98 : decode cX10_thickOn 98 = .ok (.iconst 1, 1) := by decide +kernel
theorem dX10_thickOn_99 : decode cX10_thickOn 99 = .ok (.iadd, 1) := by decide +kernel
theorem dX10_thickOn_100 : decode cX10_thickOn 100 = .ok (.iconst 2, 1) := by decide +kernel
theorem dX10_thickOn_101 : decode cX10_thickOn 101 = .ok (.if_icmp .le 7, 3) := by decide +kernel
theorem dX10_thickOn_104 : decode cX10_thickOn 104 = .ok (.iconst 2, 1) := by decide +kernel
theorem dX10_thickOn_105 : decode cX10_thickOn 105 = .ok (.goto 7, 3) := by decide +kernel
theorem dX10_thickOn_108 : decode cX10_thickOn 108 = .ok (.iload 6, 2) := by decide +kernel
theorem dX10_thickOn_110 : decode cX10_thickOn 110 = .ok (.iconst 1, 1) := by decide +kernel
theorem dX10_thickOn_111 : decode cX10_thickOn 111 = .ok (.iadd, 1) := by decide +kernel
theorem dX10_thickOn_112 : decode cX10_thickOn 112 = .ok (.ireturn, 1) := by decide +kernel
theorem dX10_thickOn_113 : decode cX10_thickOn 113 = .ok (.aload_n 0, 1) := by decide +kernel
theorem dX10_thickOn_114 : decode cX10_thickOn 114 = .ok (.getfield 7, 3) := by decide +kernel
theorem dX10_thickOn_117 : decode cX10_thickOn 117 = .ok (.iload_n 2, 1) := by decide +kernel
theorem dX10_thickOn_118 : decode cX10_thickOn 118 = .ok (.iaload, 1) := by decide +kernel
theorem dX10_thickOn_119 : decode cX10_thickOn 119 = .ok (.iconst 2, 1) := by decide +kernel
theorem dX10_thickOn_120 : decode cX10_thickOn 120 = .ok (.if_icmp .ne 10, 3) := by decide +kernel
theorem dX10_thickOn_123 : decode cX10_thickOn 123 = .ok (.iload 6, 2) := by decide +kernel
theorem dX10_thickOn_125 : decode cX10_thickOn 125 = .ok (.iconst 1, 1) := by decide +kernel
theorem dX10_thickOn_126 : decode cX10_thickOn 126 = .ok (.iadd, 1) := by decide +kernel
theorem dX10_thickOn_127 : decode cX10_thickOn 127 = .ok (.goto 5, 3) := by decide +kernel
theorem dX10_thickOn_130 : decode cX10_thickOn 130 = .ok (.iload 6, 2) := by decide +kernel
theorem dX10_thickOn_132 : decode cX10_thickOn 132 = .ok (.ireturn, 1) := by decide +kernel
theorem dX10_canStep_0 : decode cX10_canStep 0 = .ok (.aload_n 0, 1) := by decide +kernel
theorem dX10_canStep_1 : decode cX10_canStep 1 = .ok (.iload_n 2, 1) := by decide +kernel
theorem dX10_canStep_2 : decode cX10_canStep 2 = .ok (.invokevirtual 115, 3) := by decide +kernel
theorem dX10_canStep_5 : decode cX10_canStep 5 = .ok (.ifCond .eq 39, 3) := by decide +kernel
theorem dX10_canStep_8 : decode cX10_canStep 8 = .ok (.iload_n 3, 1) := by decide +kernel
theorem dX10_canStep_9 : decode cX10_canStep 9 = .ok (.i2l, 1) := by decide +kernel
theorem dX10_canStep_10 : decode cX10_canStep 10 = .ok (.lconst 0, 1) := by decide +kernel
theorem dX10_canStep_11 : decode cX10_canStep 11 = .ok (.ldc2_w 98, 3) := by decide +kernel
theorem dX10_canStep_14 : decode cX10_canStep 14 = .ok (.invokestatic 52, 3) := by decide +kernel
theorem dX10_canStep_17 : decode cX10_canStep 17 = .ok (.ifCond .eq 27, 3) := by decide +kernel
theorem dX10_canStep_20 : decode cX10_canStep 20 = .ok (.aload_n 0, 1) := by decide +kernel
theorem dX10_canStep_21 : decode cX10_canStep 21 = .ok (.getfield 16, 3) := by decide +kernel
theorem dX10_canStep_24 : decode cX10_canStep 24 = .ok (.bipush 43, 2) := by decide +kernel
theorem dX10_canStep_26 : decode cX10_canStep 26 = .ok (.iload_n 1, 1) := by decide +kernel
theorem dX10_canStep_27 : decode cX10_canStep 27 = .ok (.imul, 1) := by decide +kernel
theorem dX10_canStep_28 : decode cX10_canStep 28 = .ok (.iload_n 2, 1) := by decide +kernel
theorem dX10_canStep_29 : decode cX10_canStep 29 = .ok (.iadd, 1) := by decide +kernel
theorem dX10_canStep_30 : decode cX10_canStep 30 = .ok (.iaload, 1) := by decide +kernel
theorem dX10_canStep_31 : decode cX10_canStep 31 = .ok (.iload_n 3, 1) := by decide +kernel
theorem dX10_canStep_32 : decode cX10_canStep 32 = .ok (.invokestatic 119, 3) := by decide +kernel
theorem dX10_canStep_35 : decode cX10_canStep 35 = .ok (.bipush (-9), 2) := by decide +kernel
theorem dX10_canStep_37 : decode cX10_canStep 37 = .ok (.if_icmp .eq 7, 3) := by decide +kernel
theorem dX10_canStep_40 : decode cX10_canStep 40 = .ok (.iconst 1, 1) := by decide +kernel
theorem dX10_canStep_41 : decode cX10_canStep 41 = .ok (.goto 4, 3) := by decide +kernel
theorem dX10_canStep_44 : decode cX10_canStep 44 = .ok (.iconst 0, 1) := by decide +kernel
theorem dX10_canStep_45 : decode cX10_canStep 45 = .ok (.ireturn, 1) := by decide +kernel
theorem dX10_stepOn_0 : decode cX10_stepOn 0 = .ok (.bipush 43, 2) := by decide +kernel
theorem dX10_stepOn_2 : decode cX10_stepOn 2 = .ok (.iload_n 1, 1) := by decide +kernel
theorem dX10_stepOn_3 : decode cX10_stepOn 3 = .ok (.imul, 1) := by decide +kernel
theorem dX10_stepOn_4 : decode cX10_stepOn 4 = .ok (.istore 4, 2) := by decide +kernel
theorem dX10_stepOn_6 : decode cX10_stepOn 6 = .ok (.aload_n 0, 1) := by decide +kernel
theorem dX10_stepOn_7 : decode cX10_stepOn 7 = .ok (.iload_n 1, 1) := by decide +kernel
theorem dX10_stepOn_8 : decode cX10_stepOn 8 = .ok (.iload_n 2, 1) := by decide +kernel
theorem dX10_stepOn_9 : decode cX10_stepOn 9 = .ok (.iload_n 3, 1) := by decide +kernel
theorem dX10_stepOn_10 : decode cX10_stepOn 10 = .ok (.invokevirtual 122, 3) := by decide +kernel
theorem dX10_stepOn_13 : decode cX10_stepOn 13 = .ok (.istore 5, 2) := by decide +kernel
theorem dX10_stepOn_15 : decode cX10_stepOn 15 = .ok (.aload_n 0, 1) := by decide +kernel
theorem dX10_stepOn_16 : decode cX10_stepOn 16 = .ok (.getfield 16, 3) := by decide +kernel
theorem dX10_stepOn_19 : decode cX10_stepOn 19 = .ok (.iload 4, 2) := by decide +kernel
theorem dX10_stepOn_21 : decode cX10_stepOn 21 = .ok (.iload_n 2, 1) := by decide +kernel
theorem dX10_stepOn_22 : decode cX10_stepOn 22 = .ok (.iadd, 1) := by decide +kernel
theorem dX10_stepOn_23 : decode cX10_stepOn 23 = .ok (.iaload, 1) := by decide +kernel
theorem dX10_stepOn_24 : decode cX10_stepOn 24 = .ok (.iload_n 3, 1) := by decide +kernel
theorem dX10_stepOn_25 : decode cX10_stepOn 25 = .ok (.invokestatic 119, 3) := by decide +kernel
theorem dX10_stepOn_28 : decode cX10_stepOn 28 = .ok (.istore 6, 2) := by decide +kernel
theorem dX10_stepOn_30 : decode cX10_stepOn 30 = .ok (.aload_n 0, 1) := by decide +kernel
theorem dX10_stepOn_31 : decode cX10_stepOn 31 = .ok (.getfield 16, 3) := by decide +kernel
theorem dX10_stepOn_34 : decode cX10_stepOn 34 = .ok (.iload 4, 2) := by decide +kernel
theorem dX10_stepOn_36 : decode cX10_stepOn 36 = .ok (.bipush 16, 2) := by decide +kernel
theorem dX10_stepOn_38 : decode cX10_stepOn 38 = .ok (.iadd, 1) := by decide +kernel
theorem dX10_stepOn_39 : decode cX10_stepOn 39 = .ok (.iaload, 1) := by decide +kernel
theorem dX10_stepOn_40 : decode cX10_stepOn 40 = .ok (.iload_n 2, 1) := by decide +kernel
theorem dX10_stepOn_41 : decode cX10_stepOn 41 = .ok (.invokestatic 126, 3) := by decide +kernel
theorem dX10_stepOn_44 : decode cX10_stepOn 44 = .ok (.ifCond .ne 7, 3) := by decide +kernel
theorem dX10_stepOn_47 : decode cX10_stepOn 47 = .ok (.iconst 0, 1) := by decide +kernel
theorem dX10_stepOn_48 : decode cX10_stepOn 48 = .ok (.goto 37, 3) := by decide +kernel
theorem dX10_stepOn_51 : decode cX10_stepOn 51 = .ok (.iload 5, 2) := by decide +kernel
theorem dX10_stepOn_53 : decode cX10_stepOn 53 = .ok (.aload_n 0, 1) := by decide +kernel
theorem dX10_stepOn_54 : decode cX10_stepOn 54 = .ok (.getfield 16, 3) := by decide +kernel
theorem dX10_stepOn_57 : decode cX10_stepOn 57 = .ok (.iload 4, 2) := by decide +kernel
theorem dX10_stepOn_59 : decode cX10_stepOn 59 = .ok (.bipush 12, 2) := by decide +kernel
theorem dX10_stepOn_61 : decode cX10_stepOn 61 = .ok (.iadd, 1) := by decide +kernel
theorem dX10_stepOn_62 : decode cX10_stepOn 62 = .ok (.iload_n 2, 1) := by decide +kernel
theorem dX10_stepOn_63 : decode cX10_stepOn 63 = .ok (.iadd, 1) := by decide +kernel
theorem dX10_stepOn_64 : decode cX10_stepOn 64 = .ok (.iaload, 1) := by decide +kernel
theorem dX10_stepOn_65 : decode cX10_stepOn 65 = .ok (.if_icmp .ge 8, 3) := by decide +kernel
theorem dX10_stepOn_68 : decode cX10_stepOn 68 = .ok (.iload 5, 2) := by decide +kernel
theorem dX10_stepOn_70 : decode cX10_stepOn 70 = .ok (.goto 15, 3) := by decide +kernel
theorem dX10_stepOn_73 : decode cX10_stepOn 73 = .ok (.aload_n 0, 1) := by decide +kernel
theorem dX10_stepOn_74 : decode cX10_stepOn 74 = .ok (.getfield 16, 3) := by decide +kernel
theorem dX10_stepOn_77 : decode cX10_stepOn 77 = .ok (.iload 4, 2) := by decide +kernel
theorem dX10_stepOn_79 : decode cX10_stepOn 79 = .ok (.bipush 12, 2) := by decide +kernel
theorem dX10_stepOn_81 : decode cX10_stepOn 81 = .ok (.iadd, 1) := by decide +kernel
theorem dX10_stepOn_82 : decode cX10_stepOn 82 = .ok (.iload_n 2, 1) := by decide +kernel
theorem dX10_stepOn_83 : decode cX10_stepOn 83 = .ok (.iadd, 1) := by decide +kernel
theorem dX10_stepOn_84 : decode cX10_stepOn 84 = .ok (.iaload, 1) := by decide +kernel
theorem dX10_stepOn_85 : decode cX10_stepOn 85 = .ok (.istore 7, 2) := by decide +kernel
theorem dX10_stepOn_87 : decode cX10_stepOn 87 = .ok (.aload_n 0, 1) := by decide +kernel
theorem dX10_stepOn_88 : decode cX10_stepOn 88 = .ok (.getfield 16, 3) := by decide +kernel
theorem dX10_stepOn_91 : decode cX10_stepOn 91 = .ok (.iload 4, 2) := by decide +kernel
theorem dX10_stepOn_93 : decode cX10_stepOn 93 = .ok (.iload_n 2, 1) := by decide +kernel
theorem dX10_stepOn_94 : decode cX10_stepOn 94 = .ok (.iadd, 1) := by decide +kernel
theorem dX10_stepOn_95 : decode cX10_stepOn 95 = .ok (.iload 6, 2) := by decide +kernel
theorem dX10_stepOn_97 : decode cX10_stepOn 97 = .ok (.iastore, 1) := by decide +kernel
theorem dX10_stepOn_98 : decode cX10_stepOn 98 = .ok (.aload_n 0, 1) := by decide +kernel
theorem dX10_stepOn_99 : decode cX10_stepOn 99 = .ok (.getfield 16, 3) := by decide +kernel
theorem dX10_stepOn_102 : decode cX10_stepOn 102 = .ok (.iload 4, 2) := by decide +kernel
theorem dX10_stepOn_104 : decode cX10_stepOn 104 = .ok (.bipush 12, 2) := by decide +kernel
theorem dX10_stepOn_106 : decode cX10_stepOn 106 = .ok (.iadd, 1) := by decide +kernel
theorem dX10_stepOn_107 : decode cX10_stepOn 107 = .ok (.iload_n 2, 1) := by decide +kernel
theorem dX10_stepOn_108 : decode cX10_stepOn 108 = .ok (.iadd, 1) := by decide +kernel
theorem dX10_stepOn_109 : decode cX10_stepOn 109 = .ok (.dup2, 1) := by decide +kernel
theorem dX10_stepOn_110 : decode cX10_stepOn 110 = .ok (.iaload, 1) := by decide +kernel
theorem dX10_stepOn_111 : decode cX10_stepOn 111 = .ok (.iload 7, 2) := by decide +kernel
theorem dX10_stepOn_113 : decode cX10_stepOn 113 = .ok (.isub, 1) := by decide +kernel
theorem dX10_stepOn_114 : decode cX10_stepOn 114 = .ok (.iastore, 1) := by decide +kernel
theorem dX10_stepOn_115 : decode cX10_stepOn 115 = .ok (.aload_n 0, 1) := by decide +kernel
theorem dX10_stepOn_116 : decode cX10_stepOn 116 = .ok (.getfield 16, 3) := by decide +kernel
theorem dX10_stepOn_119 : decode cX10_stepOn 119 = .ok (.iload 4, 2) := by decide +kernel
theorem dX10_stepOn_121 : decode cX10_stepOn 121 = .ok (.bipush 18, 2) := by decide +kernel
theorem dX10_stepOn_123 : decode cX10_stepOn 123 = .ok (.iadd, 1) := by decide +kernel
theorem dX10_stepOn_124 : decode cX10_stepOn 124 = .ok (.iload 6, 2) := by decide +kernel
theorem dX10_stepOn_126 : decode cX10_stepOn 126 = .ok (.iadd, 1) := by decide +kernel
theorem dX10_stepOn_127 : decode cX10_stepOn 127 = .ok (.iaload, 1) := by decide +kernel
theorem dX10_stepOn_128 : decode cX10_stepOn 128 = .ok (.iload 7, 2) := by decide +kernel
theorem dX10_stepOn_130 : decode cX10_stepOn 130 = .ok (.iadd, 1) := by decide +kernel
theorem dX10_stepOn_131 : decode cX10_stepOn 131 = .ok (.istore 8, 2) := by decide +kernel
theorem dX10_stepOn_133 : decode cX10_stepOn 133 = .ok (.aload_n 0, 1) := by decide +kernel
theorem dX10_stepOn_134 : decode cX10_stepOn 134 = .ok (.getfield 16, 3) := by decide +kernel
theorem dX10_stepOn_137 : decode cX10_stepOn 137 = .ok (.iload 4, 2) := by decide +kernel
theorem dX10_stepOn_139 : decode cX10_stepOn 139 = .ok (.bipush 18, 2) := by decide +kernel
theorem dX10_stepOn_141 : decode cX10_stepOn 141 = .ok (.iadd, 1) := by decide +kernel
theorem dX10_stepOn_142 : decode cX10_stepOn 142 = .ok (.iload 6, 2) := by decide +kernel
theorem dX10_stepOn_144 : decode cX10_stepOn 144 = .ok (.iadd, 1) := by decide +kernel
theorem dX10_stepOn_145 : decode cX10_stepOn 145 = .ok (.iload 8, 2) := by decide +kernel
theorem dX10_stepOn_147 : decode cX10_stepOn 147 = .ok (.bipush 99, 2) := by decide +kernel
theorem dX10_stepOn_149 : decode cX10_stepOn 149 = .ok (.if_icmp .le 8, 3) := by decide +kernel
theorem dX10_stepOn_152 : decode cX10_stepOn 152 = .ok (.bipush 99, 2) := by decide +kernel
theorem dX10_stepOn_154 : decode cX10_stepOn 154 = .ok (.goto 5, 3) := by decide +kernel
theorem dX10_stepOn_157 : decode cX10_stepOn 157 = .ok (.iload 8, 2) := by decide +kernel
theorem dX10_stepOn_159 : decode cX10_stepOn 159 = .ok (.iastore, 1) := by decide +kernel
theorem dX10_stepOn_160 : decode cX10_stepOn 160 = .ok (.aload_n 0, 1) := by decide +kernel
theorem dX10_stepOn_161 : decode cX10_stepOn 161 = .ok (.getfield 16, 3) := by decide +kernel
theorem dX10_stepOn_164 : decode cX10_stepOn 164 = .ok (.iload 4, 2) := by decide +kernel
theorem dX10_stepOn_166 : decode cX10_stepOn 166 = .ok (.bipush 17, 2) := by decide +kernel
theorem dX10_stepOn_168 : decode cX10_stepOn 168 = .ok (.iadd, 1) := by decide +kernel
theorem dX10_stepOn_169 : decode cX10_stepOn 169 = .ok (.dup2, 1) := by decide +kernel
theorem dX10_stepOn_170 : decode cX10_stepOn 170 = .ok (.iaload, 1) := by decide +kernel
theorem dX10_stepOn_171 : decode cX10_stepOn 171 = .ok (.iconst 1, 1) := by decide +kernel
theorem dX10_stepOn_172 : decode cX10_stepOn 172 = .ok (.iadd, 1) := by decide +kernel
theorem dX10_stepOn_173 : decode cX10_stepOn 173 = .ok (.iastore, 1) := by decide +kernel
theorem dX10_stepOn_174 : decode cX10_stepOn 174 = .ok (.iload 7, 2) := by decide +kernel
theorem dX10_stepOn_176 : decode cX10_stepOn 176 = .ok (.ireturn, 1) := by decide +kernel
theorem dX10_turnOn_0 : decode cX10_turnOn 0 = .ok (.bipush 43, 2) := by decide +kernel
theorem dX10_turnOn_2 : decode cX10_turnOn 2 = .ok (.iload_n 1, 1) := by decide +kernel
theorem dX10_turnOn_3 : decode cX10_turnOn 3 = .ok (.imul, 1) := by decide +kernel
theorem dX10_turnOn_4 : decode cX10_turnOn 4 = .ok (.istore_n 3, 1) := by decide +kernel
theorem dX10_turnOn_5 : decode cX10_turnOn 5 = .ok (.aload_n 0, 1) := by decide +kernel
theorem dX10_turnOn_6 : decode cX10_turnOn 6 = .ok (.getfield 16, 3) := by decide +kernel
theorem dX10_turnOn_9 : decode cX10_turnOn 9 = .ok (.iload_n 3, 1) := by decide +kernel
theorem dX10_turnOn_10 : decode cX10_turnOn 10 = .ok (.iconst 4, 1) := by decide +kernel
theorem dX10_turnOn_11 : decode cX10_turnOn 11 = .ok (.iadd, 1) := by decide +kernel
theorem dX10_turnOn_12 : decode cX10_turnOn 12 = .ok (.iload_n 2, 1) := by decide +kernel
theorem dX10_turnOn_13 : decode cX10_turnOn 13 = .ok (.iadd, 1) := by decide +kernel
theorem dX10_turnOn_14 : decode cX10_turnOn 14 = .ok (.iaload, 1) := by decide +kernel
theorem dX10_turnOn_15 : decode cX10_turnOn 15 = .ok (.istore 4, 2) := by decide +kernel
theorem dX10_turnOn_17 : decode cX10_turnOn 17 = .ok (.aload_n 0, 1) := by decide +kernel
theorem dX10_turnOn_18 : decode cX10_turnOn 18 = .ok (.getfield 16, 3) := by decide +kernel
theorem dX10_turnOn_21 : decode cX10_turnOn 21 = .ok (.iload_n 3, 1) := by decide +kernel
theorem dX10_turnOn_22 : decode cX10_turnOn 22 = .ok (.iconst 4, 1) := by decide +kernel
theorem dX10_turnOn_23 : decode cX10_turnOn 23 = .ok (.iadd, 1) := by decide +kernel
theorem dX10_turnOn_24 : decode cX10_turnOn 24 = .ok (.iload_n 2, 1) := by decide +kernel
theorem dX10_turnOn_25 : decode cX10_turnOn 25 = .ok (.iadd, 1) := by decide +kernel
theorem dX10_turnOn_26 : decode cX10_turnOn 26 = .ok (.aload_n 0, 1) := by decide +kernel
theorem dX10_turnOn_27 : decode cX10_turnOn 27 = .ok (.getfield 16, 3) := by decide +kernel
theorem dX10_turnOn_30 : decode cX10_turnOn 30 = .ok (.iload_n 3, 1) := by decide +kernel
theorem dX10_turnOn_31 : decode cX10_turnOn 31 = .ok (.bipush 8, 2) := by decide +kernel
theorem dX10_turnOn_33 : decode cX10_turnOn 33 = .ok (.iadd, 1) := by decide +kernel
theorem dX10_turnOn_34 : decode cX10_turnOn 34 = .ok (.iload_n 2, 1) := by decide +kernel
theorem dX10_turnOn_35 : decode cX10_turnOn 35 = .ok (.iadd, 1) := by decide +kernel
theorem dX10_turnOn_36 : decode cX10_turnOn 36 = .ok (.iaload, 1) := by decide +kernel
theorem dX10_turnOn_37 : decode cX10_turnOn 37 = .ok (.ineg, 1) := by decide +kernel
theorem dX10_turnOn_38 : decode cX10_turnOn 38 = .ok (.iastore, 1) := by decide +kernel
theorem dX10_turnOn_39 : decode cX10_turnOn 39 = .ok (.aload_n 0, 1) := by decide +kernel
theorem dX10_turnOn_40 : decode cX10_turnOn 40 = .ok (.getfield 16, 3) := by decide +kernel
theorem dX10_turnOn_43 : decode cX10_turnOn 43 = .ok (.iload_n 3, 1) := by decide +kernel
theorem dX10_turnOn_44 : decode cX10_turnOn 44 = .ok (.bipush 8, 2) := by decide +kernel
theorem dX10_turnOn_46 : decode cX10_turnOn 46 = .ok (.iadd, 1) := by decide +kernel
theorem dX10_turnOn_47 : decode cX10_turnOn 47 = .ok (.iload_n 2, 1) := by decide +kernel
theorem dX10_turnOn_48 : decode cX10_turnOn 48 = .ok (.iadd, 1) := by decide +kernel
theorem dX10_turnOn_49 : decode cX10_turnOn 49 = .ok (.iload 4, 2) := by decide +kernel
theorem dX10_turnOn_51 : decode cX10_turnOn 51 = .ok (.iastore, 1) := by decide +kernel
theorem dX10_turnOn_52 : decode cX10_turnOn 52 = .ok (.return_, 1) := by decide +kernel
theorem dX10_nibOf_0 : decode cX10_nibOf 0 = .ok (.bipush 10, 2) := by decide +kernel
theorem dX10_nibOf_2 : decode cX10_nibOf 2 = .ok (.aload_n 0, 1) := by decide +kernel
theorem dX10_nibOf_3 : decode cX10_nibOf 3 = .ok (.getfield 16, 3) := by decide +kernel
theorem dX10_nibOf_6 : decode cX10_nibOf 6 = .ok (.iconst 4, 1) := by decide +kernel
theorem dX10_nibOf_7 : decode cX10_nibOf 7 = .ok (.iload_n 1, 1) := by decide +kernel
theorem dX10_nibOf_8 : decode cX10_nibOf 8 = .ok (.iadd, 1) := by decide +kernel
theorem dX10_nibOf_9 : decode cX10_nibOf 9 = .ok (.iaload, 1) := by decide +kernel
theorem dX10_nibOf_10 : decode cX10_nibOf 10 = .ok (.iconst 3, 1) := by decide +kernel
theorem dX10_nibOf_11 : decode cX10_nibOf 11 = .ok (.iadd, 1) := by decide +kernel
theorem dX10_nibOf_12 : decode cX10_nibOf 12 = .ok (.imul, 1) := by decide +kernel
theorem dX10_nibOf_13 : decode cX10_nibOf 13 = .ok (.aload_n 0, 1) := by decide +kernel
theorem dX10_nibOf_14 : decode cX10_nibOf 14 = .ok (.getfield 16, 3) := by decide +kernel
theorem dX10_nibOf_17 : decode cX10_nibOf 17 = .ok (.bipush 8, 2) := by decide +kernel
theorem dX10_nibOf_19 : decode cX10_nibOf 19 = .ok (.iload_n 1, 1) := by decide +kernel
theorem dX10_nibOf_20 : decode cX10_nibOf 20 = .ok (.iadd, 1) := by decide +kernel
theorem dX10_nibOf_21 : decode cX10_nibOf 21 = .ok (.iaload, 1) := by decide +kernel
theorem dX10_nibOf_22 : decode cX10_nibOf 22 = .ok (.iadd, 1) := by decide +kernel
theorem dX10_nibOf_23 : decode cX10_nibOf 23 = .ok (.iconst 3, 1) := by decide +kernel
theorem dX10_nibOf_24 : decode cX10_nibOf 24 = .ok (.iadd, 1) := by decide +kernel
theorem dX10_nibOf_25 : decode cX10_nibOf 25 = .ok (.ireturn, 1) := by decide +kernel
theorem dX10_writeOn_0 : decode cX10_writeOn 0 = .ok (.iconst 0, 1) := by decide +kernel
theorem dX10_writeOn_1 : decode cX10_writeOn 1 = .ok (.istore 5, 2) := by decide +kernel
theorem dX10_writeOn_3 : decode cX10_writeOn 3 = .ok (.aload_n 0, 1) := by decide +kernel
theorem dX10_writeOn_4 : decode cX10_writeOn 4 = .ok (.iconst 0, 1) := by decide +kernel
theorem dX10_writeOn_5 : decode cX10_writeOn 5 = .ok (.putfield 130, 3) := by decide +kernel
theorem dX10_writeOn_8 : decode cX10_writeOn 8 = .ok (.iconst 0, 1) := by decide +kernel
theorem dX10_writeOn_9 : decode cX10_writeOn 9 = .ok (.istore 6, 2) := by decide +kernel
theorem dX10_writeOn_11 : decode cX10_writeOn 11 = .ok (.iload 6, 2) := by decide +kernel
theorem dX10_writeOn_13 : decode cX10_writeOn 13 = .ok (.iload_n 3, 1) := by decide +kernel
theorem dX10_writeOn_14 : decode cX10_writeOn 14 = .ok (.if_icmp .ge 75, 3) := by decide +kernel
theorem dX10_writeOn_17 : decode cX10_writeOn 17 = .ok (.iload 6, 2) := by decide +kernel
theorem dX10_writeOn_19 : decode cX10_writeOn 19 = .ok (.aload_n 0, 1) := by decide +kernel
theorem dX10_writeOn_20 : decode cX10_writeOn 20 = .ok (.getfield 100, 3) := by decide +kernel
theorem dX10_writeOn_23 : decode cX10_writeOn 23 = .ok (.if_icmp .ge 66, 3) := by decide +kernel
theorem dX10_writeOn_26 : decode cX10_writeOn 26 = .ok (.iload 4, 2) := by decide +kernel
theorem dX10_writeOn_28 : decode cX10_writeOn 28 = .ok (.iload 6, 2) := by decide +kernel
theorem dX10_writeOn_30 : decode cX10_writeOn 30 = .ok (.invokestatic 126, 3) := by decide +kernel
theorem dX10_writeOn_33 : decode cX10_writeOn 33 = .ok (.ifCond .ne 40, 3) := by decide +kernel
theorem dX10_writeOn_36 : decode cX10_writeOn 36 = .ok (.aload_n 0, 1) := by decide +kernel
theorem dX10_writeOn_37 : decode cX10_writeOn 37 = .ok (.iload_n 1, 1) := by decide +kernel
theorem dX10_writeOn_38 : decode cX10_writeOn 38 = .ok (.iload_n 2, 1) := by decide +kernel
theorem dX10_writeOn_39 : decode cX10_writeOn 39 = .ok (.aload_n 0, 1) := by decide +kernel
theorem dX10_writeOn_40 : decode cX10_writeOn 40 = .ok (.getfield 28, 3) := by decide +kernel
theorem dX10_writeOn_43 : decode cX10_writeOn 43 = .ok (.iload 6, 2) := by decide +kernel
theorem dX10_writeOn_45 : decode cX10_writeOn 45 = .ok (.iaload, 1) := by decide +kernel
theorem dX10_writeOn_46 : decode cX10_writeOn 46 = .ok (.invokevirtual 133, 3) := by decide +kernel
theorem dX10_writeOn_49 : decode cX10_writeOn 49 = .ok (.ifCond .ne 6, 3) := by decide +kernel
theorem dX10_writeOn_52 : decode cX10_writeOn 52 = .ok (.iload 5, 2) := by decide +kernel
theorem dX10_writeOn_54 : decode cX10_writeOn 54 = .ok (.ireturn, 1) := by decide +kernel
theorem dX10_writeOn_55 : decode cX10_writeOn 55 = .ok (.iload 5, 2) := by decide +kernel
theorem dX10_writeOn_57 : decode cX10_writeOn 57 = .ok (.aload_n 0, 1) := by decide +kernel
theorem dX10_writeOn_58 : decode cX10_writeOn 58 = .ok (.iload_n 1, 1) := by decide +kernel
theorem dX10_writeOn_59 : decode cX10_writeOn 59 = .ok (.iload_n 2, 1) := by decide +kernel
theorem dX10_writeOn_60 : decode cX10_writeOn 60 = .ok (.aload_n 0, 1) := by decide +kernel
theorem dX10_writeOn_61 : decode cX10_writeOn 61 = .ok (.getfield 28, 3) := by decide +kernel
theorem dX10_writeOn_64 : decode cX10_writeOn 64 = .ok (.iload 6, 2) := by decide +kernel
theorem dX10_writeOn_66 : decode cX10_writeOn 66 = .ok (.iaload, 1) := by decide +kernel
theorem dX10_writeOn_67 : decode cX10_writeOn 67 = .ok (.invokevirtual 137, 3) := by decide +kernel
theorem dX10_writeOn_70 : decode cX10_writeOn 70 = .ok (.iadd, 1) := by decide +kernel
theorem dX10_writeOn_71 : decode cX10_writeOn 71 = .ok (.istore 5, 2) := by decide +kernel
theorem dX10_writeOn_73 : decode cX10_writeOn 73 = .ok (.aload_n 0, 1) := by decide +kernel
theorem dX10_writeOn_74 : decode cX10_writeOn 74 = .ok (.dup, 1) := by decide +kernel
theorem dX10_writeOn_75 : decode cX10_writeOn 75 = .ok (.getfield 130, 3) := by decide +kernel
theorem dX10_writeOn_78 : decode cX10_writeOn 78 = .ok (.iconst 1, 1) := by decide +kernel
theorem dX10_writeOn_79 : decode cX10_writeOn 79 = .ok (.iadd, 1) := by decide +kernel
theorem dX10_writeOn_80 : decode cX10_writeOn 80 = .ok (.putfield 130, 3) := by decide +kernel
theorem dX10_writeOn_83 : decode cX10_writeOn 83 = .ok (.iinc 6 1, 3) := by decide +kernel
theorem dX10_writeOn_86 : decode cX10_writeOn 86 = .ok (.goto (-75), 3) := by decide +kernel
theorem dX10_writeOn_89 : decode cX10_writeOn 89 = .ok (.iload 5, 2) := by decide +kernel
theorem dX10_writeOn_91 : decode cX10_writeOn 91 = .ok (.ireturn, 1) := by decide +kernel
theorem dX10_blackOn_0 : decode cX10_blackOn 0 = .ok (.iconst 0, 1) := by decide +kernel
theorem dX10_blackOn_1 : decode cX10_blackOn 1 = .ok (.istore_n 2, 1) := by decide +kernel
theorem dX10_blackOn_2 : decode cX10_blackOn 2 = .ok (.iconst 0, 1) := by decide +kernel
theorem dX10_blackOn_3 : decode cX10_blackOn 3 = .ok (.istore_n 3, 1) := by decide +kernel
theorem dX10_blackOn_4 : decode cX10_blackOn 4 = .ok (.iload_n 3, 1) := by decide +kernel
theorem dX10_blackOn_5 : decode cX10_blackOn 5 = .ok (.bipush 25, 2) := by decide +kernel
theorem dX10_blackOn_7 : decode cX10_blackOn 7 = .ok (.if_icmp .ge 37, 3) := by decide +kernel
theorem dX10_blackOn_10 : decode cX10_blackOn 10 = .ok (.iload_n 2, 1) := by decide +kernel
theorem dX10_blackOn_11 : decode cX10_blackOn 11 = .ok (.aload_n 0, 1) := by decide +kernel
theorem dX10_blackOn_12 : decode cX10_blackOn 12 = .ok (.getfield 16, 3) := by decide +kernel
theorem dX10_blackOn_15 : decode cX10_blackOn 15 = .ok (.bipush 43, 2) := by decide +kernel
theorem dX10_blackOn_17 : decode cX10_blackOn 17 = .ok (.iload_n 1, 1) := by decide +kernel
theorem dX10_blackOn_18 : decode cX10_blackOn 18 = .ok (.imul, 1) := by decide +kernel
theorem dX10_blackOn_19 : decode cX10_blackOn 19 = .ok (.bipush 18, 2) := by decide +kernel
theorem dX10_blackOn_21 : decode cX10_blackOn 21 = .ok (.iadd, 1) := by decide +kernel
theorem dX10_blackOn_22 : decode cX10_blackOn 22 = .ok (.iload_n 3, 1) := by decide +kernel
theorem dX10_blackOn_23 : decode cX10_blackOn 23 = .ok (.iadd, 1) := by decide +kernel
theorem dX10_blackOn_24 : decode cX10_blackOn 24 = .ok (.iaload, 1) := by decide +kernel
theorem dX10_blackOn_25 : decode cX10_blackOn 25 = .ok (.iconst 2, 1) := by decide +kernel
theorem dX10_blackOn_26 : decode cX10_blackOn 26 = .ok (.if_icmp .le 9, 3) := by decide +kernel
theorem dX10_blackOn_29 : decode cX10_blackOn 29 = .ok (.iconst 1, 1) := by decide +kernel
theorem dX10_blackOn_30 : decode cX10_blackOn 30 = .ok (.iload_n 3, 1) := by decide +kernel
theorem dX10_blackOn_31 : decode cX10_blackOn 31 = .ok (.ishl, 1) := by decide +kernel
theorem dX10_blackOn_32 : decode cX10_blackOn 32 = .ok (.goto 4, 3) := by decide +kernel
theorem dX10_blackOn_35 : decode cX10_blackOn 35 = .ok (.iconst 0, 1) := by decide +kernel
theorem dX10_blackOn_36 : decode cX10_blackOn 36 = .ok (.ior, 1) := by decide +kernel
theorem dX10_blackOn_37 : decode cX10_blackOn 37 = .ok (.istore_n 2, 1) := by decide +kernel
theorem dX10_blackOn_38 : decode cX10_blackOn 38 = .ok (.iinc 3 1, 3) := by decide +kernel
theorem dX10_blackOn_41 : decode cX10_blackOn 41 = .ok (.goto (-37), 3) := by decide +kernel
theorem dX10_blackOn_44 : decode cX10_blackOn 44 = .ok (.iload_n 2, 1) := by decide +kernel
theorem dX10_blackOn_45 : decode cX10_blackOn 45 = .ok (.ireturn, 1) := by decide +kernel
theorem dX10_inkOn_0 : decode cX10_inkOn 0 = .ok (.iconst 0, 1) := by decide +kernel
theorem dX10_inkOn_1 : decode cX10_inkOn 1 = .ok (.istore_n 2, 1) := by decide +kernel
theorem dX10_inkOn_2 : decode cX10_inkOn 2 = .ok (.iconst 0, 1) := by decide +kernel
theorem dX10_inkOn_3 : decode cX10_inkOn 3 = .ok (.istore_n 3, 1) := by decide +kernel
theorem dX10_inkOn_4 : decode cX10_inkOn 4 = .ok (.iload_n 3, 1) := by decide +kernel
theorem dX10_inkOn_5 : decode cX10_inkOn 5 = .ok (.bipush 25, 2) := by decide +kernel
theorem dX10_inkOn_7 : decode cX10_inkOn 7 = .ok (.if_icmp .ge 26, 3) := by decide +kernel
theorem dX10_inkOn_10 : decode cX10_inkOn 10 = .ok (.iload_n 2, 1) := by decide +kernel
theorem dX10_inkOn_11 : decode cX10_inkOn 11 = .ok (.aload_n 0, 1) := by decide +kernel
theorem dX10_inkOn_12 : decode cX10_inkOn 12 = .ok (.getfield 16, 3) := by decide +kernel
theorem dX10_inkOn_15 : decode cX10_inkOn 15 = .ok (.bipush 43, 2) := by decide +kernel
theorem dX10_inkOn_17 : decode cX10_inkOn 17 = .ok (.iload_n 1, 1) := by decide +kernel
theorem dX10_inkOn_18 : decode cX10_inkOn 18 = .ok (.imul, 1) := by decide +kernel
theorem dX10_inkOn_19 : decode cX10_inkOn 19 = .ok (.bipush 18, 2) := by decide +kernel
theorem dX10_inkOn_21 : decode cX10_inkOn 21 = .ok (.iadd, 1) := by decide +kernel
theorem dX10_inkOn_22 : decode cX10_inkOn 22 = .ok (.iload_n 3, 1) := by decide +kernel
theorem dX10_inkOn_23 : decode cX10_inkOn 23 = .ok (.iadd, 1) := by decide +kernel
theorem dX10_inkOn_24 : decode cX10_inkOn 24 = .ok (.iaload, 1) := by decide +kernel
theorem dX10_inkOn_25 : decode cX10_inkOn 25 = .ok (.iadd, 1) := by decide +kernel
theorem dX10_inkOn_26 : decode cX10_inkOn 26 = .ok (.istore_n 2, 1) := by decide +kernel
theorem dX10_inkOn_27 : decode cX10_inkOn 27 = .ok (.iinc 3 1, 3) := by decide +kernel
theorem dX10_inkOn_30 : decode cX10_inkOn 30 = .ok (.goto (-26), 3) := by decide +kernel
theorem dX10_inkOn_33 : decode cX10_inkOn 33 = .ok (.iload_n 2, 1) := by decide +kernel
theorem dX10_inkOn_34 : decode cX10_inkOn 34 = .ok (.ireturn, 1) := by decide +kernel
theorem dX10_layTrial_0 : decode cX10_layTrial 0 = .ok (.iconst 0, 1) := by decide +kernel
theorem dX10_layTrial_1 : decode cX10_layTrial 1 = .ok (.istore_n 1, 1) := by decide +kernel
theorem dX10_layTrial_2 : decode cX10_layTrial 2 = .ok (.iload_n 1, 1) := by decide +kernel
theorem dX10_layTrial_3 : decode cX10_layTrial 3 = .ok (.bipush 43, 2) := by decide +kernel
theorem dX10_layTrial_5 : decode cX10_layTrial 5 = .ok (.if_icmp .ge 24, 3) := by decide +kernel
theorem dX10_layTrial_8 : decode cX10_layTrial 8 = .ok (.aload_n 0, 1) := by decide +kernel
theorem dX10_layTrial_9 : decode cX10_layTrial 9 = .ok (.getfield 16, 3) := by decide +kernel
theorem dX10_layTrial_12 : decode cX10_layTrial 12 = .ok (.bipush 43, 2) := by decide +kernel
theorem dX10_layTrial_14 : decode cX10_layTrial 14 = .ok (.iload_n 1, 1) := by decide +kernel
theorem dX10_layTrial_15 : decode cX10_layTrial 15 = .ok (.iadd, 1) := by decide +kernel
theorem dX10_layTrial_16 : decode cX10_layTrial 16 = .ok (.aload_n 0, 1) := by decide +kernel
theorem dX10_layTrial_17 : decode cX10_layTrial 17 = .ok (.getfield 16, 3) := by decide +kernel
theorem dX10_layTrial_20 : decode cX10_layTrial 20 = .ok (.iload_n 1, 1) := by decide +kernel
theorem dX10_layTrial_21 : decode cX10_layTrial 21 = .ok (.iaload, 1) := by decide +kernel
theorem dX10_layTrial_22 : decode cX10_layTrial 22 = .ok (.iastore, 1) := by decide +kernel
theorem dX10_layTrial_23 : decode cX10_layTrial 23 = .ok (.iinc 1 1, 3) := by decide +kernel
theorem dX10_layTrial_26 : decode cX10_layTrial 26 = .ok (.goto (-24), 3) := by decide +kernel
theorem dX10_layTrial_29 : decode cX10_layTrial 29 = .ok (.return_, 1) := by decide +kernel
theorem dX10_stopsAt_0 : decode cX10_stopsAt 0 = .ok (.aload_n 0, 1) := by decide +kernel
theorem dX10_stopsAt_1 : decode cX10_stopsAt 1 = .ok (.invokevirtual 140, 3) := by decide +kernel
theorem dX10_stopsAt_4 : decode cX10_stopsAt 4 = .ok (.aload_n 0, 1) := by decide +kernel
theorem dX10_stopsAt_5 : decode cX10_stopsAt 5 = .ok (.iconst 1, 1) := by decide +kernel
theorem dX10_stopsAt_6 : decode cX10_stopsAt 6 = .ok (.iload_n 1, 1) := by decide +kernel
theorem dX10_stopsAt_7 : decode cX10_stopsAt 7 = .ok (.bipush 8, 2) := by decide +kernel
theorem dX10_stopsAt_9 : decode cX10_stopsAt 9 = .ok (.iconst 0, 1) := by decide +kernel
theorem dX10_stopsAt_10 : decode cX10_stopsAt 10 = .ok (.invokevirtual 143, 3) := by decide +kernel
theorem dX10_stopsAt_13 : decode cX10_stopsAt 13 = .ok (.pop, 1) := by decide +kernel
theorem dX10_stopsAt_14 : decode cX10_stopsAt 14 = .ok (.aload_n 0, 1) := by decide +kernel
theorem dX10_stopsAt_15 : decode cX10_stopsAt 15 = .ok (.getfield 130, 3) := by decide +kernel
theorem dX10_stopsAt_18 : decode cX10_stopsAt 18 = .ok (.aload_n 0, 1) := by decide +kernel
theorem dX10_stopsAt_19 : decode cX10_stopsAt 19 = .ok (.getfield 100, 3) := by decide +kernel
theorem dX10_stopsAt_22 : decode cX10_stopsAt 22 = .ok (.if_icmp .ne 8, 3) := by decide +kernel
theorem dX10_stopsAt_25 : decode cX10_stopsAt 25 = .ok (.bipush (-9), 2) := by decide +kernel
theorem dX10_stopsAt_27 : decode cX10_stopsAt 27 = .ok (.goto 7, 3) := by decide +kernel
theorem dX10_stopsAt_30 : decode cX10_stopsAt 30 = .ok (.aload_n 0, 1) := by decide +kernel
theorem dX10_stopsAt_31 : decode cX10_stopsAt 31 = .ok (.getfield 130, 3) := by decide +kernel
theorem dX10_stopsAt_34 : decode cX10_stopsAt 34 = .ok (.ireturn, 1) := by decide +kernel
theorem dX10_pen_0 : decode cX10_pen 0 = .ok (.aload_n 0, 1) := by decide +kernel
theorem dX10_pen_1 : decode cX10_pen 1 = .ok (.iload_n 1, 1) := by decide +kernel
theorem dX10_pen_2 : decode cX10_pen 2 = .ok (.invokevirtual 115, 3) := by decide +kernel
theorem dX10_pen_5 : decode cX10_pen 5 = .ok (.ifCond .ne 5, 3) := by decide +kernel
theorem dX10_pen_8 : decode cX10_pen 8 = .ok (.iconst (-1), 1) := by decide +kernel
theorem dX10_pen_9 : decode cX10_pen 9 = .ok (.ireturn, 1) := by decide +kernel
theorem dX10_pen_10 : decode cX10_pen 10 = .ok (.iload_n 2, 1) := by decide +kernel
theorem dX10_pen_11 : decode cX10_pen 11 = .ok (.tableswitch 96 0 6 #[41, 48, 55, 61, 71, 78, 90], 41) := by decide +kernel
theorem dX10_pen_52 : decode cX10_pen 52 = .ok (.aload_n 0, 1) := by decide +kernel
theorem dX10_pen_53 : decode cX10_pen 53 = .ok (.getfield 16, 3) := by decide +kernel
theorem dX10_pen_56 : decode cX10_pen 56 = .ok (.iload_n 1, 1) := by decide +kernel
theorem dX10_pen_57 : decode cX10_pen 57 = .ok (.iaload, 1) := by decide +kernel
theorem dX10_pen_58 : decode cX10_pen 58 = .ok (.ireturn, 1) := by decide +kernel
theorem dX10_pen_59 : decode cX10_pen 59 = .ok (.aload_n 0, 1) := by decide +kernel
theorem dX10_pen_60 : decode cX10_pen 60 = .ok (.getfield 7, 3) := by decide +kernel
theorem dX10_pen_63 : decode cX10_pen 63 = .ok (.iload_n 1, 1) := by decide +kernel
theorem dX10_pen_64 : decode cX10_pen 64 = .ok (.iaload, 1) := by decide +kernel
theorem dX10_pen_65 : decode cX10_pen 65 = .ok (.ireturn, 1) := by decide +kernel
theorem dX10_pen_66 : decode cX10_pen 66 = .ok (.aload_n 0, 1) := by decide +kernel
theorem dX10_pen_67 : decode cX10_pen 67 = .ok (.iload_n 1, 1) := by decide +kernel
theorem dX10_pen_68 : decode cX10_pen 68 = .ok (.invokevirtual 147, 3) := by decide +kernel
theorem dX10_pen_71 : decode cX10_pen 71 = .ok (.ireturn, 1) := by decide +kernel
theorem dX10_pen_72 : decode cX10_pen 72 = .ok (.aload_n 0, 1) := by decide +kernel
theorem dX10_pen_73 : decode cX10_pen 73 = .ok (.getfield 16, 3) := by decide +kernel
theorem dX10_pen_76 : decode cX10_pen 76 = .ok (.bipush 12, 2) := by decide +kernel
theorem dX10_pen_78 : decode cX10_pen 78 = .ok (.iload_n 1, 1) := by decide +kernel
theorem dX10_pen_79 : decode cX10_pen 79 = .ok (.iadd, 1) := by decide +kernel
theorem dX10_pen_80 : decode cX10_pen 80 = .ok (.iaload, 1) := by decide +kernel
theorem dX10_pen_81 : decode cX10_pen 81 = .ok (.ireturn, 1) := by decide +kernel
theorem dX10_pen_82 : decode cX10_pen 82 = .ok (.aload_n 0, 1) := by decide +kernel
theorem dX10_pen_83 : decode cX10_pen 83 = .ok (.getfield 13, 3) := by decide +kernel
theorem dX10_pen_86 : decode cX10_pen 86 = .ok (.iload_n 1, 1) := by decide +kernel
theorem dX10_pen_87 : decode cX10_pen 87 = .ok (.iaload, 1) := by decide +kernel
theorem dX10_pen_88 : decode cX10_pen 88 = .ok (.ireturn, 1) := by decide +kernel
theorem dX10_pen_89 : decode cX10_pen 89 = .ok (.aload_n 0, 1) := by decide +kernel
theorem dX10_pen_90 : decode cX10_pen 90 = .ok (.getfield 16, 3) := by decide +kernel
theorem dX10_pen_93 : decode cX10_pen 93 = .ok (.bipush 16, 2) := by decide +kernel
theorem dX10_pen_95 : decode cX10_pen 95 = .ok (.iaload, 1) := by decide +kernel
theorem dX10_pen_96 : decode cX10_pen 96 = .ok (.iload_n 1, 1) := by decide +kernel
theorem dX10_pen_97 : decode cX10_pen 97 = .ok (.ishr, 1) := by decide +kernel
theorem dX10_pen_98 : decode cX10_pen 98 = .ok (.iconst 1, 1) := by decide +kernel
theorem dX10_pen_99 : decode cX10_pen 99 = .ok (.iand, 1) := by decide +kernel
theorem dX10_pen_100 : decode cX10_pen 100 = .ok (.ireturn, 1) := by decide +kernel
theorem dX10_pen_101 : decode cX10_pen 101 = .ok (.aload_n 0, 1) := by decide +kernel
theorem dX10_pen_102 : decode cX10_pen 102 = .ok (.iload_n 1, 1) := by decide +kernel
theorem dX10_pen_103 : decode cX10_pen 103 = .ok (.invokevirtual 150, 3) := by decide +kernel
theorem dX10_pen_106 : decode cX10_pen 106 = .ok (.ireturn, 1) := by decide +kernel
theorem dX10_pen_107 : decode cX10_pen 107 = .ok (.bipush (-2), 2) := by decide +kernel
theorem dX10_pen_109 : decode cX10_pen 109 = .ok (.ireturn, 1) := by decide +kernel
theorem dX10_dot_0 : decode cX10_dot 0 = .ok (.iload_n 1, 1) := by decide +kernel
theorem dX10_dot_1 : decode cX10_dot 1 = .ok (.i2l, 1) := by decide +kernel
theorem dX10_dot_2 : decode cX10_dot 2 = .ok (.lconst 0, 1) := by decide +kernel
theorem dX10_dot_3 : decode cX10_dot 3 = .ok (.ldc2_w 153, 3) := by decide +kernel
theorem dX10_dot_6 : decode cX10_dot 6 = .ok (.invokestatic 52, 3) := by decide +kernel
theorem dX10_dot_9 : decode cX10_dot 9 = .ok (.ifCond .eq 15, 3) := by decide +kernel
theorem dX10_dot_12 : decode cX10_dot 12 = .ok (.aload_n 0, 1) := by decide +kernel
theorem dX10_dot_13 : decode cX10_dot 13 = .ok (.getfield 16, 3) := by decide +kernel
theorem dX10_dot_16 : decode cX10_dot 16 = .ok (.bipush 18, 2) := by decide +kernel
theorem dX10_dot_18 : decode cX10_dot 18 = .ok (.iload_n 1, 1) := by decide +kernel
theorem dX10_dot_19 : decode cX10_dot 19 = .ok (.iadd, 1) := by decide +kernel
theorem dX10_dot_20 : decode cX10_dot 20 = .ok (.iaload, 1) := by decide +kernel
theorem dX10_dot_21 : decode cX10_dot 21 = .ok (.goto 4, 3) := by decide +kernel
theorem dX10_dot_24 : decode cX10_dot 24 = .ok (.iconst (-1), 1) := by decide +kernel
theorem dX10_dot_25 : decode cX10_dot 25 = .ok (.ireturn, 1) := by decide +kernel
theorem dX10_thick_0 : decode cX10_thick 0 = .ok (.aload_n 0, 1) := by decide +kernel
theorem dX10_thick_1 : decode cX10_thick 1 = .ok (.iload_n 1, 1) := by decide +kernel
theorem dX10_thick_2 : decode cX10_thick 2 = .ok (.invokevirtual 115, 3) := by decide +kernel
theorem dX10_thick_5 : decode cX10_thick 5 = .ok (.ifCond .ne 5, 3) := by decide +kernel
theorem dX10_thick_8 : decode cX10_thick 8 = .ok (.iconst (-1), 1) := by decide +kernel
theorem dX10_thick_9 : decode cX10_thick 9 = .ok (.ireturn, 1) := by decide +kernel
theorem dX10_thick_10 : decode cX10_thick 10 = .ok (.iload_n 2, 1) := by decide +kernel
theorem dX10_thick_11 : decode cX10_thick 11 = .ok (.i2l, 1) := by decide +kernel
theorem dX10_thick_12 : decode cX10_thick 12 = .ok (.lconst 0, 1) := by decide +kernel
theorem dX10_thick_13 : decode cX10_thick 13 = .ok (.ldc2_w 98, 3) := by decide +kernel
theorem dX10_thick_16 : decode cX10_thick 16 = .ok (.invokestatic 52, 3) := by decide +kernel
theorem dX10_thick_19 : decode cX10_thick 19 = .ok (.ifCond .eq 13, 3) := by decide +kernel
theorem dX10_thick_22 : decode cX10_thick 22 = .ok (.aload_n 0, 1) := by decide +kernel
theorem dX10_thick_23 : decode cX10_thick 23 = .ok (.iconst 0, 1) := by decide +kernel
theorem dX10_thick_24 : decode cX10_thick 24 = .ok (.iload_n 1, 1) := by decide +kernel
theorem dX10_thick_25 : decode cX10_thick 25 = .ok (.iload_n 2, 1) := by decide +kernel
theorem dX10_thick_26 : decode cX10_thick 26 = .ok (.invokevirtual 122, 3) := by decide +kernel
theorem dX10_thick_29 : decode cX10_thick 29 = .ok (.goto 5, 3) := by decide +kernel
theorem dX10_thick_32 : decode cX10_thick 32 = .ok (.bipush (-2), 2) := by decide +kernel
theorem dX10_thick_34 : decode cX10_thick 34 = .ok (.ireturn, 1) := by decide +kernel
theorem dX10_keepAct_0 : decode cX10_keepAct 0 = .ok (.iconst 0, 1) := by decide +kernel
theorem dX10_keepAct_1 : decode cX10_keepAct 1 = .ok (.istore_n 1, 1) := by decide +kernel
theorem dX10_keepAct_2 : decode cX10_keepAct 2 = .ok (.iload_n 1, 1) := by decide +kernel
theorem dX10_keepAct_3 : decode cX10_keepAct 3 = .ok (.bipush 43, 2) := by decide +kernel
theorem dX10_keepAct_5 : decode cX10_keepAct 5 = .ok (.if_icmp .ge 29, 3) := by decide +kernel
theorem dX10_keepAct_8 : decode cX10_keepAct 8 = .ok (.aload_n 0, 1) := by decide +kernel
theorem dX10_keepAct_9 : decode cX10_keepAct 9 = .ok (.getfield 31, 3) := by decide +kernel
theorem dX10_keepAct_12 : decode cX10_keepAct 12 = .ok (.bipush 43, 2) := by decide +kernel
theorem dX10_keepAct_14 : decode cX10_keepAct 14 = .ok (.aload_n 0, 1) := by decide +kernel
theorem dX10_keepAct_15 : decode cX10_keepAct 15 = .ok (.getfield 155, 3) := by decide +kernel
theorem dX10_keepAct_18 : decode cX10_keepAct 18 = .ok (.imul, 1) := by decide +kernel
theorem dX10_keepAct_19 : decode cX10_keepAct 19 = .ok (.iload_n 1, 1) := by decide +kernel
theorem dX10_keepAct_20 : decode cX10_keepAct 20 = .ok (.iadd, 1) := by decide +kernel
theorem dX10_keepAct_21 : decode cX10_keepAct 21 = .ok (.aload_n 0, 1) := by decide +kernel
theorem dX10_keepAct_22 : decode cX10_keepAct 22 = .ok (.getfield 16, 3) := by decide +kernel
theorem dX10_keepAct_25 : decode cX10_keepAct 25 = .ok (.iload_n 1, 1) := by decide +kernel
theorem dX10_keepAct_26 : decode cX10_keepAct 26 = .ok (.iaload, 1) := by decide +kernel
theorem dX10_keepAct_27 : decode cX10_keepAct 27 = .ok (.iastore, 1) := by decide +kernel
theorem dX10_keepAct_28 : decode cX10_keepAct 28 = .ok (.iinc 1 1, 3) := by decide +kernel
theorem dX10_keepAct_31 : decode cX10_keepAct 31 = .ok (.goto (-29), 3) := by decide +kernel
theorem dX10_keepAct_34 : decode cX10_keepAct 34 = .ok (.aload_n 0, 1) := by decide +kernel
theorem dX10_keepAct_35 : decode cX10_keepAct 35 = .ok (.aload_n 0, 1) := by decide +kernel
theorem dX10_keepAct_36 : decode cX10_keepAct 36 = .ok (.getfield 155, 3) := by decide +kernel
theorem dX10_keepAct_39 : decode cX10_keepAct 39 = .ok (.iconst 1, 1) := by decide +kernel
theorem dX10_keepAct_40 : decode cX10_keepAct 40 = .ok (.iadd, 1) := by decide +kernel
theorem dX10_keepAct_41 : decode cX10_keepAct 41 = .ok (.bipush 14, 2) := by decide +kernel
theorem dX10_keepAct_43 : decode cX10_keepAct 43 = .ok (.irem, 1) := by decide +kernel
theorem dX10_keepAct_44 : decode cX10_keepAct 44 = .ok (.putfield 155, 3) := by decide +kernel
theorem dX10_keepAct_47 : decode cX10_keepAct 47 = .ok (.aload_n 0, 1) := by decide +kernel
theorem dX10_keepAct_48 : decode cX10_keepAct 48 = .ok (.aload_n 0, 1) := by decide +kernel
theorem dX10_keepAct_49 : decode cX10_keepAct 49 = .ok (.getfield 87, 3) := by decide +kernel
theorem dX10_keepAct_52 : decode cX10_keepAct 52 = .ok (.bipush 14, 2) := by decide +kernel
theorem dX10_keepAct_54 : decode cX10_keepAct 54 = .ok (.if_icmp .ge 12, 3) := by decide +kernel
theorem dX10_keepAct_57 : decode cX10_keepAct 57 = .ok (.aload_n 0, 1) := by decide +kernel
theorem dX10_keepAct_58 : decode cX10_keepAct 58 = .ok (.getfield 87, 3) := by decide +kernel
theorem dX10_keepAct_61 : decode cX10_keepAct 61 = .ok (.iconst 1, 1) := by decide +kernel
theorem dX10_keepAct_62 : decode cX10_keepAct 62 = .ok (.iadd, 1) := by decide +kernel
theorem dX10_keepAct_63 : decode cX10_keepAct 63 = .ok (.goto 5, 3) := by decide +kernel
theorem dX10_keepAct_66 : decode cX10_keepAct 66 = .ok (.bipush 14, 2) := by decide +kernel
theorem dX10_keepAct_68 : decode cX10_keepAct 68 = .ok (.putfield 87, 3) := by decide +kernel
theorem dX10_keepAct_71 : decode cX10_keepAct 71 = .ok (.return_, 1) := by decide +kernel
theorem dX10_step_0 : decode cX10_step 0 = .ok (.aload_n 0, 1) := by decide +kernel
theorem dX10_step_1 : decode cX10_step 1 = .ok (.iload_n 1, 1) := by decide +kernel
theorem dX10_step_2 : decode cX10_step 2 = .ok (.invokevirtual 115, 3) := by decide +kernel
theorem dX10_step_5 : decode cX10_step 5 = .ok (.ifCond .ne 5, 3) := by decide +kernel
theorem dX10_step_8 : decode cX10_step 8 = .ok (.iconst (-1), 1) := by decide +kernel
theorem dX10_step_9 : decode cX10_step 9 = .ok (.ireturn, 1) := by decide +kernel
theorem dX10_step_10 : decode cX10_step 10 = .ok (.iload_n 2, 1) := by decide +kernel
theorem dX10_step_11 : decode cX10_step 11 = .ok (.i2l, 1) := by decide +kernel
theorem dX10_step_12 : decode cX10_step 12 = .ok (.lconst 0, 1) := by decide +kernel
theorem dX10_step_13 : decode cX10_step 13 = .ok (.ldc2_w 98, 3) := by decide +kernel
theorem dX10_step_16 : decode cX10_step 16 = .ok (.invokestatic 52, 3) := by decide +kernel
theorem dX10_step_19 : decode cX10_step 19 = .ok (.ifCond .ne 6, 3) := by decide +kernel
theorem dX10_step_22 : decode cX10_step 22 = .ok (.bipush (-2), 2) := by decide +kernel
theorem dX10_step_24 : decode cX10_step 24 = .ok (.ireturn, 1) := by decide +kernel
theorem dX10_step_25 : decode cX10_step 25 = .ok (.aload_n 0, 1) := by decide +kernel
theorem dX10_step_26 : decode cX10_step 26 = .ok (.iconst 0, 1) := by decide +kernel
theorem dX10_step_27 : decode cX10_step 27 = .ok (.iload_n 1, 1) := by decide +kernel
theorem dX10_step_28 : decode cX10_step 28 = .ok (.iload_n 2, 1) := by decide +kernel
theorem dX10_step_29 : decode cX10_step 29 = .ok (.invokevirtual 133, 3) := by decide +kernel
theorem dX10_step_32 : decode cX10_step 32 = .ok (.ifCond .ne 6, 3) := by decide +kernel
theorem dX10_step_35 : decode cX10_step 35 = .ok (.bipush (-3), 2) := by decide +kernel
theorem dX10_step_37 : decode cX10_step 37 = .ok (.ireturn, 1) := by decide +kernel
theorem dX10_step_38 : decode cX10_step 38 = .ok (.aload_n 0, 1) := by decide +kernel
theorem dX10_step_39 : decode cX10_step 39 = .ok (.invokevirtual 158, 3) := by decide +kernel
theorem dX10_step_42 : decode cX10_step 42 = .ok (.aload_n 0, 1) := by decide +kernel
theorem dX10_step_43 : decode cX10_step 43 = .ok (.iconst 0, 1) := by decide +kernel
theorem dX10_step_44 : decode cX10_step 44 = .ok (.iload_n 1, 1) := by decide +kernel
theorem dX10_step_45 : decode cX10_step 45 = .ok (.iload_n 2, 1) := by decide +kernel
theorem dX10_step_46 : decode cX10_step 46 = .ok (.invokevirtual 137, 3) := by decide +kernel
theorem dX10_step_49 : decode cX10_step 49 = .ok (.ireturn, 1) := by decide +kernel
theorem dX10_put_0 : decode cX10_put 0 = .ok (.aload_n 0, 1) := by decide +kernel
theorem dX10_put_1 : decode cX10_put 1 = .ok (.iload_n 1, 1) := by decide +kernel
theorem dX10_put_2 : decode cX10_put 2 = .ok (.invokevirtual 115, 3) := by decide +kernel
theorem dX10_put_5 : decode cX10_put 5 = .ok (.ifCond .ne 5, 3) := by decide +kernel
theorem dX10_put_8 : decode cX10_put 8 = .ok (.iconst (-1), 1) := by decide +kernel
theorem dX10_put_9 : decode cX10_put 9 = .ok (.ireturn, 1) := by decide +kernel
theorem dX10_put_10 : decode cX10_put 10 = .ok (.aload_n 0, 1) := by decide +kernel
theorem dX10_put_11 : decode cX10_put 11 = .ok (.invokevirtual 158, 3) := by decide +kernel
theorem dX10_put_14 : decode cX10_put 14 = .ok (.aload_n 0, 1) := by decide +kernel
theorem dX10_put_15 : decode cX10_put 15 = .ok (.getfield 16, 3) := by decide +kernel
theorem dX10_put_18 : decode cX10_put 18 = .ok (.bipush 16, 2) := by decide +kernel
theorem dX10_put_20 : decode cX10_put 20 = .ok (.dup2, 1) := by decide +kernel
theorem dX10_put_21 : decode cX10_put 21 = .ok (.iaload, 1) := by decide +kernel
theorem dX10_put_22 : decode cX10_put 22 = .ok (.iconst 1, 1) := by decide +kernel
theorem dX10_put_23 : decode cX10_put 23 = .ok (.iload_n 1, 1) := by decide +kernel
theorem dX10_put_24 : decode cX10_put 24 = .ok (.ishl, 1) := by decide +kernel
theorem dX10_put_25 : decode cX10_put 25 = .ok (.ixor, 1) := by decide +kernel
theorem dX10_put_26 : decode cX10_put 26 = .ok (.iastore, 1) := by decide +kernel
theorem dX10_put_27 : decode cX10_put 27 = .ok (.aload_n 0, 1) := by decide +kernel
theorem dX10_put_28 : decode cX10_put 28 = .ok (.getfield 16, 3) := by decide +kernel
theorem dX10_put_31 : decode cX10_put 31 = .ok (.bipush 16, 2) := by decide +kernel
theorem dX10_put_33 : decode cX10_put 33 = .ok (.iaload, 1) := by decide +kernel
theorem dX10_put_34 : decode cX10_put 34 = .ok (.iload_n 1, 1) := by decide +kernel
theorem dX10_put_35 : decode cX10_put 35 = .ok (.ishr, 1) := by decide +kernel
theorem dX10_put_36 : decode cX10_put 36 = .ok (.iconst 1, 1) := by decide +kernel
theorem dX10_put_37 : decode cX10_put 37 = .ok (.iand, 1) := by decide +kernel
theorem dX10_put_38 : decode cX10_put 38 = .ok (.ireturn, 1) := by decide +kernel
theorem dX10_dip_0 : decode cX10_dip 0 = .ok (.aload_n 0, 1) := by decide +kernel
theorem dX10_dip_1 : decode cX10_dip 1 = .ok (.iload_n 1, 1) := by decide +kernel
theorem dX10_dip_2 : decode cX10_dip 2 = .ok (.invokevirtual 115, 3) := by decide +kernel
theorem dX10_dip_5 : decode cX10_dip 5 = .ok (.ifCond .ne 5, 3) := by decide +kernel
theorem dX10_dip_8 : decode cX10_dip 8 = .ok (.iconst (-1), 1) := by decide +kernel
theorem dX10_dip_9 : decode cX10_dip 9 = .ok (.ireturn, 1) := by decide +kernel
theorem dX10_dip_10 : decode cX10_dip 10 = .ok (.aload_n 0, 1) := by decide +kernel
theorem dX10_dip_11 : decode cX10_dip 11 = .ok (.getfield 16, 3) := by decide +kernel
theorem dX10_dip_14 : decode cX10_dip 14 = .ok (.bipush 12, 2) := by decide +kernel
theorem dX10_dip_16 : decode cX10_dip 16 = .ok (.iload_n 1, 1) := by decide +kernel
theorem dX10_dip_17 : decode cX10_dip 17 = .ok (.iadd, 1) := by decide +kernel
theorem dX10_dip_18 : decode cX10_dip 18 = .ok (.iaload, 1) := by decide +kernel
theorem dX10_dip_19 : decode cX10_dip 19 = .ok (.aload_n 0, 1) := by decide +kernel
theorem dX10_dip_20 : decode cX10_dip 20 = .ok (.getfield 13, 3) := by decide +kernel
theorem dX10_dip_23 : decode cX10_dip 23 = .ok (.iload_n 1, 1) := by decide +kernel
theorem dX10_dip_24 : decode cX10_dip 24 = .ok (.iaload, 1) := by decide +kernel
theorem dX10_dip_25 : decode cX10_dip 25 = .ok (.if_icmp .ne 6, 3) := by decide +kernel
theorem dX10_dip_28 : decode cX10_dip 28 = .ok (.bipush (-3), 2) := by decide +kernel
theorem dX10_dip_30 : decode cX10_dip 30 = .ok (.ireturn, 1) := by decide +kernel
theorem dX10_dip_31 : decode cX10_dip 31 = .ok (.aload_n 0, 1) := by decide +kernel
theorem dX10_dip_32 : decode cX10_dip 32 = .ok (.invokevirtual 158, 3) := by decide +kernel
theorem dX10_dip_35 : decode cX10_dip 35 = .ok (.aload_n 0, 1) := by decide +kernel
theorem dX10_dip_36 : decode cX10_dip 36 = .ok (.getfield 13, 3) := by decide +kernel
theorem dX10_dip_39 : decode cX10_dip 39 = .ok (.iload_n 1, 1) := by decide +kernel
theorem dX10_dip_40 : decode cX10_dip 40 = .ok (.iaload, 1) := by decide +kernel
theorem dX10_dip_41 : decode cX10_dip 41 = .ok (.aload_n 0, 1) := by decide +kernel
theorem dX10_dip_42 : decode cX10_dip 42 = .ok (.getfield 16, 3) := by decide +kernel
theorem dX10_dip_45 : decode cX10_dip 45 = .ok (.bipush 12, 2) := by decide +kernel
theorem dX10_dip_47 : decode cX10_dip 47 = .ok (.iload_n 1, 1) := by decide +kernel
theorem dX10_dip_48 : decode cX10_dip 48 = .ok (.iadd, 1) := by decide +kernel
theorem dX10_dip_49 : decode cX10_dip 49 = .ok (.iaload, 1) := by decide +kernel
theorem dX10_dip_50 : decode cX10_dip 50 = .ok (.isub, 1) := by decide +kernel
theorem dX10_dip_51 : decode cX10_dip 51 = .ok (.istore_n 2, 1) := by decide +kernel
theorem dX10_dip_52 : decode cX10_dip 52 = .ok (.aload_n 0, 1) := by decide +kernel
theorem dX10_dip_53 : decode cX10_dip 53 = .ok (.getfield 16, 3) := by decide +kernel
theorem dX10_dip_56 : decode cX10_dip 56 = .ok (.bipush 12, 2) := by decide +kernel
theorem dX10_dip_58 : decode cX10_dip 58 = .ok (.iload_n 1, 1) := by decide +kernel
theorem dX10_dip_59 : decode cX10_dip 59 = .ok (.iadd, 1) := by decide +kernel
theorem dX10_dip_60 : decode cX10_dip 60 = .ok (.aload_n 0, 1) := by decide +kernel
theorem dX10_dip_61 : decode cX10_dip 61 = .ok (.getfield 13, 3) := by decide +kernel
theorem dX10_dip_64 : decode cX10_dip 64 = .ok (.iload_n 1, 1) := by decide +kernel
theorem dX10_dip_65 : decode cX10_dip 65 = .ok (.iaload, 1) := by decide +kernel
theorem dX10_dip_66 : decode cX10_dip 66 = .ok (.iastore, 1) := by decide +kernel
theorem dX10_dip_67 : decode cX10_dip 67 = .ok (.iload_n 2, 1) := by decide +kernel
theorem dX10_dip_68 : decode cX10_dip 68 = .ok (.ireturn, 1) := by decide +kernel
theorem dX10_turn_0 : decode cX10_turn 0 = .ok (.aload_n 0, 1) := by decide +kernel
theorem dX10_turn_1 : decode cX10_turn 1 = .ok (.iload_n 1, 1) := by decide +kernel
theorem dX10_turn_2 : decode cX10_turn 2 = .ok (.invokevirtual 115, 3) := by decide +kernel
theorem dX10_turn_5 : decode cX10_turn 5 = .ok (.ifCond .ne 5, 3) := by decide +kernel
theorem dX10_turn_8 : decode cX10_turn 8 = .ok (.iconst (-1), 1) := by decide +kernel
theorem dX10_turn_9 : decode cX10_turn 9 = .ok (.ireturn, 1) := by decide +kernel
theorem dX10_turn_10 : decode cX10_turn 10 = .ok (.aload_n 0, 1) := by decide +kernel
theorem dX10_turn_11 : decode cX10_turn 11 = .ok (.invokevirtual 158, 3) := by decide +kernel
theorem dX10_turn_14 : decode cX10_turn 14 = .ok (.aload_n 0, 1) := by decide +kernel
theorem dX10_turn_15 : decode cX10_turn 15 = .ok (.iconst 0, 1) := by decide +kernel
theorem dX10_turn_16 : decode cX10_turn 16 = .ok (.iload_n 1, 1) := by decide +kernel
theorem dX10_turn_17 : decode cX10_turn 17 = .ok (.invokevirtual 161, 3) := by decide +kernel
theorem dX10_turn_20 : decode cX10_turn 20 = .ok (.aload_n 0, 1) := by decide +kernel
theorem dX10_turn_21 : decode cX10_turn 21 = .ok (.iload_n 1, 1) := by decide +kernel
theorem dX10_turn_22 : decode cX10_turn 22 = .ok (.invokevirtual 147, 3) := by decide +kernel
theorem dX10_turn_25 : decode cX10_turn 25 = .ok (.ireturn, 1) := by decide +kernel
theorem dX10_blot_0 : decode cX10_blot 0 = .ok (.iload_n 1, 1) := by decide +kernel
theorem dX10_blot_1 : decode cX10_blot 1 = .ok (.i2l, 1) := by decide +kernel
theorem dX10_blot_2 : decode cX10_blot 2 = .ok (.lconst 0, 1) := by decide +kernel
theorem dX10_blot_3 : decode cX10_blot 3 = .ok (.ldc2_w 153, 3) := by decide +kernel
theorem dX10_blot_6 : decode cX10_blot 6 = .ok (.invokestatic 52, 3) := by decide +kernel
theorem dX10_blot_9 : decode cX10_blot 9 = .ok (.ifCond .ne 5, 3) := by decide +kernel
theorem dX10_blot_12 : decode cX10_blot 12 = .ok (.iconst (-1), 1) := by decide +kernel
theorem dX10_blot_13 : decode cX10_blot 13 = .ok (.ireturn, 1) := by decide +kernel
theorem dX10_blot_14 : decode cX10_blot 14 = .ok (.aload_n 0, 1) := by decide +kernel
theorem dX10_blot_15 : decode cX10_blot 15 = .ok (.getfield 16, 3) := by decide +kernel
theorem dX10_blot_18 : decode cX10_blot 18 = .ok (.bipush 18, 2) := by decide +kernel
theorem dX10_blot_20 : decode cX10_blot 20 = .ok (.iload_n 1, 1) := by decide +kernel
theorem dX10_blot_21 : decode cX10_blot 21 = .ok (.iadd, 1) := by decide +kernel
theorem dX10_blot_22 : decode cX10_blot 22 = .ok (.iaload, 1) := by decide +kernel
theorem dX10_blot_23 : decode cX10_blot 23 = .ok (.ifCond .ne 6, 3) := by decide +kernel
theorem dX10_blot_26 : decode cX10_blot 26 = .ok (.bipush (-3), 2) := by decide +kernel
theorem dX10_blot_28 : decode cX10_blot 28 = .ok (.ireturn, 1) := by decide +kernel
theorem dX10_blot_29 : decode cX10_blot 29 = .ok (.aload_n 0, 1) := by decide +kernel
theorem dX10_blot_30 : decode cX10_blot 30 = .ok (.invokevirtual 158, 3) := by decide +kernel
theorem dX10_blot_33 : decode cX10_blot 33 = .ok (.aload_n 0, 1) := by decide +kernel
theorem dX10_blot_34 : decode cX10_blot 34 = .ok (.getfield 16, 3) := by decide +kernel
theorem dX10_blot_37 : decode cX10_blot 37 = .ok (.bipush 18, 2) := by decide +kernel
theorem dX10_blot_39 : decode cX10_blot 39 = .ok (.iload_n 1, 1) := by decide +kernel
theorem dX10_blot_40 : decode cX10_blot 40 = .ok (.iadd, 1) := by decide +kernel
theorem dX10_blot_41 : decode cX10_blot 41 = .ok (.iaload, 1) := by decide +kernel
theorem dX10_blot_42 : decode cX10_blot 42 = .ok (.istore_n 2, 1) := by decide +kernel
theorem dX10_blot_43 : decode cX10_blot 43 = .ok (.aload_n 0, 1) := by decide +kernel
theorem dX10_blot_44 : decode cX10_blot 44 = .ok (.getfield 16, 3) := by decide +kernel
theorem dX10_blot_47 : decode cX10_blot 47 = .ok (.bipush 18, 2) := by decide +kernel
theorem dX10_blot_49 : decode cX10_blot 49 = .ok (.iload_n 1, 1) := by decide +kernel
theorem dX10_blot_50 : decode cX10_blot 50 = .ok (.iadd, 1) := by decide +kernel
theorem dX10_blot_51 : decode cX10_blot 51 = .ok (.iconst 0, 1) := by decide +kernel
theorem dX10_blot_52 : decode cX10_blot 52 = .ok (.iastore, 1) := by decide +kernel
theorem dX10_blot_53 : decode cX10_blot 53 = .ok (.iload_n 2, 1) := by decide +kernel
theorem dX10_blot_54 : decode cX10_blot 54 = .ok (.ireturn, 1) := by decide +kernel
theorem dX10_undo_0 : decode cX10_undo 0 = .ok (.aload_n 0, 1) := by decide +kernel
theorem dX10_undo_1 : decode cX10_undo 1 = .ok (.getfield 87, 3) := by decide +kernel
theorem dX10_undo_4 : decode cX10_undo 4 = .ok (.ifCond .ne 6, 3) := by decide +kernel
theorem dX10_undo_7 : decode cX10_undo 7 = .ok (.bipush (-3), 2) := by decide +kernel
theorem dX10_undo_9 : decode cX10_undo 9 = .ok (.ireturn, 1) := by decide +kernel
theorem dX10_undo_10 : decode cX10_undo 10 = .ok (.aload_n 0, 1) := by decide +kernel
theorem dX10_undo_11 : decode cX10_undo 11 = .ok (.dup, 1) := by decide +kernel
theorem dX10_undo_12 : decode cX10_undo 12 = .ok (.getfield 87, 3) := by decide +kernel
theorem dX10_undo_15 : decode cX10_undo 15 = .ok (.iconst 1, 1) := by decide +kernel
theorem dX10_undo_16 : decode cX10_undo 16 = .ok (.isub, 1) := by decide +kernel
theorem dX10_undo_17 : decode cX10_undo 17 = .ok (.putfield 87, 3) := by decide +kernel
theorem dX10_undo_20 : decode cX10_undo 20 = .ok (.aload_n 0, 1) := by decide +kernel
theorem dX10_undo_21 : decode cX10_undo 21 = .ok (.aload_n 0, 1) := by decide +kernel
theorem dX10_undo_22 : decode cX10_undo 22 = .ok (.getfield 155, 3) := by decide +kernel
theorem dX10_undo_25 : decode cX10_undo 25 = .ok (.bipush 13, 2) := by decide +kernel
theorem dX10_undo_27 : decode cX10_undo 27 = .ok (.iadd, 1) := by decide +kernel
theorem dX10_undo_28 : decode cX10_undo 28 = .ok (.bipush 14, 2) := by decide +kernel
theorem dX10_undo_30 : decode cX10_undo 30 = .ok (.irem, 1) := by decide +kernel
theorem dX10_undo_31 : decode cX10_undo 31 = .ok (.putfield 155, 3) := by decide +kernel
theorem dX10_undo_34 : decode cX10_undo 34 = .ok (.iconst 0, 1) := by decide +kernel
theorem dX10_undo_35 : decode cX10_undo 35 = .ok (.istore_n 1, 1) := by decide +kernel
theorem dX10_undo_36 : decode cX10_undo 36 = .ok (.iload_n 1, 1) := by decide +kernel
theorem dX10_undo_37 : decode cX10_undo 37 = .ok (.bipush 43, 2) := by decide +kernel
theorem dX10_undo_39 : decode cX10_undo 39 = .ok (.if_icmp .ge 29, 3) := by decide +kernel
theorem dX10_undo_42 : decode cX10_undo 42 = .ok (.aload_n 0, 1) := by decide +kernel
theorem dX10_undo_43 : decode cX10_undo 43 = .ok (.getfield 16, 3) := by decide +kernel
theorem dX10_undo_46 : decode cX10_undo 46 = .ok (.iload_n 1, 1) := by decide +kernel
theorem dX10_undo_47 : decode cX10_undo 47 = .ok (.aload_n 0, 1) := by decide +kernel
theorem dX10_undo_48 : decode cX10_undo 48 = .ok (.getfield 31, 3) := by decide +kernel
theorem dX10_undo_51 : decode cX10_undo 51 = .ok (.bipush 43, 2) := by decide +kernel
theorem dX10_undo_53 : decode cX10_undo 53 = .ok (.aload_n 0, 1) := by decide +kernel
theorem dX10_undo_54 : decode cX10_undo 54 = .ok (.getfield 155, 3) := by decide +kernel
theorem dX10_undo_57 : decode cX10_undo 57 = .ok (.imul, 1) := by decide +kernel
theorem dX10_undo_58 : decode cX10_undo 58 = .ok (.iload_n 1, 1) := by decide +kernel
theorem dX10_undo_59 : decode cX10_undo 59 = .ok (.iadd, 1) := by decide +kernel
theorem dX10_undo_60 : decode cX10_undo 60 = .ok (.iaload, 1) := by decide +kernel
theorem dX10_undo_61 : decode cX10_undo 61 = .ok (.iastore, 1) := by decide +kernel
theorem dX10_undo_62 : decode cX10_undo 62 = .ok (.iinc 1 1, 3) := by decide +kernel
theorem dX10_undo_65 : decode cX10_undo 65 = .ok (.goto (-29), 3) := by decide +kernel
theorem dX10_undo_68 : decode cX10_undo 68 = .ok (.aload_n 0, 1) := by decide +kernel
theorem dX10_undo_69 : decode cX10_undo 69 = .ok (.getfield 87, 3) := by decide +kernel
theorem dX10_undo_72 : decode cX10_undo 72 = .ok (.ireturn, 1) := by decide +kernel
theorem dX10_behind_0 : decode cX10_behind 0 = .ok (.aload_n 0, 1) := by decide +kernel
theorem dX10_behind_1 : decode cX10_behind 1 = .ok (.iload_n 1, 1) := by decide +kernel
theorem dX10_behind_2 : decode cX10_behind 2 = .ok (.invokevirtual 115, 3) := by decide +kernel
theorem dX10_behind_5 : decode cX10_behind 5 = .ok (.ifCond .ne 5, 3) := by decide +kernel
theorem dX10_behind_8 : decode cX10_behind 8 = .ok (.iconst (-1), 1) := by decide +kernel
theorem dX10_behind_9 : decode cX10_behind 9 = .ok (.ireturn, 1) := by decide +kernel
theorem dX10_behind_10 : decode cX10_behind 10 = .ok (.iload_n 2, 1) := by decide +kernel
theorem dX10_behind_11 : decode cX10_behind 11 = .ok (.i2l, 1) := by decide +kernel
theorem dX10_behind_12 : decode cX10_behind 12 = .ok (.lconst 0, 1) := by decide +kernel
theorem dX10_behind_13 : decode cX10_behind 13 = .ok (.ldc2_w 92, 3) := by decide +kernel
theorem dX10_behind_16 : decode cX10_behind 16 = .ok (.invokestatic 52, 3) := by decide +kernel
theorem dX10_behind_19 : decode cX10_behind 19 = .ok (.ifCond .eq 15, 3) := by decide +kernel
theorem dX10_behind_22 : decode cX10_behind 22 = .ok (.iload_n 3, 1) := by decide +kernel
theorem dX10_behind_23 : decode cX10_behind 23 = .ok (.i2l, 1) := by decide +kernel
theorem dX10_behind_24 : decode cX10_behind 24 = .ok (.lconst 0, 1) := by decide +kernel
theorem dX10_behind_25 : decode cX10_behind 25 = .ok (.ldc2_w 165, 3) := by decide +kernel
theorem dX10_behind_28 : decode cX10_behind 28 = .ok (.invokestatic 52, 3) := by decide +kernel
theorem dX10_behind_31 : decode cX10_behind 31 = .ok (.ifCond .ne 6, 3) := by decide +kernel
theorem dX10_behind_34 : decode cX10_behind 34 = .ok (.bipush (-2), 2) := by decide +kernel
theorem dX10_behind_36 : decode cX10_behind 36 = .ok (.ireturn, 1) := by decide +kernel
theorem dX10_behind_37 : decode cX10_behind 37 = .ok (.aload_n 0, 1) := by decide +kernel
theorem dX10_behind_38 : decode cX10_behind 38 = .ok (.invokevirtual 140, 3) := by decide +kernel
theorem dX10_behind_41 : decode cX10_behind 41 = .ok (.aload_n 0, 1) := by decide +kernel
theorem dX10_behind_42 : decode cX10_behind 42 = .ok (.iconst 1, 1) := by decide +kernel
theorem dX10_behind_43 : decode cX10_behind 43 = .ok (.iload_n 1, 1) := by decide +kernel
theorem dX10_behind_44 : decode cX10_behind 44 = .ok (.iload_n 2, 1) := by decide +kernel
theorem dX10_behind_45 : decode cX10_behind 45 = .ok (.iconst 0, 1) := by decide +kernel
theorem dX10_behind_46 : decode cX10_behind 46 = .ok (.invokevirtual 143, 3) := by decide +kernel
theorem dX10_behind_49 : decode cX10_behind 49 = .ok (.istore 4, 2) := by decide +kernel
theorem dX10_behind_51 : decode cX10_behind 51 = .ok (.iload_n 3, 1) := by decide +kernel
theorem dX10_behind_52 : decode cX10_behind 52 = .ok (.ifCond .ne 15, 3) := by decide +kernel
theorem dX10_behind_55 : decode cX10_behind 55 = .ok (.aload_n 0, 1) := by decide +kernel
theorem dX10_behind_56 : decode cX10_behind 56 = .ok (.getfield 16, 3) := by decide +kernel
theorem dX10_behind_59 : decode cX10_behind 59 = .ok (.bipush 43, 2) := by decide +kernel
theorem dX10_behind_61 : decode cX10_behind 61 = .ok (.iload_n 1, 1) := by decide +kernel
theorem dX10_behind_62 : decode cX10_behind 62 = .ok (.iadd, 1) := by decide +kernel
theorem dX10_behind_63 : decode cX10_behind 63 = .ok (.iaload, 1) := by decide +kernel
theorem dX10_behind_64 : decode cX10_behind 64 = .ok (.goto 22, 3) := by decide +kernel
theorem dX10_behind_67 : decode cX10_behind 67 = .ok (.iload_n 3, 1) := by decide +kernel
theorem dX10_behind_68 : decode cX10_behind 68 = .ok (.iconst 1, 1) := by decide +kernel
theorem dX10_behind_69 : decode cX10_behind 69 = .ok (.if_icmp .ne 15, 3) := by decide +kernel
theorem dX10_behind_72 : decode cX10_behind 72 = .ok (.aload_n 0, 1) := by decide +kernel
theorem dX10_behind_73 : decode cX10_behind 73 = .ok (.getfield 16, 3) := by decide +kernel
theorem dX10_behind_76 : decode cX10_behind 76 = .ok (.bipush 55, 2) := by decide +kernel
theorem dX10_behind_78 : decode cX10_behind 78 = .ok (.iload_n 1, 1) := by decide +kernel
theorem dX10_behind_79 : decode cX10_behind 79 = .ok (.iadd, 1) := by decide +kernel
theorem dX10_behind_80 : decode cX10_behind 80 = .ok (.iaload, 1) := by decide +kernel
theorem dX10_behind_81 : decode cX10_behind 81 = .ok (.goto 5, 3) := by decide +kernel
theorem dX10_behind_84 : decode cX10_behind 84 = .ok (.iload 4, 2) := by decide +kernel
theorem dX10_behind_86 : decode cX10_behind 86 = .ok (.ireturn, 1) := by decide +kernel
theorem dX10_findFar_0 : decode cX10_findFar 0 = .ok (.iconst 0, 1) := by decide +kernel
theorem dX10_findFar_1 : decode cX10_findFar 1 = .ok (.istore_n 3, 1) := by decide +kernel
theorem dX10_findFar_2 : decode cX10_findFar 2 = .ok (.iload_n 3, 1) := by decide +kernel
theorem dX10_findFar_3 : decode cX10_findFar 3 = .ok (.bipush 25, 2) := by decide +kernel
theorem dX10_findFar_5 : decode cX10_findFar 5 = .ok (.if_icmp .ge 26, 3) := by decide +kernel
theorem dX10_findFar_8 : decode cX10_findFar 8 = .ok (.aload_n 0, 1) := by decide +kernel
theorem dX10_findFar_9 : decode cX10_findFar 9 = .ok (.getfield 34, 3) := by decide +kernel
theorem dX10_findFar_12 : decode cX10_findFar 12 = .ok (.iload_n 3, 1) := by decide +kernel
theorem dX10_findFar_13 : decode cX10_findFar 13 = .ok (.iload_n 3, 1) := by decide +kernel
theorem dX10_findFar_14 : decode cX10_findFar 14 = .ok (.iload_n 2, 1) := by decide +kernel
theorem dX10_findFar_15 : decode cX10_findFar 15 = .ok (.if_icmp .ne 7, 3) := by decide +kernel
theorem dX10_findFar_18 : decode cX10_findFar 18 = .ok (.iconst 0, 1) := by decide +kernel
theorem dX10_findFar_19 : decode cX10_findFar 19 = .ok (.goto 5, 3) := by decide +kernel
theorem dX10_findFar_22 : decode cX10_findFar 22 = .ok (.ldc 167, 2) := by decide +kernel
theorem dX10_findFar_24 : decode cX10_findFar 24 = .ok (.iastore, 1) := by decide +kernel
theorem dX10_findFar_25 : decode cX10_findFar 25 = .ok (.iinc 3 1, 3) := by decide +kernel
theorem dX10_findFar_28 : decode cX10_findFar 28 = .ok (.goto (-26), 3) := by decide +kernel
theorem dX10_findFar_31 : decode cX10_findFar 31 = .ok (.iconst 0, 1) := by decide +kernel
theorem dX10_findFar_32 : decode cX10_findFar 32 = .ok (.istore_n 3, 1) := by decide +kernel
theorem dX10_findFar_33 : decode cX10_findFar 33 = .ok (.iload_n 3, 1) := by decide +kernel
theorem dX10_findFar_34 : decode cX10_findFar 34 = .ok (.bipush 25, 2) := by decide +kernel
theorem dX10_findFar_36 : decode cX10_findFar 36 = .ok (.if_icmp .ge 120, 3) := by decide +kernel
theorem dX10_findFar_39 : decode cX10_findFar 39 = .ok (.iconst 0, 1) := by decide +kernel
theorem dX10_findFar_40 : decode cX10_findFar 40 = .ok (.istore 4, 2) := by decide +kernel
theorem dX10_findFar_42 : decode cX10_findFar 42 = .ok (.iload 4, 2) := by decide +kernel
theorem dX10_findFar_44 : decode cX10_findFar 44 = .ok (.sipush 200, 3) := by decide +kernel
theorem dX10_findFar_47 : decode cX10_findFar 47 = .ok (.if_icmp .ge 103, 3) := by decide +kernel
theorem dX10_findFar_50 : decode cX10_findFar 50 = .ok (.iload 4, 2) := by decide +kernel
theorem dX10_findFar_52 : decode cX10_findFar 52 = .ok (.bipush 8, 2) := by decide +kernel
theorem dX10_findFar_54 : decode cX10_findFar 54 = .ok (.idiv, 1) := by decide +kernel
theorem dX10_findFar_55 : decode cX10_findFar 55 = .ok (.iload 4, 2) := by decide +kernel
theorem dX10_findFar_57 : decode cX10_findFar 57 = .ok (.bipush 8, 2) := by decide +kernel
theorem dX10_findFar_59 : decode cX10_findFar 59 = .ok (.irem, 1) := by decide +kernel
theorem dX10_findFar_60 : decode cX10_findFar 60 = .ok (.invokestatic 119, 3) := by decide +kernel
theorem dX10_findFar_63 : decode cX10_findFar 63 = .ok (.istore 5, 2) := by decide +kernel
theorem dX10_findFar_65 : decode cX10_findFar 65 = .ok (.iload 5, 2) := by decide +kernel
theorem dX10_findFar_67 : decode cX10_findFar 67 = .ok (.bipush (-9), 2) := by decide +kernel
theorem dX10_findFar_69 : decode cX10_findFar 69 = .ok (.if_icmp .ne 8, 3) := by decide +kernel
theorem dX10_findFar_72 : decode cX10_findFar 72 = .ok (.ldc 167, 2) := by decide +kernel
theorem dX10_findFar_74 : decode cX10_findFar 74 = .ok (.goto 28, 3) := by decide +kernel
theorem dX10_findFar_77 : decode cX10_findFar 77 = .ok (.aload_n 0, 1) := by decide +kernel
theorem dX10_findFar_78 : decode cX10_findFar 78 = .ok (.getfield 34, 3) := by decide +kernel
theorem dX10_findFar_81 : decode cX10_findFar 81 = .ok (.iload 5, 2) := by decide +kernel
theorem dX10_findFar_83 : decode cX10_findFar 83 = .ok (.iaload, 1) := by decide +kernel
theorem dX10_findFar_84 : decode cX10_findFar 84 = .ok (.sipush 1000, 3) := by decide +kernel
theorem dX10_findFar_87 : decode cX10_findFar 87 = .ok (.aload_n 0, 1) := by decide +kernel
theorem dX10_findFar_88 : decode cX10_findFar 88 = .ok (.iconst 0, 1) := by decide +kernel
theorem dX10_findFar_89 : decode cX10_findFar 89 = .ok (.iload_n 1, 1) := by decide +kernel
theorem dX10_findFar_90 : decode cX10_findFar 90 = .ok (.iload 4, 2) := by decide +kernel
theorem dX10_findFar_92 : decode cX10_findFar 92 = .ok (.bipush 8, 2) := by decide +kernel
theorem dX10_findFar_94 : decode cX10_findFar 94 = .ok (.irem, 1) := by decide +kernel
theorem dX10_findFar_95 : decode cX10_findFar 95 = .ok (.invokevirtual 122, 3) := by decide +kernel
theorem dX10_findFar_98 : decode cX10_findFar 98 = .ok (.imul, 1) := by decide +kernel
theorem dX10_findFar_99 : decode cX10_findFar 99 = .ok (.iadd, 1) := by decide +kernel
theorem dX10_findFar_100 : decode cX10_findFar 100 = .ok (.iconst 1, 1) := by decide +kernel
theorem dX10_findFar_101 : decode cX10_findFar 101 = .ok (.iadd, 1) := by decide +kernel
theorem dX10_findFar_102 : decode cX10_findFar 102 = .ok (.istore 6, 2) := by decide +kernel
theorem dX10_findFar_104 : decode cX10_findFar 104 = .ok (.aload_n 0, 1) := by decide +kernel
theorem dX10_findFar_105 : decode cX10_findFar 105 = .ok (.getfield 34, 3) := by decide +kernel
theorem dX10_findFar_108 : decode cX10_findFar 108 = .ok (.iload 4, 2) := by decide +kernel
theorem dX10_findFar_110 : decode cX10_findFar 110 = .ok (.bipush 8, 2) := by decide +kernel
theorem dX10_findFar_112 : decode cX10_findFar 112 = .ok (.idiv, 1) := by decide +kernel
theorem dX10_findFar_113 : decode cX10_findFar 113 = .ok (.iload 6, 2) := by decide +kernel
theorem dX10_findFar_115 : decode cX10_findFar 115 = .ok (.aload_n 0, 1) := by decide +kernel
theorem dX10_findFar_116 : decode cX10_findFar 116 = .ok (.getfield 34, 3) := by decide +kernel
theorem dX10_findFar_119 : decode cX10_findFar 119 = .ok (.iload 4, 2) := by decide +kernel
theorem dX10_findFar_121 : decode cX10_findFar 121 = .ok (.bipush 8, 2) := by decide +kernel
theorem dX10_findFar_123 : decode cX10_findFar 123 = .ok (.idiv, 1) := by decide +kernel
theorem dX10_findFar_124 : decode cX10_findFar 124 = .ok (.iaload, 1) := by decide +kernel
theorem dX10_findFar_125 : decode cX10_findFar 125 = .ok (.if_icmp .ge 8, 3) := by decide +kernel
theorem dX10_findFar_128 : decode cX10_findFar 128 = .ok (.iload 6, 2) := by decide +kernel
theorem dX10_findFar_130 : decode cX10_findFar 130 = .ok (.goto 13, 3) := by decide +kernel
theorem dX10_findFar_133 : decode cX10_findFar 133 = .ok (.aload_n 0, 1) := by decide +kernel
theorem dX10_findFar_134 : decode cX10_findFar 134 = .ok (.getfield 34, 3) := by decide +kernel
theorem dX10_findFar_137 : decode cX10_findFar 137 = .ok (.iload 4, 2) := by decide +kernel
theorem dX10_findFar_139 : decode cX10_findFar 139 = .ok (.bipush 8, 2) := by decide +kernel
theorem dX10_findFar_141 : decode cX10_findFar 141 = .ok (.idiv, 1) := by decide +kernel
theorem dX10_findFar_142 : decode cX10_findFar 142 = .ok (.iaload, 1) := by decide +kernel
theorem dX10_findFar_143 : decode cX10_findFar 143 = .ok (.iastore, 1) := by decide +kernel
theorem dX10_findFar_144 : decode cX10_findFar 144 = .ok (.iinc 4 1, 3) := by decide +kernel
theorem dX10_findFar_147 : decode cX10_findFar 147 = .ok (.goto (-105), 3) := by decide +kernel
theorem dX10_findFar_150 : decode cX10_findFar 150 = .ok (.iinc 3 1, 3) := by decide +kernel
theorem dX10_findFar_153 : decode cX10_findFar 153 = .ok (.goto (-120), 3) := by decide +kernel
theorem dX10_findFar_156 : decode cX10_findFar 156 = .ok (.return_, 1) := by decide +kernel
theorem dX10_firstWay_0 : decode cX10_firstWay 0 = .ok (.aload_n 0, 1) := by decide +kernel
theorem dX10_firstWay_1 : decode cX10_firstWay 1 = .ok (.getfield 16, 3) := by decide +kernel
theorem dX10_firstWay_4 : decode cX10_firstWay 4 = .ok (.iload_n 1, 1) := by decide +kernel
theorem dX10_firstWay_5 : decode cX10_firstWay 5 = .ok (.iaload, 1) := by decide +kernel
theorem dX10_firstWay_6 : decode cX10_firstWay 6 = .ok (.istore_n 2, 1) := by decide +kernel
theorem dX10_firstWay_7 : decode cX10_firstWay 7 = .ok (.iconst 0, 1) := by decide +kernel
theorem dX10_firstWay_8 : decode cX10_firstWay 8 = .ok (.istore_n 3, 1) := by decide +kernel
theorem dX10_firstWay_9 : decode cX10_firstWay 9 = .ok (.iload_n 3, 1) := by decide +kernel
theorem dX10_firstWay_10 : decode cX10_firstWay 10 = .ok (.bipush 8, 2) := by decide +kernel
theorem dX10_firstWay_12 : decode cX10_firstWay 12 = .ok (.if_icmp .ge 64, 3) := by decide +kernel
theorem dX10_firstWay_15 : decode cX10_firstWay 15 = .ok (.aload_n 0, 1) := by decide +kernel
theorem dX10_firstWay_16 : decode cX10_firstWay 16 = .ok (.getfield 34, 3) := by decide +kernel
theorem dX10_firstWay_19 : decode cX10_firstWay 19 = .ok (.iload_n 2, 1) := by decide +kernel
theorem dX10_firstWay_20 : decode cX10_firstWay 20 = .ok (.iaload, 1) := by decide +kernel
theorem dX10_firstWay_21 : decode cX10_firstWay 21 = .ok (.ifCond .le 55, 3) := by decide +kernel
theorem dX10_firstWay_24 : decode cX10_firstWay 24 = .ok (.iload_n 2, 1) := by decide +kernel
theorem dX10_firstWay_25 : decode cX10_firstWay 25 = .ok (.iload_n 3, 1) := by decide +kernel
theorem dX10_firstWay_26 : decode cX10_firstWay 26 = .ok (.invokestatic 119, 3) := by decide +kernel
theorem dX10_firstWay_29 : decode cX10_firstWay 29 = .ok (.istore 4, 2) := by decide +kernel
theorem dX10_firstWay_31 : decode cX10_firstWay 31 = .ok (.iload 4, 2) := by decide +kernel
theorem dX10_firstWay_33 : decode cX10_firstWay 33 = .ok (.bipush (-9), 2) := by decide +kernel
theorem dX10_firstWay_35 : decode cX10_firstWay 35 = .ok (.if_icmp .eq 35, 3) := by decide +kernel
theorem dX10_firstWay_38 : decode cX10_firstWay 38 = .ok (.aload_n 0, 1) := by decide +kernel
theorem dX10_firstWay_39 : decode cX10_firstWay 39 = .ok (.getfield 34, 3) := by decide +kernel
theorem dX10_firstWay_42 : decode cX10_firstWay 42 = .ok (.iload 4, 2) := by decide +kernel
theorem dX10_firstWay_44 : decode cX10_firstWay 44 = .ok (.iaload, 1) := by decide +kernel
theorem dX10_firstWay_45 : decode cX10_firstWay 45 = .ok (.sipush 1000, 3) := by decide +kernel
theorem dX10_firstWay_48 : decode cX10_firstWay 48 = .ok (.aload_n 0, 1) := by decide +kernel
theorem dX10_firstWay_49 : decode cX10_firstWay 49 = .ok (.iconst 0, 1) := by decide +kernel
theorem dX10_firstWay_50 : decode cX10_firstWay 50 = .ok (.iload_n 1, 1) := by decide +kernel
theorem dX10_firstWay_51 : decode cX10_firstWay 51 = .ok (.iload_n 3, 1) := by decide +kernel
theorem dX10_firstWay_52 : decode cX10_firstWay 52 = .ok (.invokevirtual 122, 3) := by decide +kernel
theorem dX10_firstWay_55 : decode cX10_firstWay 55 = .ok (.imul, 1) := by decide +kernel
theorem dX10_firstWay_56 : decode cX10_firstWay 56 = .ok (.iadd, 1) := by decide +kernel
theorem dX10_firstWay_57 : decode cX10_firstWay 57 = .ok (.iconst 1, 1) := by decide +kernel
theorem dX10_firstWay_58 : decode cX10_firstWay 58 = .ok (.iadd, 1) := by decide +kernel
theorem dX10_firstWay_59 : decode cX10_firstWay 59 = .ok (.aload_n 0, 1) := by decide +kernel
theorem dX10_firstWay_60 : decode cX10_firstWay 60 = .ok (.getfield 34, 3) := by decide +kernel
theorem dX10_firstWay_63 : decode cX10_firstWay 63 = .ok (.iload_n 2, 1) := by decide +kernel
theorem dX10_firstWay_64 : decode cX10_firstWay 64 = .ok (.iaload, 1) := by decide +kernel
theorem dX10_firstWay_65 : decode cX10_firstWay 65 = .ok (.if_icmp .ne 5, 3) := by decide +kernel
theorem dX10_firstWay_68 : decode cX10_firstWay 68 = .ok (.iload_n 3, 1) := by decide +kernel
theorem dX10_firstWay_69 : decode cX10_firstWay 69 = .ok (.ireturn, 1) := by decide +kernel
theorem dX10_firstWay_70 : decode cX10_firstWay 70 = .ok (.iinc 3 1, 3) := by decide +kernel
theorem dX10_firstWay_73 : decode cX10_firstWay 73 = .ok (.goto (-64), 3) := by decide +kernel
theorem dX10_firstWay_76 : decode cX10_firstWay 76 = .ok (.bipush (-9), 2) := by decide +kernel
theorem dX10_firstWay_78 : decode cX10_firstWay 78 = .ok (.ireturn, 1) := by decide +kernel
theorem dX10_least_0 : decode cX10_least 0 = .ok (.aload_n 0, 1) := by decide +kernel
theorem dX10_least_1 : decode cX10_least 1 = .ok (.iload_n 1, 1) := by decide +kernel
theorem dX10_least_2 : decode cX10_least 2 = .ok (.invokevirtual 115, 3) := by decide +kernel
theorem dX10_least_5 : decode cX10_least 5 = .ok (.ifCond .eq 15, 3) := by decide +kernel
theorem dX10_least_8 : decode cX10_least 8 = .ok (.iload_n 2, 1) := by decide +kernel
theorem dX10_least_9 : decode cX10_least 9 = .ok (.i2l, 1) := by decide +kernel
theorem dX10_least_10 : decode cX10_least 10 = .ok (.lconst 0, 1) := by decide +kernel
theorem dX10_least_11 : decode cX10_least 11 = .ok (.ldc2_w 153, 3) := by decide +kernel
theorem dX10_least_14 : decode cX10_least 14 = .ok (.invokestatic 52, 3) := by decide +kernel
theorem dX10_least_17 : decode cX10_least 17 = .ok (.ifCond .ne 5, 3) := by decide +kernel
theorem dX10_least_20 : decode cX10_least 20 = .ok (.iconst (-1), 1) := by decide +kernel
theorem dX10_least_21 : decode cX10_least 21 = .ok (.ireturn, 1) := by decide +kernel
theorem dX10_least_22 : decode cX10_least 22 = .ok (.iload_n 3, 1) := by decide +kernel
theorem dX10_least_23 : decode cX10_least 23 = .ok (.i2l, 1) := by decide +kernel
theorem dX10_least_24 : decode cX10_least 24 = .ok (.lconst 0, 1) := by decide +kernel
theorem dX10_least_25 : decode cX10_least 25 = .ok (.ldc2_w 165, 3) := by decide +kernel
theorem dX10_least_28 : decode cX10_least 28 = .ok (.invokestatic 52, 3) := by decide +kernel
theorem dX10_least_31 : decode cX10_least 31 = .ok (.ifCond .ne 6, 3) := by decide +kernel
theorem dX10_least_34 : decode cX10_least 34 = .ok (.bipush (-2), 2) := by decide +kernel
theorem dX10_least_36 : decode cX10_least 36 = .ok (.ireturn, 1) := by decide +kernel
theorem dX10_least_37 : decode cX10_least 37 = .ok (.aload_n 0, 1) := by decide +kernel
theorem dX10_least_38 : decode cX10_least 38 = .ok (.iload_n 1, 1) := by decide +kernel
theorem dX10_least_39 : decode cX10_least 39 = .ok (.iload_n 2, 1) := by decide +kernel
theorem dX10_least_40 : decode cX10_least 40 = .ok (.invokevirtual 168, 3) := by decide +kernel
theorem dX10_least_43 : decode cX10_least 43 = .ok (.iload_n 3, 1) := by decide +kernel
theorem dX10_least_44 : decode cX10_least 44 = .ok (.ifCond .ne 21, 3) := by decide +kernel
theorem dX10_least_47 : decode cX10_least 47 = .ok (.aload_n 0, 1) := by decide +kernel
theorem dX10_least_48 : decode cX10_least 48 = .ok (.getfield 34, 3) := by decide +kernel
theorem dX10_least_51 : decode cX10_least 51 = .ok (.aload_n 0, 1) := by decide +kernel
theorem dX10_least_52 : decode cX10_least 52 = .ok (.getfield 16, 3) := by decide +kernel
theorem dX10_least_55 : decode cX10_least 55 = .ok (.iload_n 1, 1) := by decide +kernel
theorem dX10_least_56 : decode cX10_least 56 = .ok (.iaload, 1) := by decide +kernel
theorem dX10_least_57 : decode cX10_least 57 = .ok (.iaload, 1) := by decide +kernel
theorem dX10_least_58 : decode cX10_least 58 = .ok (.sipush 1000, 3) := by decide +kernel
theorem dX10_least_61 : decode cX10_least 61 = .ok (.idiv, 1) := by decide +kernel
theorem dX10_least_62 : decode cX10_least 62 = .ok (.goto 31, 3) := by decide +kernel
theorem dX10_least_65 : decode cX10_least 65 = .ok (.iload_n 3, 1) := by decide +kernel
theorem dX10_least_66 : decode cX10_least 66 = .ok (.iconst 1, 1) := by decide +kernel
theorem dX10_least_67 : decode cX10_least 67 = .ok (.if_icmp .ne 21, 3) := by decide +kernel
theorem dX10_least_70 : decode cX10_least 70 = .ok (.aload_n 0, 1) := by decide +kernel
theorem dX10_least_71 : decode cX10_least 71 = .ok (.getfield 34, 3) := by decide +kernel
theorem dX10_least_74 : decode cX10_least 74 = .ok (.aload_n 0, 1) := by decide +kernel
theorem dX10_least_75 : decode cX10_least 75 = .ok (.getfield 16, 3) := by decide +kernel
theorem dX10_least_78 : decode cX10_least 78 = .ok (.iload_n 1, 1) := by decide +kernel
theorem dX10_least_79 : decode cX10_least 79 = .ok (.iaload, 1) := by decide +kernel
theorem dX10_least_80 : decode cX10_least 80 = .ok (.iaload, 1) := by decide +kernel
theorem dX10_least_81 : decode cX10_least 81 = .ok (.sipush 1000, 3) := by decide +kernel
theorem dX10_least_84 : decode cX10_least 84 = .ok (.irem, 1) := by decide +kernel
theorem dX10_least_85 : decode cX10_least 85 = .ok (.goto 8, 3) := by decide +kernel
theorem dX10_least_88 : decode cX10_least 88 = .ok (.aload_n 0, 1) := by decide +kernel
theorem dX10_least_89 : decode cX10_least 89 = .ok (.iload_n 1, 1) := by decide +kernel
theorem dX10_least_90 : decode cX10_least 90 = .ok (.invokevirtual 171, 3) := by decide +kernel
theorem dX10_least_93 : decode cX10_least 93 = .ok (.ireturn, 1) := by decide +kernel
theorem dX10_ringBy_0 : decode cX10_ringBy 0 = .ok (.aload_n 0, 1) := by decide +kernel
theorem dX10_ringBy_1 : decode cX10_ringBy 1 = .ok (.getfield 16, 3) := by decide +kernel
theorem dX10_ringBy_4 : decode cX10_ringBy 4 = .ok (.iload_n 1, 1) := by decide +kernel
theorem dX10_ringBy_5 : decode cX10_ringBy 5 = .ok (.iaload, 1) := by decide +kernel
theorem dX10_ringBy_6 : decode cX10_ringBy 6 = .ok (.istore 4, 2) := by decide +kernel
theorem dX10_ringBy_8 : decode cX10_ringBy 8 = .ok (.iconst 0, 1) := by decide +kernel
theorem dX10_ringBy_9 : decode cX10_ringBy 9 = .ok (.istore 5, 2) := by decide +kernel
theorem dX10_ringBy_11 : decode cX10_ringBy 11 = .ok (.iload_n 2, 1) := by decide +kernel
theorem dX10_ringBy_12 : decode cX10_ringBy 12 = .ok (.istore 6, 2) := by decide +kernel
theorem dX10_ringBy_14 : decode cX10_ringBy 14 = .ok (.iconst 0, 1) := by decide +kernel
theorem dX10_ringBy_15 : decode cX10_ringBy 15 = .ok (.istore 7, 2) := by decide +kernel
theorem dX10_ringBy_17 : decode cX10_ringBy 17 = .ok (.iload 7, 2) := by decide +kernel
theorem dX10_ringBy_19 : decode cX10_ringBy 19 = .ok (.iload_n 3, 1) := by decide +kernel
theorem dX10_ringBy_20 : decode cX10_ringBy 20 = .ok (.if_icmp .ge 54, 3) := by decide +kernel
theorem dX10_ringBy_23 : decode cX10_ringBy 23 = .ok (.iload 4, 2) := by decide +kernel
theorem dX10_ringBy_25 : decode cX10_ringBy 25 = .ok (.iload 6, 2) := by decide +kernel
theorem dX10_ringBy_27 : decode cX10_ringBy 27 = .ok (.bipush 8, 2) := by decide +kernel
theorem dX10_ringBy_29 : decode cX10_ringBy 29 = .ok (.irem, 1) := by decide +kernel
theorem dX10_ringBy_30 : decode cX10_ringBy 30 = .ok (.invokestatic 119, 3) := by decide +kernel
theorem dX10_ringBy_33 : decode cX10_ringBy 33 = .ok (.istore 4, 2) := by decide +kernel
theorem dX10_ringBy_35 : decode cX10_ringBy 35 = .ok (.iload 4, 2) := by decide +kernel
theorem dX10_ringBy_37 : decode cX10_ringBy 37 = .ok (.bipush (-9), 2) := by decide +kernel
theorem dX10_ringBy_39 : decode cX10_ringBy 39 = .ok (.if_icmp .ne 6, 3) := by decide +kernel
theorem dX10_ringBy_42 : decode cX10_ringBy 42 = .ok (.bipush (-9), 2) := by decide +kernel
theorem dX10_ringBy_44 : decode cX10_ringBy 44 = .ok (.ireturn, 1) := by decide +kernel
theorem dX10_ringBy_45 : decode cX10_ringBy 45 = .ok (.iload 5, 2) := by decide +kernel
theorem dX10_ringBy_47 : decode cX10_ringBy 47 = .ok (.aload_n 0, 1) := by decide +kernel
theorem dX10_ringBy_48 : decode cX10_ringBy 48 = .ok (.iconst 0, 1) := by decide +kernel
theorem dX10_ringBy_49 : decode cX10_ringBy 49 = .ok (.iload_n 1, 1) := by decide +kernel
theorem dX10_ringBy_50 : decode cX10_ringBy 50 = .ok (.iload 6, 2) := by decide +kernel
theorem dX10_ringBy_52 : decode cX10_ringBy 52 = .ok (.bipush 8, 2) := by decide +kernel
theorem dX10_ringBy_54 : decode cX10_ringBy 54 = .ok (.irem, 1) := by decide +kernel
theorem dX10_ringBy_55 : decode cX10_ringBy 55 = .ok (.invokevirtual 122, 3) := by decide +kernel
theorem dX10_ringBy_58 : decode cX10_ringBy 58 = .ok (.iadd, 1) := by decide +kernel
theorem dX10_ringBy_59 : decode cX10_ringBy 59 = .ok (.istore 5, 2) := by decide +kernel
theorem dX10_ringBy_61 : decode cX10_ringBy 61 = .ok (.iload 6, 2) := by decide +kernel
theorem dX10_ringBy_63 : decode cX10_ringBy 63 = .ok (.bipush 8, 2) := by decide +kernel
theorem dX10_ringBy_65 : decode cX10_ringBy 65 = .ok (.idiv, 1) := by decide +kernel
theorem dX10_ringBy_66 : decode cX10_ringBy 66 = .ok (.istore 6, 2) := by decide +kernel
theorem dX10_ringBy_68 : decode cX10_ringBy 68 = .ok (.iinc 7 1, 3) := by decide +kernel
theorem dX10_ringBy_71 : decode cX10_ringBy 71 = .ok (.goto (-54), 3) := by decide +kernel
theorem dX10_ringBy_74 : decode cX10_ringBy 74 = .ok (.iload 4, 2) := by decide +kernel
theorem dX10_ringBy_76 : decode cX10_ringBy 76 = .ok (.aload_n 0, 1) := by decide +kernel
theorem dX10_ringBy_77 : decode cX10_ringBy 77 = .ok (.getfield 16, 3) := by decide +kernel
theorem dX10_ringBy_80 : decode cX10_ringBy 80 = .ok (.iload_n 1, 1) := by decide +kernel
theorem dX10_ringBy_81 : decode cX10_ringBy 81 = .ok (.iaload, 1) := by decide +kernel
theorem dX10_ringBy_82 : decode cX10_ringBy 82 = .ok (.if_icmp .ne 8, 3) := by decide +kernel
theorem dX10_ringBy_85 : decode cX10_ringBy 85 = .ok (.iload 5, 2) := by decide +kernel
theorem dX10_ringBy_87 : decode cX10_ringBy 87 = .ok (.goto 5, 3) := by decide +kernel
theorem dX10_ringBy_90 : decode cX10_ringBy 90 = .ok (.bipush (-9), 2) := by decide +kernel
theorem dX10_ringBy_92 : decode cX10_ringBy 92 = .ok (.ireturn, 1) := by decide +kernel
theorem dX10_rings_0 : decode cX10_rings 0 = .ok (.aload_n 0, 1) := by decide +kernel
theorem dX10_rings_1 : decode cX10_rings 1 = .ok (.iload_n 1, 1) := by decide +kernel
theorem dX10_rings_2 : decode cX10_rings 2 = .ok (.invokevirtual 115, 3) := by decide +kernel
theorem dX10_rings_5 : decode cX10_rings 5 = .ok (.ifCond .ne 5, 3) := by decide +kernel
theorem dX10_rings_8 : decode cX10_rings 8 = .ok (.iconst (-1), 1) := by decide +kernel
theorem dX10_rings_9 : decode cX10_rings 9 = .ok (.ireturn, 1) := by decide +kernel
theorem dX10_rings_10 : decode cX10_rings 10 = .ok (.iload_n 2, 1) := by decide +kernel
theorem dX10_rings_11 : decode cX10_rings 11 = .ok (.i2l, 1) := by decide +kernel
theorem dX10_rings_12 : decode cX10_rings 12 = .ok (.lconst 1, 1) := by decide +kernel
theorem dX10_rings_13 : decode cX10_rings 13 = .ok (.ldc2_w 110, 3) := by decide +kernel
theorem dX10_rings_16 : decode cX10_rings 16 = .ok (.invokestatic 52, 3) := by decide +kernel
theorem dX10_rings_19 : decode cX10_rings 19 = .ok (.ifCond .eq 13, 3) := by decide +kernel
theorem dX10_rings_22 : decode cX10_rings 22 = .ok (.iload_n 3, 1) := by decide +kernel
theorem dX10_rings_23 : decode cX10_rings 23 = .ok (.i2l, 1) := by decide +kernel
theorem dX10_rings_24 : decode cX10_rings 24 = .ok (.lconst 0, 1) := by decide +kernel
theorem dX10_rings_25 : decode cX10_rings 25 = .ok (.lconst 1, 1) := by decide +kernel
theorem dX10_rings_26 : decode cX10_rings 26 = .ok (.invokestatic 52, 3) := by decide +kernel
theorem dX10_rings_29 : decode cX10_rings 29 = .ok (.ifCond .ne 6, 3) := by decide +kernel
theorem dX10_rings_32 : decode cX10_rings 32 = .ok (.bipush (-2), 2) := by decide +kernel
theorem dX10_rings_34 : decode cX10_rings 34 = .ok (.ireturn, 1) := by decide +kernel
theorem dX10_rings_35 : decode cX10_rings 35 = .ok (.iload_n 2, 1) := by decide +kernel
theorem dX10_rings_36 : decode cX10_rings 36 = .ok (.iconst 1, 1) := by decide +kernel
theorem dX10_rings_37 : decode cX10_rings 37 = .ok (.if_icmp .ne 8, 3) := by decide +kernel
theorem dX10_rings_40 : decode cX10_rings 40 = .ok (.bipush 8, 2) := by decide +kernel
theorem dX10_rings_42 : decode cX10_rings 42 = .ok (.goto 27, 3) := by decide +kernel
theorem dX10_rings_45 : decode cX10_rings 45 = .ok (.iload_n 2, 1) := by decide +kernel
theorem dX10_rings_46 : decode cX10_rings 46 = .ok (.iconst 2, 1) := by decide +kernel
theorem dX10_rings_47 : decode cX10_rings 47 = .ok (.if_icmp .ne 8, 3) := by decide +kernel
theorem dX10_rings_50 : decode cX10_rings 50 = .ok (.bipush 64, 2) := by decide +kernel
theorem dX10_rings_52 : decode cX10_rings 52 = .ok (.goto 17, 3) := by decide +kernel
theorem dX10_rings_55 : decode cX10_rings 55 = .ok (.iload_n 2, 1) := by decide +kernel
theorem dX10_rings_56 : decode cX10_rings 56 = .ok (.iconst 3, 1) := by decide +kernel
theorem dX10_rings_57 : decode cX10_rings 57 = .ok (.if_icmp .ne 9, 3) := by decide +kernel
theorem dX10_rings_60 : decode cX10_rings 60 = .ok (.sipush 512, 3) := by decide +kernel
theorem dX10_rings_63 : decode cX10_rings 63 = .ok (.goto 6, 3) := by decide +kernel
theorem dX10_rings_66 : decode cX10_rings 66 = .ok (.sipush 4096, 3) := by decide +kernel
theorem dX10_rings_69 : decode cX10_rings 69 = .ok (.istore 4, 2) := by decide +kernel
theorem dX10_rings_71 : decode cX10_rings 71 = .ok (.iconst 0, 1) := by decide +kernel
theorem dX10_rings_72 : decode cX10_rings 72 = .ok (.istore 5, 2) := by decide +kernel
theorem dX10_rings_74 : decode cX10_rings 74 = .ok (.bipush (-9), 2) := by decide +kernel
theorem dX10_rings_76 : decode cX10_rings 76 = .ok (.istore 6, 2) := by decide +kernel
theorem dX10_rings_78 : decode cX10_rings 78 = .ok (.iconst 0, 1) := by decide +kernel
theorem dX10_rings_79 : decode cX10_rings 79 = .ok (.istore 7, 2) := by decide +kernel
theorem dX10_rings_81 : decode cX10_rings 81 = .ok (.iload 7, 2) := by decide +kernel
theorem dX10_rings_83 : decode cX10_rings 83 = .ok (.iload 4, 2) := by decide +kernel
theorem dX10_rings_85 : decode cX10_rings 85 = .ok (.if_icmp .ge 66, 3) := by decide +kernel
theorem dX10_rings_88 : decode cX10_rings 88 = .ok (.aload_n 0, 1) := by decide +kernel
theorem dX10_rings_89 : decode cX10_rings 89 = .ok (.iload_n 1, 1) := by decide +kernel
theorem dX10_rings_90 : decode cX10_rings 90 = .ok (.iload 7, 2) := by decide +kernel
theorem dX10_rings_92 : decode cX10_rings 92 = .ok (.iload_n 2, 1) := by decide +kernel
theorem dX10_rings_93 : decode cX10_rings 93 = .ok (.invokevirtual 174, 3) := by decide +kernel
theorem dX10_rings_96 : decode cX10_rings 96 = .ok (.istore 8, 2) := by decide +kernel
theorem dX10_rings_98 : decode cX10_rings 98 = .ok (.iload 5, 2) := by decide +kernel
theorem dX10_rings_100 : decode cX10_rings 100 = .ok (.iload 8, 2) := by decide +kernel
theorem dX10_rings_102 : decode cX10_rings 102 = .ok (.bipush (-9), 2) := by decide +kernel
theorem dX10_rings_104 : decode cX10_rings 104 = .ok (.if_icmp .ne 7, 3) := by decide +kernel
theorem dX10_rings_107 : decode cX10_rings 107 = .ok (.iconst 0, 1) := by decide +kernel
theorem dX10_rings_108 : decode cX10_rings 108 = .ok (.goto 4, 3) := by decide +kernel
theorem dX10_rings_111 : decode cX10_rings 111 = .ok (.iconst 1, 1) := by decide +kernel
theorem dX10_rings_112 : decode cX10_rings 112 = .ok (.iadd, 1) := by decide +kernel
theorem dX10_rings_113 : decode cX10_rings 113 = .ok (.istore 5, 2) := by decide +kernel
theorem dX10_rings_115 : decode cX10_rings 115 = .ok (.iload 8, 2) := by decide +kernel
theorem dX10_rings_117 : decode cX10_rings 117 = .ok (.bipush (-9), 2) := by decide +kernel
theorem dX10_rings_119 : decode cX10_rings 119 = .ok (.if_icmp .eq 22, 3) := by decide +kernel
theorem dX10_rings_122 : decode cX10_rings 122 = .ok (.iload 6, 2) := by decide +kernel
theorem dX10_rings_124 : decode cX10_rings 124 = .ok (.bipush (-9), 2) := by decide +kernel
theorem dX10_rings_126 : decode cX10_rings 126 = .ok (.if_icmp .eq 10, 3) := by decide +kernel
theorem dX10_rings_129 : decode cX10_rings 129 = .ok (.iload 8, 2) := by decide +kernel
theorem dX10_rings_131 : decode cX10_rings 131 = .ok (.iload 6, 2) := by decide +kernel
theorem dX10_rings_133 : decode cX10_rings 133 = .ok (.if_icmp .ge 8, 3) := by decide +kernel
theorem dX10_rings_136 : decode cX10_rings 136 = .ok (.iload 8, 2) := by decide +kernel
theorem dX10_rings_138 : decode cX10_rings 138 = .ok (.goto 5, 3) := by decide +kernel
theorem dX10_rings_141 : decode cX10_rings 141 = .ok (.iload 6, 2) := by decide +kernel
theorem dX10_rings_143 : decode cX10_rings 143 = .ok (.istore 6, 2) := by decide +kernel
theorem dX10_rings_145 : decode cX10_rings 145 = .ok (.iinc 7 1, 3) := by decide +kernel
theorem dX10_rings_148 : decode cX10_rings 148 = .ok (.goto (-67), 3) := by decide +kernel
theorem dX10_rings_151 : decode cX10_rings 151 = .ok (.iload_n 3, 1) := by decide +kernel
theorem dX10_rings_152 : decode cX10_rings 152 = .ok (.ifCond .ne 8, 3) := by decide +kernel
theorem dX10_rings_155 : decode cX10_rings 155 = .ok (.iload 5, 2) := by decide +kernel
theorem dX10_rings_157 : decode cX10_rings 157 = .ok (.goto 5, 3) := by decide +kernel
theorem dX10_rings_160 : decode cX10_rings 160 = .ok (.iload 6, 2) := by decide +kernel
theorem dX10_rings_162 : decode cX10_rings 162 = .ok (.ireturn, 1) := by decide +kernel
theorem dX10_tryThing_0 : decode cX10_tryThing 0 = .ok (.iload_n 1, 1) := by decide +kernel
theorem dX10_tryThing_1 : decode cX10_tryThing 1 = .ok (.tableswitch 305 1 7 #[43, 68, 112, 172, 205, 252, 279], 43) := by decide +kernel
theorem dX10_tryThing_44 : decode cX10_tryThing 44 = .ok (.aload_n 0, 1) := by decide +kernel
theorem dX10_tryThing_45 : decode cX10_tryThing 45 = .ok (.iconst 1, 1) := by decide +kernel
theorem dX10_tryThing_46 : decode cX10_tryThing 46 = .ok (.iload_n 2, 1) := by decide +kernel
theorem dX10_tryThing_47 : decode cX10_tryThing 47 = .ok (.iload_n 3, 1) := by decide +kernel
theorem dX10_tryThing_48 : decode cX10_tryThing 48 = .ok (.invokevirtual 133, 3) := by decide +kernel
theorem dX10_tryThing_51 : decode cX10_tryThing 51 = .ok (.istore 4, 2) := by decide +kernel
theorem dX10_tryThing_53 : decode cX10_tryThing 53 = .ok (.iload 4, 2) := by decide +kernel
theorem dX10_tryThing_55 : decode cX10_tryThing 55 = .ok (.ifCond .eq 11, 3) := by decide +kernel
theorem dX10_tryThing_58 : decode cX10_tryThing 58 = .ok (.aload_n 0, 1) := by decide +kernel
theorem dX10_tryThing_59 : decode cX10_tryThing 59 = .ok (.iconst 1, 1) := by decide +kernel
theorem dX10_tryThing_60 : decode cX10_tryThing 60 = .ok (.iload_n 2, 1) := by decide +kernel
theorem dX10_tryThing_61 : decode cX10_tryThing 61 = .ok (.iload_n 3, 1) := by decide +kernel
theorem dX10_tryThing_62 : decode cX10_tryThing 62 = .ok (.invokevirtual 137, 3) := by decide +kernel
theorem dX10_tryThing_65 : decode cX10_tryThing 65 = .ok (.pop, 1) := by decide +kernel
theorem dX10_tryThing_66 : decode cX10_tryThing 66 = .ok (.iload 4, 2) := by decide +kernel
theorem dX10_tryThing_68 : decode cX10_tryThing 68 = .ok (.ireturn, 1) := by decide +kernel
theorem dX10_tryThing_69 : decode cX10_tryThing 69 = .ok (.iload_n 2, 1) := by decide +kernel
theorem dX10_tryThing_70 : decode cX10_tryThing 70 = .ok (.ifCond .ne 15, 3) := by decide +kernel
theorem dX10_tryThing_73 : decode cX10_tryThing 73 = .ok (.aload_n 0, 1) := by decide +kernel
theorem dX10_tryThing_74 : decode cX10_tryThing 74 = .ok (.iload_n 3, 1) := by decide +kernel
theorem dX10_tryThing_75 : decode cX10_tryThing 75 = .ok (.invokevirtual 115, 3) := by decide +kernel
theorem dX10_tryThing_78 : decode cX10_tryThing 78 = .ok (.ifCond .eq 7, 3) := by decide +kernel
theorem dX10_tryThing_81 : decode cX10_tryThing 81 = .ok (.iconst 1, 1) := by decide +kernel
theorem dX10_tryThing_82 : decode cX10_tryThing 82 = .ok (.goto 4, 3) := by decide +kernel
theorem dX10_tryThing_85 : decode cX10_tryThing 85 = .ok (.iconst 0, 1) := by decide +kernel
theorem dX10_tryThing_86 : decode cX10_tryThing 86 = .ok (.istore 5, 2) := by decide +kernel
theorem dX10_tryThing_88 : decode cX10_tryThing 88 = .ok (.aload_n 0, 1) := by decide +kernel
theorem dX10_tryThing_89 : decode cX10_tryThing 89 = .ok (.getfield 16, 3) := by decide +kernel
theorem dX10_tryThing_92 : decode cX10_tryThing 92 = .ok (.bipush 59, 2) := by decide +kernel
theorem dX10_tryThing_94 : decode cX10_tryThing 94 = .ok (.dup2, 1) := by decide +kernel
theorem dX10_tryThing_95 : decode cX10_tryThing 95 = .ok (.iaload, 1) := by decide +kernel
theorem dX10_tryThing_96 : decode cX10_tryThing 96 = .ok (.iload 5, 2) := by decide +kernel
theorem dX10_tryThing_98 : decode cX10_tryThing 98 = .ok (.ifCond .eq 9, 3) := by decide +kernel
theorem dX10_tryThing_101 : decode cX10_tryThing 101 = .ok (.iconst 1, 1) := by decide +kernel
theorem dX10_tryThing_102 : decode cX10_tryThing 102 = .ok (.iload_n 3, 1) := by decide +kernel
theorem dX10_tryThing_103 : decode cX10_tryThing 103 = .ok (.ishl, 1) := by decide +kernel
theorem dX10_tryThing_104 : decode cX10_tryThing 104 = .ok (.goto 4, 3) := by decide +kernel
theorem dX10_tryThing_107 : decode cX10_tryThing 107 = .ok (.iconst 0, 1) := by decide +kernel
theorem dX10_tryThing_108 : decode cX10_tryThing 108 = .ok (.ixor, 1) := by decide +kernel
theorem dX10_tryThing_109 : decode cX10_tryThing 109 = .ok (.iastore, 1) := by decide +kernel
theorem dX10_tryThing_110 : decode cX10_tryThing 110 = .ok (.iload 5, 2) := by decide +kernel
theorem dX10_tryThing_112 : decode cX10_tryThing 112 = .ok (.ireturn, 1) := by decide +kernel
theorem dX10_tryThing_113 : decode cX10_tryThing 113 = .ok (.iload_n 2, 1) := by decide +kernel
theorem dX10_tryThing_114 : decode cX10_tryThing 114 = .ok (.ifCond .ne 33, 3) := by decide +kernel
theorem dX10_tryThing_117 : decode cX10_tryThing 117 = .ok (.aload_n 0, 1) := by decide +kernel
theorem dX10_tryThing_118 : decode cX10_tryThing 118 = .ok (.iload_n 3, 1) := by decide +kernel
theorem dX10_tryThing_119 : decode cX10_tryThing 119 = .ok (.invokevirtual 115, 3) := by decide +kernel
theorem dX10_tryThing_122 : decode cX10_tryThing 122 = .ok (.ifCond .eq 25, 3) := by decide +kernel
theorem dX10_tryThing_125 : decode cX10_tryThing 125 = .ok (.aload_n 0, 1) := by decide +kernel
theorem dX10_tryThing_126 : decode cX10_tryThing 126 = .ok (.getfield 16, 3) := by decide +kernel
theorem dX10_tryThing_129 : decode cX10_tryThing 129 = .ok (.bipush 55, 2) := by decide +kernel
theorem dX10_tryThing_131 : decode cX10_tryThing 131 = .ok (.iload_n 3, 1) := by decide +kernel
theorem dX10_tryThing_132 : decode cX10_tryThing 132 = .ok (.iadd, 1) := by decide +kernel
theorem dX10_tryThing_133 : decode cX10_tryThing 133 = .ok (.iaload, 1) := by decide +kernel
theorem dX10_tryThing_134 : decode cX10_tryThing 134 = .ok (.aload_n 0, 1) := by decide +kernel
theorem dX10_tryThing_135 : decode cX10_tryThing 135 = .ok (.getfield 13, 3) := by decide +kernel
theorem dX10_tryThing_138 : decode cX10_tryThing 138 = .ok (.iload_n 3, 1) := by decide +kernel
theorem dX10_tryThing_139 : decode cX10_tryThing 139 = .ok (.iaload, 1) := by decide +kernel
theorem dX10_tryThing_140 : decode cX10_tryThing 140 = .ok (.if_icmp .ge 7, 3) := by decide +kernel
theorem dX10_tryThing_143 : decode cX10_tryThing 143 = .ok (.iconst 1, 1) := by decide +kernel
theorem dX10_tryThing_144 : decode cX10_tryThing 144 = .ok (.goto 4, 3) := by decide +kernel
theorem dX10_tryThing_147 : decode cX10_tryThing 147 = .ok (.iconst 0, 1) := by decide +kernel
theorem dX10_tryThing_148 : decode cX10_tryThing 148 = .ok (.istore 6, 2) := by decide +kernel
theorem dX10_tryThing_150 : decode cX10_tryThing 150 = .ok (.iload 6, 2) := by decide +kernel
theorem dX10_tryThing_152 : decode cX10_tryThing 152 = .ok (.ifCond .eq 18, 3) := by decide +kernel
theorem dX10_tryThing_155 : decode cX10_tryThing 155 = .ok (.aload_n 0, 1) := by decide +kernel
theorem dX10_tryThing_156 : decode cX10_tryThing 156 = .ok (.getfield 16, 3) := by decide +kernel
theorem dX10_tryThing_159 : decode cX10_tryThing 159 = .ok (.bipush 55, 2) := by decide +kernel
theorem dX10_tryThing_161 : decode cX10_tryThing 161 = .ok (.iload_n 3, 1) := by decide +kernel
theorem dX10_tryThing_162 : decode cX10_tryThing 162 = .ok (.iadd, 1) := by decide +kernel
theorem dX10_tryThing_163 : decode cX10_tryThing 163 = .ok (.aload_n 0, 1) := by decide +kernel
theorem dX10_tryThing_164 : decode cX10_tryThing 164 = .ok (.getfield 13, 3) := by decide +kernel
theorem dX10_tryThing_167 : decode cX10_tryThing 167 = .ok (.iload_n 3, 1) := by decide +kernel
theorem dX10_tryThing_168 : decode cX10_tryThing 168 = .ok (.iaload, 1) := by decide +kernel
theorem dX10_tryThing_169 : decode cX10_tryThing 169 = .ok (.iastore, 1) := by decide +kernel
theorem dX10_tryThing_170 : decode cX10_tryThing 170 = .ok (.iload 6, 2) := by decide +kernel
theorem dX10_tryThing_172 : decode cX10_tryThing 172 = .ok (.ireturn, 1) := by decide +kernel
theorem dX10_tryThing_173 : decode cX10_tryThing 173 = .ok (.iload_n 2, 1) := by decide +kernel
theorem dX10_tryThing_174 : decode cX10_tryThing 174 = .ok (.ifCond .ne 15, 3) := by decide +kernel
theorem dX10_tryThing_177 : decode cX10_tryThing 177 = .ok (.aload_n 0, 1) := by decide +kernel
theorem dX10_tryThing_178 : decode cX10_tryThing 178 = .ok (.iload_n 3, 1) := by decide +kernel
theorem dX10_tryThing_179 : decode cX10_tryThing 179 = .ok (.invokevirtual 115, 3) := by decide +kernel
theorem dX10_tryThing_182 : decode cX10_tryThing 182 = .ok (.ifCond .eq 7, 3) := by decide +kernel
theorem dX10_tryThing_185 : decode cX10_tryThing 185 = .ok (.iconst 1, 1) := by decide +kernel
theorem dX10_tryThing_186 : decode cX10_tryThing 186 = .ok (.goto 4, 3) := by decide +kernel
theorem dX10_tryThing_189 : decode cX10_tryThing 189 = .ok (.iconst 0, 1) := by decide +kernel
theorem dX10_tryThing_190 : decode cX10_tryThing 190 = .ok (.istore 7, 2) := by decide +kernel
theorem dX10_tryThing_192 : decode cX10_tryThing 192 = .ok (.iload 7, 2) := by decide +kernel
theorem dX10_tryThing_194 : decode cX10_tryThing 194 = .ok (.ifCond .eq 9, 3) := by decide +kernel
theorem dX10_tryThing_197 : decode cX10_tryThing 197 = .ok (.aload_n 0, 1) := by decide +kernel
theorem dX10_tryThing_198 : decode cX10_tryThing 198 = .ok (.iconst 1, 1) := by decide +kernel
theorem dX10_tryThing_199 : decode cX10_tryThing 199 = .ok (.iload_n 3, 1) := by decide +kernel
theorem dX10_tryThing_200 : decode cX10_tryThing 200 = .ok (.invokevirtual 161, 3) := by decide +kernel
theorem dX10_tryThing_203 : decode cX10_tryThing 203 = .ok (.iload 7, 2) := by decide +kernel
theorem dX10_tryThing_205 : decode cX10_tryThing 205 = .ok (.ireturn, 1) := by decide +kernel
theorem dX10_tryThing_206 : decode cX10_tryThing 206 = .ok (.iload_n 2, 1) := by decide +kernel
theorem dX10_tryThing_207 : decode cX10_tryThing 207 = .ok (.i2l, 1) := by decide +kernel
theorem dX10_tryThing_208 : decode cX10_tryThing 208 = .ok (.lconst 0, 1) := by decide +kernel
theorem dX10_tryThing_209 : decode cX10_tryThing 209 = .ok (.ldc2_w 110, 3) := by decide +kernel
theorem dX10_tryThing_212 : decode cX10_tryThing 212 = .ok (.invokestatic 52, 3) := by decide +kernel
theorem dX10_tryThing_215 : decode cX10_tryThing 215 = .ok (.ifCond .eq 36, 3) := by decide +kernel
theorem dX10_tryThing_218 : decode cX10_tryThing 218 = .ok (.iload_n 3, 1) := by decide +kernel
theorem dX10_tryThing_219 : decode cX10_tryThing 219 = .ok (.i2l, 1) := by decide +kernel
theorem dX10_tryThing_220 : decode cX10_tryThing 220 = .ok (.lconst 0, 1) := by decide +kernel
theorem dX10_tryThing_221 : decode cX10_tryThing 221 = .ok (.ldc2_w 110, 3) := by decide +kernel
theorem dX10_tryThing_224 : decode cX10_tryThing 224 = .ok (.invokestatic 52, 3) := by decide +kernel
theorem dX10_tryThing_227 : decode cX10_tryThing 227 = .ok (.ifCond .eq 24, 3) := by decide +kernel
theorem dX10_tryThing_230 : decode cX10_tryThing 230 = .ok (.aload_n 0, 1) := by decide +kernel
theorem dX10_tryThing_231 : decode cX10_tryThing 231 = .ok (.getfield 16, 3) := by decide +kernel
theorem dX10_tryThing_234 : decode cX10_tryThing 234 = .ok (.bipush 61, 2) := by decide +kernel
theorem dX10_tryThing_236 : decode cX10_tryThing 236 = .ok (.iconst 5, 1) := by decide +kernel
theorem dX10_tryThing_237 : decode cX10_tryThing 237 = .ok (.iload_n 3, 1) := by decide +kernel
theorem dX10_tryThing_238 : decode cX10_tryThing 238 = .ok (.imul, 1) := by decide +kernel
theorem dX10_tryThing_239 : decode cX10_tryThing 239 = .ok (.iadd, 1) := by decide +kernel
theorem dX10_tryThing_240 : decode cX10_tryThing 240 = .ok (.iload_n 2, 1) := by decide +kernel
theorem dX10_tryThing_241 : decode cX10_tryThing 241 = .ok (.iadd, 1) := by decide +kernel
theorem dX10_tryThing_242 : decode cX10_tryThing 242 = .ok (.iaload, 1) := by decide +kernel
theorem dX10_tryThing_243 : decode cX10_tryThing 243 = .ok (.iconst 2, 1) := by decide +kernel
theorem dX10_tryThing_244 : decode cX10_tryThing 244 = .ok (.if_icmp .le 7, 3) := by decide +kernel
theorem dX10_tryThing_247 : decode cX10_tryThing 247 = .ok (.iconst 1, 1) := by decide +kernel
theorem dX10_tryThing_248 : decode cX10_tryThing 248 = .ok (.goto 4, 3) := by decide +kernel
theorem dX10_tryThing_251 : decode cX10_tryThing 251 = .ok (.iconst 0, 1) := by decide +kernel
theorem dX10_tryThing_252 : decode cX10_tryThing 252 = .ok (.ireturn, 1) := by decide +kernel
theorem dX10_tryThing_253 : decode cX10_tryThing 253 = .ok (.aload_n 0, 1) := by decide +kernel
theorem dX10_tryThing_254 : decode cX10_tryThing 254 = .ok (.iload_n 2, 1) := by decide +kernel
theorem dX10_tryThing_255 : decode cX10_tryThing 255 = .ok (.invokevirtual 115, 3) := by decide +kernel
theorem dX10_tryThing_258 : decode cX10_tryThing 258 = .ok (.ifCond .eq 20, 3) := by decide +kernel
theorem dX10_tryThing_261 : decode cX10_tryThing 261 = .ok (.aload_n 0, 1) := by decide +kernel
theorem dX10_tryThing_262 : decode cX10_tryThing 262 = .ok (.getfield 16, 3) := by decide +kernel
theorem dX10_tryThing_265 : decode cX10_tryThing 265 = .ok (.bipush 55, 2) := by decide +kernel
theorem dX10_tryThing_267 : decode cX10_tryThing 267 = .ok (.iload_n 2, 1) := by decide +kernel
theorem dX10_tryThing_268 : decode cX10_tryThing 268 = .ok (.iadd, 1) := by decide +kernel
theorem dX10_tryThing_269 : decode cX10_tryThing 269 = .ok (.iaload, 1) := by decide +kernel
theorem dX10_tryThing_270 : decode cX10_tryThing 270 = .ok (.iload_n 3, 1) := by decide +kernel
theorem dX10_tryThing_271 : decode cX10_tryThing 271 = .ok (.if_icmp .lt 7, 3) := by decide +kernel
theorem dX10_tryThing_274 : decode cX10_tryThing 274 = .ok (.iconst 1, 1) := by decide +kernel
theorem dX10_tryThing_275 : decode cX10_tryThing 275 = .ok (.goto 4, 3) := by decide +kernel
theorem dX10_tryThing_278 : decode cX10_tryThing 278 = .ok (.iconst 0, 1) := by decide +kernel
theorem dX10_tryThing_279 : decode cX10_tryThing 279 = .ok (.ireturn, 1) := by decide +kernel
theorem dX10_tryThing_280 : decode cX10_tryThing 280 = .ok (.iload_n 3, 1) := by decide +kernel
theorem dX10_tryThing_281 : decode cX10_tryThing 281 = .ok (.ifCond .ne 23, 3) := by decide +kernel
theorem dX10_tryThing_284 : decode cX10_tryThing 284 = .ok (.aload_n 0, 1) := by decide +kernel
theorem dX10_tryThing_285 : decode cX10_tryThing 285 = .ok (.iload_n 2, 1) := by decide +kernel
theorem dX10_tryThing_286 : decode cX10_tryThing 286 = .ok (.invokevirtual 115, 3) := by decide +kernel
theorem dX10_tryThing_289 : decode cX10_tryThing 289 = .ok (.ifCond .eq 15, 3) := by decide +kernel
theorem dX10_tryThing_292 : decode cX10_tryThing 292 = .ok (.aload_n 0, 1) := by decide +kernel
theorem dX10_tryThing_293 : decode cX10_tryThing 293 = .ok (.iload_n 2, 1) := by decide +kernel
theorem dX10_tryThing_294 : decode cX10_tryThing 294 = .ok (.invokevirtual 177, 3) := by decide +kernel
theorem dX10_tryThing_297 : decode cX10_tryThing 297 = .ok (.ifCond .eq 7, 3) := by decide +kernel
theorem dX10_tryThing_300 : decode cX10_tryThing 300 = .ok (.iconst 1, 1) := by decide +kernel
theorem dX10_tryThing_301 : decode cX10_tryThing 301 = .ok (.goto 4, 3) := by decide +kernel
theorem dX10_tryThing_304 : decode cX10_tryThing 304 = .ok (.iconst 0, 1) := by decide +kernel
theorem dX10_tryThing_305 : decode cX10_tryThing 305 = .ok (.ireturn, 1) := by decide +kernel
theorem dX10_tryThing_306 : decode cX10_tryThing 306 = .ok (.iconst 0, 1) := by decide +kernel
theorem dX10_tryThing_307 : decode cX10_tryThing 307 = .ok (.ireturn, 1) := by decide +kernel
theorem dX10_writesAll_0 : decode cX10_writesAll 0 = .ok (.aload_n 0, 1) := by decide +kernel
theorem dX10_writesAll_1 : decode cX10_writesAll 1 = .ok (.iconst 1, 1) := by decide +kernel
theorem dX10_writesAll_2 : decode cX10_writesAll 2 = .ok (.iload_n 1, 1) := by decide +kernel
theorem dX10_writesAll_3 : decode cX10_writesAll 3 = .ok (.bipush 8, 2) := by decide +kernel
theorem dX10_writesAll_5 : decode cX10_writesAll 5 = .ok (.iconst 0, 1) := by decide +kernel
theorem dX10_writesAll_6 : decode cX10_writesAll 6 = .ok (.invokevirtual 143, 3) := by decide +kernel
theorem dX10_writesAll_9 : decode cX10_writesAll 9 = .ok (.pop, 1) := by decide +kernel
theorem dX10_writesAll_10 : decode cX10_writesAll 10 = .ok (.aload_n 0, 1) := by decide +kernel
theorem dX10_writesAll_11 : decode cX10_writesAll 11 = .ok (.getfield 130, 3) := by decide +kernel
theorem dX10_writesAll_14 : decode cX10_writesAll 14 = .ok (.aload_n 0, 1) := by decide +kernel
theorem dX10_writesAll_15 : decode cX10_writesAll 15 = .ok (.getfield 100, 3) := by decide +kernel
theorem dX10_writesAll_18 : decode cX10_writesAll 18 = .ok (.if_icmp .ne 7, 3) := by decide +kernel
theorem dX10_writesAll_21 : decode cX10_writesAll 21 = .ok (.iconst 1, 1) := by decide +kernel
theorem dX10_writesAll_22 : decode cX10_writesAll 22 = .ok (.goto 4, 3) := by decide +kernel
theorem dX10_writesAll_25 : decode cX10_writesAll 25 = .ok (.iconst 0, 1) := by decide +kernel
theorem dX10_writesAll_26 : decode cX10_writesAll 26 = .ok (.ireturn, 1) := by decide +kernel
theorem dX10_thousandTo_0 : decode cX10_thousandTo 0 = .ok (.iconst 3, 1) := by decide +kernel
theorem dX10_thousandTo_1 : decode cX10_thousandTo 1 = .ok (.iload_n 0, 1) := by decide +kernel
theorem dX10_thousandTo_2 : decode cX10_thousandTo 2 = .ok (.imul, 1) := by decide +kernel
theorem dX10_thousandTo_3 : decode cX10_thousandTo 3 = .ok (.invokestatic 94, 3) := by decide +kernel
theorem dX10_thousandTo_6 : decode cX10_thousandTo 6 = .ok (.lreturn, 1) := by decide +kernel
theorem dX10_judge_0 : decode cX10_judge 0 = .ok (.iload_n 1, 1) := by decide +kernel
theorem dX10_judge_1 : decode cX10_judge 1 = .ok (.i2l, 1) := by decide +kernel
theorem dX10_judge_2 : decode cX10_judge 2 = .ok (.lconst 1, 1) := by decide +kernel
theorem dX10_judge_3 : decode cX10_judge 3 = .ok (.ldc2_w 110, 3) := by decide +kernel
theorem dX10_judge_6 : decode cX10_judge 6 = .ok (.invokestatic 52, 3) := by decide +kernel
theorem dX10_judge_9 : decode cX10_judge 9 = .ok (.ifCond .eq 17, 3) := by decide +kernel
theorem dX10_judge_12 : decode cX10_judge 12 = .ok (.lload_n 2, 1) := by decide +kernel
theorem dX10_judge_13 : decode cX10_judge 13 = .ok (.lconst 0, 1) := by decide +kernel
theorem dX10_judge_14 : decode cX10_judge 14 = .ok (.iload_n 1, 1) := by decide +kernel
theorem dX10_judge_15 : decode cX10_judge 15 = .ok (.invokestatic 180, 3) := by decide +kernel
theorem dX10_judge_18 : decode cX10_judge 18 = .ok (.lconst 1, 1) := by decide +kernel
theorem dX10_judge_19 : decode cX10_judge 19 = .ok (.lsub, 1) := by decide +kernel
theorem dX10_judge_20 : decode cX10_judge 20 = .ok (.invokestatic 52, 3) := by decide +kernel
theorem dX10_judge_23 : decode cX10_judge 23 = .ok (.ifCond .ne 6, 3) := by decide +kernel
theorem dX10_judge_26 : decode cX10_judge 26 = .ok (.bipush (-2), 2) := by decide +kernel
theorem dX10_judge_28 : decode cX10_judge 28 = .ok (.ireturn, 1) := by decide +kernel
theorem dX10_judge_29 : decode cX10_judge 29 = .ok (.aload_n 0, 1) := by decide +kernel
theorem dX10_judge_30 : decode cX10_judge 30 = .ok (.invokevirtual 140, 3) := by decide +kernel
theorem dX10_judge_33 : decode cX10_judge 33 = .ok (.iconst 0, 1) := by decide +kernel
theorem dX10_judge_34 : decode cX10_judge 34 = .ok (.istore 4, 2) := by decide +kernel
theorem dX10_judge_36 : decode cX10_judge 36 = .ok (.iload 4, 2) := by decide +kernel
theorem dX10_judge_38 : decode cX10_judge 38 = .ok (.iload_n 1, 1) := by decide +kernel
theorem dX10_judge_39 : decode cX10_judge 39 = .ok (.if_icmp .ge 55, 3) := by decide +kernel
theorem dX10_judge_42 : decode cX10_judge 42 = .ok (.lload_n 2, 1) := by decide +kernel
theorem dX10_judge_43 : decode cX10_judge 43 = .ok (.iload_n 1, 1) := by decide +kernel
theorem dX10_judge_44 : decode cX10_judge 44 = .ok (.iconst 1, 1) := by decide +kernel
theorem dX10_judge_45 : decode cX10_judge 45 = .ok (.isub, 1) := by decide +kernel
theorem dX10_judge_46 : decode cX10_judge 46 = .ok (.iload 4, 2) := by decide +kernel
theorem dX10_judge_48 : decode cX10_judge 48 = .ok (.isub, 1) := by decide +kernel
theorem dX10_judge_49 : decode cX10_judge 49 = .ok (.invokestatic 180, 3) := by decide +kernel
theorem dX10_judge_52 : decode cX10_judge 52 = .ok (.ldiv, 1) := by decide +kernel
theorem dX10_judge_53 : decode cX10_judge 53 = .ok (.ldc2_w 183, 3) := by decide +kernel
theorem dX10_judge_56 : decode cX10_judge 56 = .ok (.lrem, 1) := by decide +kernel
theorem dX10_judge_57 : decode cX10_judge 57 = .ok (.l2i, 1) := by decide +kernel
theorem dX10_judge_58 : decode cX10_judge 58 = .ok (.istore 5, 2) := by decide +kernel
theorem dX10_judge_60 : decode cX10_judge 60 = .ok (.aload_n 0, 1) := by decide +kernel
theorem dX10_judge_61 : decode cX10_judge 61 = .ok (.iload 5, 2) := by decide +kernel
theorem dX10_judge_63 : decode cX10_judge 63 = .ok (.bipush 100, 2) := by decide +kernel
theorem dX10_judge_65 : decode cX10_judge 65 = .ok (.idiv, 1) := by decide +kernel
theorem dX10_judge_66 : decode cX10_judge 66 = .ok (.iload 5, 2) := by decide +kernel
theorem dX10_judge_68 : decode cX10_judge 68 = .ok (.bipush 10, 2) := by decide +kernel
theorem dX10_judge_70 : decode cX10_judge 70 = .ok (.idiv, 1) := by decide +kernel
theorem dX10_judge_71 : decode cX10_judge 71 = .ok (.bipush 10, 2) := by decide +kernel
theorem dX10_judge_73 : decode cX10_judge 73 = .ok (.irem, 1) := by decide +kernel
theorem dX10_judge_74 : decode cX10_judge 74 = .ok (.iload 5, 2) := by decide +kernel
theorem dX10_judge_76 : decode cX10_judge 76 = .ok (.bipush 10, 2) := by decide +kernel
theorem dX10_judge_78 : decode cX10_judge 78 = .ok (.irem, 1) := by decide +kernel
theorem dX10_judge_79 : decode cX10_judge 79 = .ok (.invokevirtual 185, 3) := by decide +kernel
theorem dX10_judge_82 : decode cX10_judge 82 = .ok (.ifCond .ne 6, 3) := by decide +kernel
theorem dX10_judge_85 : decode cX10_judge 85 = .ok (.iload 4, 2) := by decide +kernel
theorem dX10_judge_87 : decode cX10_judge 87 = .ok (.ireturn, 1) := by decide +kernel
theorem dX10_judge_88 : decode cX10_judge 88 = .ok (.iinc 4 1, 3) := by decide +kernel
theorem dX10_judge_91 : decode cX10_judge 91 = .ok (.goto (-55), 3) := by decide +kernel
theorem dX10_judge_94 : decode cX10_judge 94 = .ok (.bipush (-9), 2) := by decide +kernel
theorem dX10_judge_96 : decode cX10_judge 96 = .ok (.ireturn, 1) := by decide +kernel
theorem dX10_see_0 : decode cX10_see 0 = .ok (.iload_n 1, 1) := by decide +kernel
theorem dX10_see_1 : decode cX10_see 1 = .ok (.i2l, 1) := by decide +kernel
theorem dX10_see_2 : decode cX10_see 2 = .ok (.lconst 0, 1) := by decide +kernel
theorem dX10_see_3 : decode cX10_see 3 = .ok (.ldc2_w 98, 3) := by decide +kernel
theorem dX10_see_6 : decode cX10_see 6 = .ok (.invokestatic 52, 3) := by decide +kernel
theorem dX10_see_9 : decode cX10_see 9 = .ok (.ifCond .eq 15, 3) := by decide +kernel
theorem dX10_see_12 : decode cX10_see 12 = .ok (.iload_n 2, 1) := by decide +kernel
theorem dX10_see_13 : decode cX10_see 13 = .ok (.i2l, 1) := by decide +kernel
theorem dX10_see_14 : decode cX10_see 14 = .ok (.lconst 0, 1) := by decide +kernel
theorem dX10_see_15 : decode cX10_see 15 = .ok (.ldc2_w 188, 3) := by decide +kernel
theorem dX10_see_18 : decode cX10_see 18 = .ok (.invokestatic 52, 3) := by decide +kernel
theorem dX10_see_21 : decode cX10_see 21 = .ok (.ifCond .ne 6, 3) := by decide +kernel
theorem dX10_see_24 : decode cX10_see 24 = .ok (.bipush (-2), 2) := by decide +kernel
theorem dX10_see_26 : decode cX10_see 26 = .ok (.ireturn, 1) := by decide +kernel
theorem dX10_see_27 : decode cX10_see 27 = .ok (.aload_n 0, 1) := by decide +kernel
theorem dX10_see_28 : decode cX10_see 28 = .ok (.getfield 190, 3) := by decide +kernel
theorem dX10_see_31 : decode cX10_see 31 = .ok (.bipush 6, 2) := by decide +kernel
theorem dX10_see_33 : decode cX10_see 33 = .ok (.if_icmp .ne 6, 3) := by decide +kernel
theorem dX10_see_36 : decode cX10_see 36 = .ok (.bipush (-4), 2) := by decide +kernel
theorem dX10_see_38 : decode cX10_see 38 = .ok (.ireturn, 1) := by decide +kernel
theorem dX10_see_39 : decode cX10_see 39 = .ok (.aload_n 0, 1) := by decide +kernel
theorem dX10_see_40 : decode cX10_see 40 = .ok (.getfield 37, 3) := by decide +kernel
theorem dX10_see_43 : decode cX10_see 43 = .ok (.aload_n 0, 1) := by decide +kernel
theorem dX10_see_44 : decode cX10_see 44 = .ok (.getfield 190, 3) := by decide +kernel
theorem dX10_see_47 : decode cX10_see 47 = .ok (.iload_n 1, 1) := by decide +kernel
theorem dX10_see_48 : decode cX10_see 48 = .ok (.iastore, 1) := by decide +kernel
theorem dX10_see_49 : decode cX10_see 49 = .ok (.aload_n 0, 1) := by decide +kernel
theorem dX10_see_50 : decode cX10_see 50 = .ok (.getfield 40, 3) := by decide +kernel
theorem dX10_see_53 : decode cX10_see 53 = .ok (.aload_n 0, 1) := by decide +kernel
theorem dX10_see_54 : decode cX10_see 54 = .ok (.getfield 190, 3) := by decide +kernel
theorem dX10_see_57 : decode cX10_see 57 = .ok (.iload_n 2, 1) := by decide +kernel
theorem dX10_see_58 : decode cX10_see 58 = .ok (.iastore, 1) := by decide +kernel
theorem dX10_see_59 : decode cX10_see 59 = .ok (.aload_n 0, 1) := by decide +kernel
theorem dX10_see_60 : decode cX10_see 60 = .ok (.dup, 1) := by decide +kernel
theorem dX10_see_61 : decode cX10_see 61 = .ok (.getfield 190, 3) := by decide +kernel
theorem dX10_see_64 : decode cX10_see 64 = .ok (.iconst 1, 1) := by decide +kernel
theorem dX10_see_65 : decode cX10_see 65 = .ok (.iadd, 1) := by decide +kernel
theorem dX10_see_66 : decode cX10_see 66 = .ok (.putfield 190, 3) := by decide +kernel
theorem dX10_see_69 : decode cX10_see 69 = .ok (.aload_n 0, 1) := by decide +kernel
theorem dX10_see_70 : decode cX10_see 70 = .ok (.getfield 190, 3) := by decide +kernel
theorem dX10_see_73 : decode cX10_see 73 = .ok (.ireturn, 1) := by decide +kernel
theorem dX10_unsee_0 : decode cX10_unsee 0 = .ok (.aload_n 0, 1) := by decide +kernel
theorem dX10_unsee_1 : decode cX10_unsee 1 = .ok (.getfield 190, 3) := by decide +kernel
theorem dX10_unsee_4 : decode cX10_unsee 4 = .ok (.istore_n 1, 1) := by decide +kernel
theorem dX10_unsee_5 : decode cX10_unsee 5 = .ok (.aload_n 0, 1) := by decide +kernel
theorem dX10_unsee_6 : decode cX10_unsee 6 = .ok (.iconst 0, 1) := by decide +kernel
theorem dX10_unsee_7 : decode cX10_unsee 7 = .ok (.putfield 190, 3) := by decide +kernel
theorem dX10_unsee_10 : decode cX10_unsee 10 = .ok (.iload_n 1, 1) := by decide +kernel
theorem dX10_unsee_11 : decode cX10_unsee 11 = .ok (.ireturn, 1) := by decide +kernel
theorem dX10_nibs_0 : decode cX10_nibs 0 = .ok (.iload_n 1, 1) := by decide +kernel
theorem dX10_nibs_1 : decode cX10_nibs 1 = .ok (.i2l, 1) := by decide +kernel
theorem dX10_nibs_2 : decode cX10_nibs 2 = .ok (.lconst 0, 1) := by decide +kernel
theorem dX10_nibs_3 : decode cX10_nibs 3 = .ok (.lconst 1, 1) := by decide +kernel
theorem dX10_nibs_4 : decode cX10_nibs 4 = .ok (.invokestatic 52, 3) := by decide +kernel
theorem dX10_nibs_7 : decode cX10_nibs 7 = .ok (.ifCond .ne 6, 3) := by decide +kernel
theorem dX10_nibs_10 : decode cX10_nibs 10 = .ok (.bipush (-2), 2) := by decide +kernel
theorem dX10_nibs_12 : decode cX10_nibs 12 = .ok (.ireturn, 1) := by decide +kernel
theorem dX10_nibs_13 : decode cX10_nibs 13 = .ok (.iconst 0, 1) := by decide +kernel
theorem dX10_nibs_14 : decode cX10_nibs 14 = .ok (.istore_n 2, 1) := by decide +kernel
theorem dX10_nibs_15 : decode cX10_nibs 15 = .ok (.bipush (-9), 2) := by decide +kernel
theorem dX10_nibs_17 : decode cX10_nibs 17 = .ok (.istore_n 3, 1) := by decide +kernel
theorem dX10_nibs_18 : decode cX10_nibs 18 = .ok (.iconst 0, 1) := by decide +kernel
theorem dX10_nibs_19 : decode cX10_nibs 19 = .ok (.istore 4, 2) := by decide +kernel
theorem dX10_nibs_21 : decode cX10_nibs 21 = .ok (.iload 4, 2) := by decide +kernel
theorem dX10_nibs_23 : decode cX10_nibs 23 = .ok (.bipush 49, 2) := by decide +kernel
theorem dX10_nibs_25 : decode cX10_nibs 25 = .ok (.if_icmp .ge 155, 3) := by decide +kernel
theorem dX10_nibs_28 : decode cX10_nibs 28 = .ok (.iload 4, 2) := by decide +kernel
theorem dX10_nibs_30 : decode cX10_nibs 30 = .ok (.bipush 7, 2) := by decide +kernel
theorem dX10_nibs_32 : decode cX10_nibs 32 = .ok (.idiv, 1) := by decide +kernel
theorem dX10_nibs_33 : decode cX10_nibs 33 = .ok (.iconst 3, 1) := by decide +kernel
theorem dX10_nibs_34 : decode cX10_nibs 34 = .ok (.isub, 1) := by decide +kernel
theorem dX10_nibs_35 : decode cX10_nibs 35 = .ok (.istore 5, 2) := by decide +kernel
theorem dX10_nibs_37 : decode cX10_nibs 37 = .ok (.iload 4, 2) := by decide +kernel
theorem dX10_nibs_39 : decode cX10_nibs 39 = .ok (.bipush 7, 2) := by decide +kernel
theorem dX10_nibs_41 : decode cX10_nibs 41 = .ok (.irem, 1) := by decide +kernel
theorem dX10_nibs_42 : decode cX10_nibs 42 = .ok (.iconst 3, 1) := by decide +kernel
theorem dX10_nibs_43 : decode cX10_nibs 43 = .ok (.isub, 1) := by decide +kernel
theorem dX10_nibs_44 : decode cX10_nibs 44 = .ok (.istore 6, 2) := by decide +kernel
theorem dX10_nibs_46 : decode cX10_nibs 46 = .ok (.iload 5, 2) := by decide +kernel
theorem dX10_nibs_48 : decode cX10_nibs 48 = .ok (.ifCond .ne 8, 3) := by decide +kernel
theorem dX10_nibs_51 : decode cX10_nibs 51 = .ok (.iload 6, 2) := by decide +kernel
theorem dX10_nibs_53 : decode cX10_nibs 53 = .ok (.ifCond .eq 7, 3) := by decide +kernel
theorem dX10_nibs_56 : decode cX10_nibs 56 = .ok (.iconst 1, 1) := by decide +kernel
theorem dX10_nibs_57 : decode cX10_nibs 57 = .ok (.goto 4, 3) := by decide +kernel
theorem dX10_nibs_60 : decode cX10_nibs 60 = .ok (.iconst 0, 1) := by decide +kernel
theorem dX10_nibs_61 : decode cX10_nibs 61 = .ok (.istore 7, 2) := by decide +kernel
theorem dX10_nibs_63 : decode cX10_nibs 63 = .ok (.iconst 0, 1) := by decide +kernel
theorem dX10_nibs_64 : decode cX10_nibs 64 = .ok (.istore 8, 2) := by decide +kernel
theorem dX10_nibs_66 : decode cX10_nibs 66 = .ok (.iload 8, 2) := by decide +kernel
theorem dX10_nibs_68 : decode cX10_nibs 68 = .ok (.aload_n 0, 1) := by decide +kernel
theorem dX10_nibs_69 : decode cX10_nibs 69 = .ok (.getfield 190, 3) := by decide +kernel
theorem dX10_nibs_72 : decode cX10_nibs 72 = .ok (.if_icmp .ge 61, 3) := by decide +kernel
theorem dX10_nibs_75 : decode cX10_nibs 75 = .ok (.iload 7, 2) := by decide +kernel
theorem dX10_nibs_77 : decode cX10_nibs 77 = .ok (.ifCond .eq 47, 3) := by decide +kernel
theorem dX10_nibs_80 : decode cX10_nibs 80 = .ok (.aload_n 0, 1) := by decide +kernel
theorem dX10_nibs_81 : decode cX10_nibs 81 = .ok (.getfield 37, 3) := by decide +kernel
theorem dX10_nibs_84 : decode cX10_nibs 84 = .ok (.iload 8, 2) := by decide +kernel
theorem dX10_nibs_86 : decode cX10_nibs 86 = .ok (.iaload, 1) := by decide +kernel
theorem dX10_nibs_87 : decode cX10_nibs 87 = .ok (.invokestatic 103, 3) := by decide +kernel
theorem dX10_nibs_90 : decode cX10_nibs 90 = .ok (.iload 6, 2) := by decide +kernel
theorem dX10_nibs_92 : decode cX10_nibs 92 = .ok (.imul, 1) := by decide +kernel
theorem dX10_nibs_93 : decode cX10_nibs 93 = .ok (.aload_n 0, 1) := by decide +kernel
theorem dX10_nibs_94 : decode cX10_nibs 94 = .ok (.getfield 37, 3) := by decide +kernel
theorem dX10_nibs_97 : decode cX10_nibs 97 = .ok (.iload 8, 2) := by decide +kernel
theorem dX10_nibs_99 : decode cX10_nibs 99 = .ok (.iaload, 1) := by decide +kernel
theorem dX10_nibs_100 : decode cX10_nibs 100 = .ok (.invokestatic 107, 3) := by decide +kernel
theorem dX10_nibs_103 : decode cX10_nibs 103 = .ok (.iload 5, 2) := by decide +kernel
theorem dX10_nibs_105 : decode cX10_nibs 105 = .ok (.imul, 1) := by decide +kernel
theorem dX10_nibs_106 : decode cX10_nibs 106 = .ok (.isub, 1) := by decide +kernel
theorem dX10_nibs_107 : decode cX10_nibs 107 = .ok (.invokestatic 112, 3) := by decide +kernel
theorem dX10_nibs_110 : decode cX10_nibs 110 = .ok (.aload_n 0, 1) := by decide +kernel
theorem dX10_nibs_111 : decode cX10_nibs 111 = .ok (.getfield 40, 3) := by decide +kernel
theorem dX10_nibs_114 : decode cX10_nibs 114 = .ok (.iload 8, 2) := by decide +kernel
theorem dX10_nibs_116 : decode cX10_nibs 116 = .ok (.iaload, 1) := by decide +kernel
theorem dX10_nibs_117 : decode cX10_nibs 117 = .ok (.if_icmp .ne 7, 3) := by decide +kernel
theorem dX10_nibs_120 : decode cX10_nibs 120 = .ok (.iconst 1, 1) := by decide +kernel
theorem dX10_nibs_121 : decode cX10_nibs 121 = .ok (.goto 4, 3) := by decide +kernel
theorem dX10_nibs_124 : decode cX10_nibs 124 = .ok (.iconst 0, 1) := by decide +kernel
theorem dX10_nibs_125 : decode cX10_nibs 125 = .ok (.istore 7, 2) := by decide +kernel
theorem dX10_nibs_127 : decode cX10_nibs 127 = .ok (.iinc 8 1, 3) := by decide +kernel
theorem dX10_nibs_130 : decode cX10_nibs 130 = .ok (.goto (-64), 3) := by decide +kernel
theorem dX10_nibs_133 : decode cX10_nibs 133 = .ok (.iload 7, 2) := by decide +kernel
theorem dX10_nibs_135 : decode cX10_nibs 135 = .ok (.ifCond .eq 24, 3) := by decide +kernel
theorem dX10_nibs_138 : decode cX10_nibs 138 = .ok (.iload_n 2, 1) := by decide +kernel
theorem dX10_nibs_139 : decode cX10_nibs 139 = .ok (.ifCond .ne 20, 3) := by decide +kernel
theorem dX10_nibs_142 : decode cX10_nibs 142 = .ok (.bipush 10, 2) := by decide +kernel
theorem dX10_nibs_144 : decode cX10_nibs 144 = .ok (.iload 4, 2) := by decide +kernel
theorem dX10_nibs_146 : decode cX10_nibs 146 = .ok (.bipush 7, 2) := by decide +kernel
theorem dX10_nibs_148 : decode cX10_nibs 148 = .ok (.idiv, 1) := by decide +kernel
theorem dX10_nibs_149 : decode cX10_nibs 149 = .ok (.imul, 1) := by decide +kernel
theorem dX10_nibs_150 : decode cX10_nibs 150 = .ok (.iload 4, 2) := by decide +kernel
theorem dX10_nibs_152 : decode cX10_nibs 152 = .ok (.bipush 7, 2) := by decide +kernel
theorem dX10_nibs_154 : decode cX10_nibs 154 = .ok (.irem, 1) := by decide +kernel
theorem dX10_nibs_155 : decode cX10_nibs 155 = .ok (.iadd, 1) := by decide +kernel
theorem dX10_nibs_156 : decode cX10_nibs 156 = .ok (.goto 4, 3) := by decide +kernel
theorem dX10_nibs_159 : decode cX10_nibs 159 = .ok (.iload_n 3, 1) := by decide +kernel
theorem dX10_nibs_160 : decode cX10_nibs 160 = .ok (.istore_n 3, 1) := by decide +kernel
theorem dX10_nibs_161 : decode cX10_nibs 161 = .ok (.iload_n 2, 1) := by decide +kernel
theorem dX10_nibs_162 : decode cX10_nibs 162 = .ok (.iload 7, 2) := by decide +kernel
theorem dX10_nibs_164 : decode cX10_nibs 164 = .ok (.ifCond .eq 7, 3) := by decide +kernel
theorem dX10_nibs_167 : decode cX10_nibs 167 = .ok (.iconst 1, 1) := by decide +kernel
theorem dX10_nibs_168 : decode cX10_nibs 168 = .ok (.goto 4, 3) := by decide +kernel
theorem dX10_nibs_171 : decode cX10_nibs 171 = .ok (.iconst 0, 1) := by decide +kernel
theorem dX10_nibs_172 : decode cX10_nibs 172 = .ok (.iadd, 1) := by decide +kernel
theorem dX10_nibs_173 : decode cX10_nibs 173 = .ok (.istore_n 2, 1) := by decide +kernel
theorem dX10_nibs_174 : decode cX10_nibs 174 = .ok (.iinc 4 1, 3) := by decide +kernel
theorem dX10_nibs_177 : decode cX10_nibs 177 = .ok (.goto (-156), 3) := by decide +kernel
theorem dX10_nibs_180 : decode cX10_nibs 180 = .ok (.iload_n 1, 1) := by decide +kernel
theorem dX10_nibs_181 : decode cX10_nibs 181 = .ok (.ifCond .ne 7, 3) := by decide +kernel
theorem dX10_nibs_184 : decode cX10_nibs 184 = .ok (.iload_n 2, 1) := by decide +kernel
theorem dX10_nibs_185 : decode cX10_nibs 185 = .ok (.goto 4, 3) := by decide +kernel
theorem dX10_nibs_188 : decode cX10_nibs 188 = .ok (.iload_n 3, 1) := by decide +kernel
theorem dX10_nibs_189 : decode cX10_nibs 189 = .ok (.ireturn, 1) := by decide +kernel
theorem dX10_factorial_0 : decode cX10_factorial 0 = .ok (.iconst 1, 1) := by decide +kernel
theorem dX10_factorial_1 : decode cX10_factorial 1 = .ok (.istore_n 1, 1) := by decide +kernel
theorem dX10_factorial_2 : decode cX10_factorial 2 = .ok (.iconst 2, 1) := by decide +kernel
theorem dX10_factorial_3 : decode cX10_factorial 3 = .ok (.istore_n 2, 1) := by decide +kernel
theorem dX10_factorial_4 : decode cX10_factorial 4 = .ok (.iload_n 2, 1) := by decide +kernel
theorem dX10_factorial_5 : decode cX10_factorial 5 = .ok (.iload_n 0, 1) := by decide +kernel
theorem dX10_factorial_6 : decode cX10_factorial 6 = .ok (.if_icmp .gt 13, 3) := by decide +kernel
theorem dX10_factorial_9 : decode cX10_factorial 9 = .ok (.iload_n 1, 1) := by decide +kernel
theorem dX10_factorial_10 : decode cX10_factorial 10 = .ok (.iload_n 2, 1) := by decide +kernel
theorem dX10_factorial_11 : decode cX10_factorial 11 = .ok (.imul, 1) := by decide +kernel
theorem dX10_factorial_12 : decode cX10_factorial 12 = .ok (.istore_n 1, 1) := by decide +kernel
theorem dX10_factorial_13 : decode cX10_factorial 13 = .ok (.iinc 2 1, 3) := by decide +kernel
theorem dX10_factorial_16 : decode cX10_factorial 16 = .ok (.goto (-12), 3) := by decide +kernel
theorem dX10_factorial_19 : decode cX10_factorial 19 = .ok (.iload_n 1, 1) := by decide +kernel
theorem dX10_factorial_20 : decode cX10_factorial 20 = .ok (.ireturn, 1) := by decide +kernel
theorem dX10_common_0 : decode cX10_common 0 = .ok (.iload_n 0, 1) := by decide +kernel
theorem dX10_common_1 : decode cX10_common 1 = .ok (.ifCond .ge 8, 3) := by decide +kernel
theorem dX10_common_4 : decode cX10_common 4 = .ok (.iload_n 0, 1) := by decide +kernel
theorem dX10_common_5 : decode cX10_common 5 = .ok (.ineg, 1) := by decide +kernel
theorem dX10_common_6 : decode cX10_common 6 = .ok (.goto 4, 3) := by decide +kernel
theorem dX10_common_9 : decode cX10_common 9 = .ok (.iload_n 0, 1) := by decide +kernel
theorem dX10_common_10 : decode cX10_common 10 = .ok (.istore_n 2, 1) := by decide +kernel
theorem dX10_common_11 : decode cX10_common 11 = .ok (.iload_n 1, 1) := by decide +kernel
theorem dX10_common_12 : decode cX10_common 12 = .ok (.istore_n 3, 1) := by decide +kernel
theorem dX10_common_13 : decode cX10_common 13 = .ok (.iload_n 3, 1) := by decide +kernel
theorem dX10_common_14 : decode cX10_common 14 = .ok (.ifCond .eq 16, 3) := by decide +kernel
theorem dX10_common_17 : decode cX10_common 17 = .ok (.iload_n 2, 1) := by decide +kernel
theorem dX10_common_18 : decode cX10_common 18 = .ok (.iload_n 3, 1) := by decide +kernel
theorem dX10_common_19 : decode cX10_common 19 = .ok (.irem, 1) := by decide +kernel
theorem dX10_common_20 : decode cX10_common 20 = .ok (.istore 4, 2) := by decide +kernel
theorem dX10_common_22 : decode cX10_common 22 = .ok (.iload_n 3, 1) := by decide +kernel
theorem dX10_common_23 : decode cX10_common 23 = .ok (.istore_n 2, 1) := by decide +kernel
theorem dX10_common_24 : decode cX10_common 24 = .ok (.iload 4, 2) := by decide +kernel
theorem dX10_common_26 : decode cX10_common 26 = .ok (.istore_n 3, 1) := by decide +kernel
theorem dX10_common_27 : decode cX10_common 27 = .ok (.goto (-14), 3) := by decide +kernel
theorem dX10_common_30 : decode cX10_common 30 = .ok (.iload_n 2, 1) := by decide +kernel
theorem dX10_common_31 : decode cX10_common 31 = .ok (.ireturn, 1) := by decide +kernel
theorem dX10_blackBy_0 : decode cX10_blackBy 0 = .ok (.aload_n 0, 1) := by decide +kernel
theorem dX10_blackBy_1 : decode cX10_blackBy 1 = .ok (.invokevirtual 140, 3) := by decide +kernel
theorem dX10_blackBy_4 : decode cX10_blackBy 4 = .ok (.iconst 0, 1) := by decide +kernel
theorem dX10_blackBy_5 : decode cX10_blackBy 5 = .ok (.istore_n 2, 1) := by decide +kernel
theorem dX10_blackBy_6 : decode cX10_blackBy 6 = .ok (.iload_n 2, 1) := by decide +kernel
theorem dX10_blackBy_7 : decode cX10_blackBy 7 = .ok (.aload_n 0, 1) := by decide +kernel
theorem dX10_blackBy_8 : decode cX10_blackBy 8 = .ok (.getfield 84, 3) := by decide +kernel
theorem dX10_blackBy_11 : decode cX10_blackBy 11 = .ok (.if_icmp .ge 27, 3) := by decide +kernel
theorem dX10_blackBy_14 : decode cX10_blackBy 14 = .ok (.iload_n 1, 1) := by decide +kernel
theorem dX10_blackBy_15 : decode cX10_blackBy 15 = .ok (.iload_n 2, 1) := by decide +kernel
theorem dX10_blackBy_16 : decode cX10_blackBy 16 = .ok (.invokestatic 126, 3) := by decide +kernel
theorem dX10_blackBy_19 : decode cX10_blackBy 19 = .ok (.ifCond .eq 13, 3) := by decide +kernel
theorem dX10_blackBy_22 : decode cX10_blackBy 22 = .ok (.aload_n 0, 1) := by decide +kernel
theorem dX10_blackBy_23 : decode cX10_blackBy 23 = .ok (.iconst 1, 1) := by decide +kernel
theorem dX10_blackBy_24 : decode cX10_blackBy 24 = .ok (.iload_n 2, 1) := by decide +kernel
theorem dX10_blackBy_25 : decode cX10_blackBy 25 = .ok (.bipush 8, 2) := by decide +kernel
theorem dX10_blackBy_27 : decode cX10_blackBy 27 = .ok (.iconst 0, 1) := by decide +kernel
theorem dX10_blackBy_28 : decode cX10_blackBy 28 = .ok (.invokevirtual 143, 3) := by decide +kernel
theorem dX10_blackBy_31 : decode cX10_blackBy 31 = .ok (.pop, 1) := by decide +kernel
theorem dX10_blackBy_32 : decode cX10_blackBy 32 = .ok (.iinc 2 1, 3) := by decide +kernel
theorem dX10_blackBy_35 : decode cX10_blackBy 35 = .ok (.goto (-29), 3) := by decide +kernel
theorem dX10_blackBy_38 : decode cX10_blackBy 38 = .ok (.aload_n 0, 1) := by decide +kernel
theorem dX10_blackBy_39 : decode cX10_blackBy 39 = .ok (.iconst 1, 1) := by decide +kernel
theorem dX10_blackBy_40 : decode cX10_blackBy 40 = .ok (.invokevirtual 193, 3) := by decide +kernel
theorem dX10_blackBy_43 : decode cX10_blackBy 43 = .ok (.invokestatic 196, 3) := by decide +kernel
theorem dX10_blackBy_46 : decode cX10_blackBy 46 = .ok (.ireturn, 1) := by decide +kernel
theorem dX10_share_0 : decode cX10_share 0 = .ok (.aload_n 0, 1) := by decide +kernel
theorem dX10_share_1 : decode cX10_share 1 = .ok (.iload_n 1, 1) := by decide +kernel
theorem dX10_share_2 : decode cX10_share 2 = .ok (.invokevirtual 115, 3) := by decide +kernel
theorem dX10_share_5 : decode cX10_share 5 = .ok (.ifCond .ne 5, 3) := by decide +kernel
theorem dX10_share_8 : decode cX10_share 8 = .ok (.iconst (-1), 1) := by decide +kernel
theorem dX10_share_9 : decode cX10_share 9 = .ok (.ireturn, 1) := by decide +kernel
theorem dX10_share_10 : decode cX10_share 10 = .ok (.iconst 0, 1) := by decide +kernel
theorem dX10_share_11 : decode cX10_share 11 = .ok (.istore_n 3, 1) := by decide +kernel
theorem dX10_share_12 : decode cX10_share 12 = .ok (.iconst 0, 1) := by decide +kernel
theorem dX10_share_13 : decode cX10_share 13 = .ok (.istore 4, 2) := by decide +kernel
theorem dX10_share_15 : decode cX10_share 15 = .ok (.iload 4, 2) := by decide +kernel
theorem dX10_share_17 : decode cX10_share 17 = .ok (.iconst 1, 1) := by decide +kernel
theorem dX10_share_18 : decode cX10_share 18 = .ok (.aload_n 0, 1) := by decide +kernel
theorem dX10_share_19 : decode cX10_share 19 = .ok (.getfield 84, 3) := by decide +kernel
theorem dX10_share_22 : decode cX10_share 22 = .ok (.ishl, 1) := by decide +kernel
theorem dX10_share_23 : decode cX10_share 23 = .ok (.if_icmp .ge 67, 3) := by decide +kernel
theorem dX10_share_26 : decode cX10_share 26 = .ok (.iload 4, 2) := by decide +kernel
theorem dX10_share_28 : decode cX10_share 28 = .ok (.iload_n 1, 1) := by decide +kernel
theorem dX10_share_29 : decode cX10_share 29 = .ok (.invokestatic 126, 3) := by decide +kernel
theorem dX10_share_32 : decode cX10_share 32 = .ok (.ifCond .ne 52, 3) := by decide +kernel
theorem dX10_share_35 : decode cX10_share 35 = .ok (.iload 4, 2) := by decide +kernel
theorem dX10_share_37 : decode cX10_share 37 = .ok (.invokestatic 196, 3) := by decide +kernel
theorem dX10_share_40 : decode cX10_share 40 = .ok (.invokestatic 199, 3) := by decide +kernel
theorem dX10_share_43 : decode cX10_share 43 = .ok (.aload_n 0, 1) := by decide +kernel
theorem dX10_share_44 : decode cX10_share 44 = .ok (.getfield 84, 3) := by decide +kernel
theorem dX10_share_47 : decode cX10_share 47 = .ok (.iconst 1, 1) := by decide +kernel
theorem dX10_share_48 : decode cX10_share 48 = .ok (.isub, 1) := by decide +kernel
theorem dX10_share_49 : decode cX10_share 49 = .ok (.iload 4, 2) := by decide +kernel
theorem dX10_share_51 : decode cX10_share 51 = .ok (.invokestatic 196, 3) := by decide +kernel
theorem dX10_share_54 : decode cX10_share 54 = .ok (.isub, 1) := by decide +kernel
theorem dX10_share_55 : decode cX10_share 55 = .ok (.invokestatic 199, 3) := by decide +kernel
theorem dX10_share_58 : decode cX10_share 58 = .ok (.imul, 1) := by decide +kernel
theorem dX10_share_59 : decode cX10_share 59 = .ok (.istore 5, 2) := by decide +kernel
theorem dX10_share_61 : decode cX10_share 61 = .ok (.iload_n 3, 1) := by decide +kernel
theorem dX10_share_62 : decode cX10_share 62 = .ok (.iload 5, 2) := by decide +kernel
theorem dX10_share_64 : decode cX10_share 64 = .ok (.aload_n 0, 1) := by decide +kernel
theorem dX10_share_65 : decode cX10_share 65 = .ok (.iload 4, 2) := by decide +kernel
theorem dX10_share_67 : decode cX10_share 67 = .ok (.iconst 1, 1) := by decide +kernel
theorem dX10_share_68 : decode cX10_share 68 = .ok (.iload_n 1, 1) := by decide +kernel
theorem dX10_share_69 : decode cX10_share 69 = .ok (.ishl, 1) := by decide +kernel
theorem dX10_share_70 : decode cX10_share 70 = .ok (.ior, 1) := by decide +kernel
theorem dX10_share_71 : decode cX10_share 71 = .ok (.invokevirtual 202, 3) := by decide +kernel
theorem dX10_share_74 : decode cX10_share 74 = .ok (.aload_n 0, 1) := by decide +kernel
theorem dX10_share_75 : decode cX10_share 75 = .ok (.iload 4, 2) := by decide +kernel
theorem dX10_share_77 : decode cX10_share 77 = .ok (.invokevirtual 202, 3) := by decide +kernel
theorem dX10_share_80 : decode cX10_share 80 = .ok (.isub, 1) := by decide +kernel
theorem dX10_share_81 : decode cX10_share 81 = .ok (.imul, 1) := by decide +kernel
theorem dX10_share_82 : decode cX10_share 82 = .ok (.iadd, 1) := by decide +kernel
theorem dX10_share_83 : decode cX10_share 83 = .ok (.istore_n 3, 1) := by decide +kernel
theorem dX10_share_84 : decode cX10_share 84 = .ok (.iinc 4 1, 3) := by decide +kernel
theorem dX10_share_87 : decode cX10_share 87 = .ok (.goto (-72), 3) := by decide +kernel
theorem dX10_share_90 : decode cX10_share 90 = .ok (.iload_n 3, 1) := by decide +kernel
theorem dX10_share_91 : decode cX10_share 91 = .ok (.aload_n 0, 1) := by decide +kernel
theorem dX10_share_92 : decode cX10_share 92 = .ok (.getfield 84, 3) := by decide +kernel
theorem dX10_share_95 : decode cX10_share 95 = .ok (.invokestatic 199, 3) := by decide +kernel
theorem dX10_share_98 : decode cX10_share 98 = .ok (.invokestatic 205, 3) := by decide +kernel
theorem dX10_share_101 : decode cX10_share 101 = .ok (.istore 4, 2) := by decide +kernel
theorem dX10_share_103 : decode cX10_share 103 = .ok (.iload_n 2, 1) := by decide +kernel
theorem dX10_share_104 : decode cX10_share 104 = .ok (.ifCond .eq 10, 3) := by decide +kernel
theorem dX10_share_107 : decode cX10_share 107 = .ok (.iload_n 3, 1) := by decide +kernel
theorem dX10_share_108 : decode cX10_share 108 = .ok (.iload 4, 2) := by decide +kernel
theorem dX10_share_110 : decode cX10_share 110 = .ok (.idiv, 1) := by decide +kernel
theorem dX10_share_111 : decode cX10_share 111 = .ok (.goto 13, 3) := by decide +kernel
theorem dX10_share_114 : decode cX10_share 114 = .ok (.aload_n 0, 1) := by decide +kernel
theorem dX10_share_115 : decode cX10_share 115 = .ok (.getfield 84, 3) := by decide +kernel
theorem dX10_share_118 : decode cX10_share 118 = .ok (.invokestatic 199, 3) := by decide +kernel
theorem dX10_share_121 : decode cX10_share 121 = .ok (.iload 4, 2) := by decide +kernel
theorem dX10_share_123 : decode cX10_share 123 = .ok (.idiv, 1) := by decide +kernel
theorem dX10_share_124 : decode cX10_share 124 = .ok (.ireturn, 1) := by decide +kernel
theorem dX10_gain_0 : decode cX10_gain 0 = .ok (.aload_n 0, 1) := by decide +kernel
theorem dX10_gain_1 : decode cX10_gain 1 = .ok (.invokevirtual 140, 3) := by decide +kernel
theorem dX10_gain_4 : decode cX10_gain 4 = .ok (.iload_n 3, 1) := by decide +kernel
theorem dX10_gain_5 : decode cX10_gain 5 = .ok (.iconst 1, 1) := by decide +kernel
theorem dX10_gain_6 : decode cX10_gain 6 = .ok (.if_icmp .ne 13, 3) := by decide +kernel
theorem dX10_gain_9 : decode cX10_gain 9 = .ok (.aload_n 0, 1) := by decide +kernel
theorem dX10_gain_10 : decode cX10_gain 10 = .ok (.iconst 1, 1) := by decide +kernel
theorem dX10_gain_11 : decode cX10_gain 11 = .ok (.iload_n 1, 1) := by decide +kernel
theorem dX10_gain_12 : decode cX10_gain 12 = .ok (.bipush 8, 2) := by decide +kernel
theorem dX10_gain_14 : decode cX10_gain 14 = .ok (.iconst 0, 1) := by decide +kernel
theorem dX10_gain_15 : decode cX10_gain 15 = .ok (.invokevirtual 143, 3) := by decide +kernel
theorem dX10_gain_18 : decode cX10_gain 18 = .ok (.pop, 1) := by decide +kernel
theorem dX10_gain_19 : decode cX10_gain 19 = .ok (.iload 4, 2) := by decide +kernel
theorem dX10_gain_21 : decode cX10_gain 21 = .ok (.iconst 1, 1) := by decide +kernel
theorem dX10_gain_22 : decode cX10_gain 22 = .ok (.if_icmp .ne 13, 3) := by decide +kernel
theorem dX10_gain_25 : decode cX10_gain 25 = .ok (.aload_n 0, 1) := by decide +kernel
theorem dX10_gain_26 : decode cX10_gain 26 = .ok (.iconst 1, 1) := by decide +kernel
theorem dX10_gain_27 : decode cX10_gain 27 = .ok (.iload_n 2, 1) := by decide +kernel
theorem dX10_gain_28 : decode cX10_gain 28 = .ok (.bipush 8, 2) := by decide +kernel
theorem dX10_gain_30 : decode cX10_gain 30 = .ok (.iconst 0, 1) := by decide +kernel
theorem dX10_gain_31 : decode cX10_gain 31 = .ok (.invokevirtual 143, 3) := by decide +kernel
theorem dX10_gain_34 : decode cX10_gain 34 = .ok (.pop, 1) := by decide +kernel
theorem dX10_gain_35 : decode cX10_gain 35 = .ok (.aload_n 0, 1) := by decide +kernel
theorem dX10_gain_36 : decode cX10_gain 36 = .ok (.getfield 16, 3) := by decide +kernel
theorem dX10_gain_39 : decode cX10_gain 39 = .ok (.bipush 55, 2) := by decide +kernel
theorem dX10_gain_41 : decode cX10_gain 41 = .ok (.iload 5, 2) := by decide +kernel
theorem dX10_gain_43 : decode cX10_gain 43 = .ok (.iadd, 1) := by decide +kernel
theorem dX10_gain_44 : decode cX10_gain 44 = .ok (.iaload, 1) := by decide +kernel
theorem dX10_gain_45 : decode cX10_gain 45 = .ok (.iconst 2, 1) := by decide +kernel
theorem dX10_gain_46 : decode cX10_gain 46 = .ok (.aload_n 0, 1) := by decide +kernel
theorem dX10_gain_47 : decode cX10_gain 47 = .ok (.iconst 1, 1) := by decide +kernel
theorem dX10_gain_48 : decode cX10_gain 48 = .ok (.invokevirtual 193, 3) := by decide +kernel
theorem dX10_gain_51 : decode cX10_gain 51 = .ok (.invokestatic 196, 3) := by decide +kernel
theorem dX10_gain_54 : decode cX10_gain 54 = .ok (.imul, 1) := by decide +kernel
theorem dX10_gain_55 : decode cX10_gain 55 = .ok (.iadd, 1) := by decide +kernel
theorem dX10_gain_56 : decode cX10_gain 56 = .ok (.ireturn, 1) := by decide +kernel
theorem dX10_isRest_0 : decode cX10_isRest 0 = .ok (.aload_n 0, 1) := by decide +kernel
theorem dX10_isRest_1 : decode cX10_isRest 1 = .ok (.iload_n 1, 1) := by decide +kernel
theorem dX10_isRest_2 : decode cX10_isRest 2 = .ok (.iload_n 2, 1) := by decide +kernel
theorem dX10_isRest_3 : decode cX10_isRest 3 = .ok (.iconst 1, 1) := by decide +kernel
theorem dX10_isRest_4 : decode cX10_isRest 4 = .ok (.iload_n 3, 1) := by decide +kernel
theorem dX10_isRest_5 : decode cX10_isRest 5 = .ok (.isub, 1) := by decide +kernel
theorem dX10_isRest_6 : decode cX10_isRest 6 = .ok (.iload 4, 2) := by decide +kernel
theorem dX10_isRest_8 : decode cX10_isRest 8 = .ok (.iload_n 1, 1) := by decide +kernel
theorem dX10_isRest_9 : decode cX10_isRest 9 = .ok (.invokevirtual 208, 3) := by decide +kernel
theorem dX10_isRest_12 : decode cX10_isRest 12 = .ok (.aload_n 0, 1) := by decide +kernel
theorem dX10_isRest_13 : decode cX10_isRest 13 = .ok (.iload_n 1, 1) := by decide +kernel
theorem dX10_isRest_14 : decode cX10_isRest 14 = .ok (.iload_n 2, 1) := by decide +kernel
theorem dX10_isRest_15 : decode cX10_isRest 15 = .ok (.iload_n 3, 1) := by decide +kernel
theorem dX10_isRest_16 : decode cX10_isRest 16 = .ok (.iload 4, 2) := by decide +kernel
theorem dX10_isRest_18 : decode cX10_isRest 18 = .ok (.iload_n 1, 1) := by decide +kernel
theorem dX10_isRest_19 : decode cX10_isRest 19 = .ok (.invokevirtual 208, 3) := by decide +kernel
theorem dX10_isRest_22 : decode cX10_isRest 22 = .ok (.if_icmp .gt 32, 3) := by decide +kernel
theorem dX10_isRest_25 : decode cX10_isRest 25 = .ok (.aload_n 0, 1) := by decide +kernel
theorem dX10_isRest_26 : decode cX10_isRest 26 = .ok (.iload_n 1, 1) := by decide +kernel
theorem dX10_isRest_27 : decode cX10_isRest 27 = .ok (.iload_n 2, 1) := by decide +kernel
theorem dX10_isRest_28 : decode cX10_isRest 28 = .ok (.iload_n 3, 1) := by decide +kernel
theorem dX10_isRest_29 : decode cX10_isRest 29 = .ok (.iconst 1, 1) := by decide +kernel
theorem dX10_isRest_30 : decode cX10_isRest 30 = .ok (.iload 4, 2) := by decide +kernel
theorem dX10_isRest_32 : decode cX10_isRest 32 = .ok (.isub, 1) := by decide +kernel
theorem dX10_isRest_33 : decode cX10_isRest 33 = .ok (.iload_n 2, 1) := by decide +kernel
theorem dX10_isRest_34 : decode cX10_isRest 34 = .ok (.invokevirtual 208, 3) := by decide +kernel
theorem dX10_isRest_37 : decode cX10_isRest 37 = .ok (.aload_n 0, 1) := by decide +kernel
theorem dX10_isRest_38 : decode cX10_isRest 38 = .ok (.iload_n 1, 1) := by decide +kernel
theorem dX10_isRest_39 : decode cX10_isRest 39 = .ok (.iload_n 2, 1) := by decide +kernel
theorem dX10_isRest_40 : decode cX10_isRest 40 = .ok (.iload_n 3, 1) := by decide +kernel
theorem dX10_isRest_41 : decode cX10_isRest 41 = .ok (.iload 4, 2) := by decide +kernel
theorem dX10_isRest_43 : decode cX10_isRest 43 = .ok (.iload_n 2, 1) := by decide +kernel
theorem dX10_isRest_44 : decode cX10_isRest 44 = .ok (.invokevirtual 208, 3) := by decide +kernel
theorem dX10_isRest_47 : decode cX10_isRest 47 = .ok (.if_icmp .gt 7, 3) := by decide +kernel
theorem dX10_isRest_50 : decode cX10_isRest 50 = .ok (.iconst 1, 1) := by decide +kernel
theorem dX10_isRest_51 : decode cX10_isRest 51 = .ok (.goto 4, 3) := by decide +kernel
theorem dX10_isRest_54 : decode cX10_isRest 54 = .ok (.iconst 0, 1) := by decide +kernel
theorem dX10_isRest_55 : decode cX10_isRest 55 = .ok (.ireturn, 1) := by decide +kernel
theorem dX10_rests_0 : decode cX10_rests 0 = .ok (.aload_n 0, 1) := by decide +kernel
theorem dX10_rests_1 : decode cX10_rests 1 = .ok (.iload_n 1, 1) := by decide +kernel
theorem dX10_rests_2 : decode cX10_rests 2 = .ok (.invokevirtual 115, 3) := by decide +kernel
theorem dX10_rests_5 : decode cX10_rests 5 = .ok (.ifCond .eq 11, 3) := by decide +kernel
theorem dX10_rests_8 : decode cX10_rests 8 = .ok (.aload_n 0, 1) := by decide +kernel
theorem dX10_rests_9 : decode cX10_rests 9 = .ok (.iload_n 2, 1) := by decide +kernel
theorem dX10_rests_10 : decode cX10_rests 10 = .ok (.invokevirtual 115, 3) := by decide +kernel
theorem dX10_rests_13 : decode cX10_rests 13 = .ok (.ifCond .ne 5, 3) := by decide +kernel
theorem dX10_rests_16 : decode cX10_rests 16 = .ok (.iconst (-1), 1) := by decide +kernel
theorem dX10_rests_17 : decode cX10_rests 17 = .ok (.ireturn, 1) := by decide +kernel
theorem dX10_rests_18 : decode cX10_rests 18 = .ok (.iload_n 1, 1) := by decide +kernel
theorem dX10_rests_19 : decode cX10_rests 19 = .ok (.iload_n 2, 1) := by decide +kernel
theorem dX10_rests_20 : decode cX10_rests 20 = .ok (.if_icmp .eq 13, 3) := by decide +kernel
theorem dX10_rests_23 : decode cX10_rests 23 = .ok (.iload_n 3, 1) := by decide +kernel
theorem dX10_rests_24 : decode cX10_rests 24 = .ok (.i2l, 1) := by decide +kernel
theorem dX10_rests_25 : decode cX10_rests 25 = .ok (.lconst 0, 1) := by decide +kernel
theorem dX10_rests_26 : decode cX10_rests 26 = .ok (.lconst 1, 1) := by decide +kernel
theorem dX10_rests_27 : decode cX10_rests 27 = .ok (.invokestatic 52, 3) := by decide +kernel
theorem dX10_rests_30 : decode cX10_rests 30 = .ok (.ifCond .ne 6, 3) := by decide +kernel
theorem dX10_rests_33 : decode cX10_rests 33 = .ok (.bipush (-2), 2) := by decide +kernel
theorem dX10_rests_35 : decode cX10_rests 35 = .ok (.ireturn, 1) := by decide +kernel
theorem dX10_rests_36 : decode cX10_rests 36 = .ok (.iconst 0, 1) := by decide +kernel
theorem dX10_rests_37 : decode cX10_rests 37 = .ok (.istore 4, 2) := by decide +kernel
theorem dX10_rests_39 : decode cX10_rests 39 = .ok (.bipush (-9), 2) := by decide +kernel
theorem dX10_rests_41 : decode cX10_rests 41 = .ok (.istore 5, 2) := by decide +kernel
theorem dX10_rests_43 : decode cX10_rests 43 = .ok (.iconst 0, 1) := by decide +kernel
theorem dX10_rests_44 : decode cX10_rests 44 = .ok (.istore 6, 2) := by decide +kernel
theorem dX10_rests_46 : decode cX10_rests 46 = .ok (.iload 6, 2) := by decide +kernel
theorem dX10_rests_48 : decode cX10_rests 48 = .ok (.iconst 4, 1) := by decide +kernel
theorem dX10_rests_49 : decode cX10_rests 49 = .ok (.if_icmp .ge 53, 3) := by decide +kernel
theorem dX10_rests_52 : decode cX10_rests 52 = .ok (.aload_n 0, 1) := by decide +kernel
theorem dX10_rests_53 : decode cX10_rests 53 = .ok (.iload_n 1, 1) := by decide +kernel
theorem dX10_rests_54 : decode cX10_rests 54 = .ok (.iload_n 2, 1) := by decide +kernel
theorem dX10_rests_55 : decode cX10_rests 55 = .ok (.iload 6, 2) := by decide +kernel
theorem dX10_rests_57 : decode cX10_rests 57 = .ok (.iconst 2, 1) := by decide +kernel
theorem dX10_rests_58 : decode cX10_rests 58 = .ok (.idiv, 1) := by decide +kernel
theorem dX10_rests_59 : decode cX10_rests 59 = .ok (.iload 6, 2) := by decide +kernel
theorem dX10_rests_61 : decode cX10_rests 61 = .ok (.iconst 2, 1) := by decide +kernel
theorem dX10_rests_62 : decode cX10_rests 62 = .ok (.irem, 1) := by decide +kernel
theorem dX10_rests_63 : decode cX10_rests 63 = .ok (.invokevirtual 212, 3) := by decide +kernel
theorem dX10_rests_66 : decode cX10_rests 66 = .ok (.ifCond .eq 30, 3) := by decide +kernel
theorem dX10_rests_69 : decode cX10_rests 69 = .ok (.iload 4, 2) := by decide +kernel
theorem dX10_rests_71 : decode cX10_rests 71 = .ok (.ifCond .ne 18, 3) := by decide +kernel
theorem dX10_rests_74 : decode cX10_rests 74 = .ok (.bipush 10, 2) := by decide +kernel
theorem dX10_rests_76 : decode cX10_rests 76 = .ok (.iload 6, 2) := by decide +kernel
theorem dX10_rests_78 : decode cX10_rests 78 = .ok (.iconst 2, 1) := by decide +kernel
theorem dX10_rests_79 : decode cX10_rests 79 = .ok (.idiv, 1) := by decide +kernel
theorem dX10_rests_80 : decode cX10_rests 80 = .ok (.imul, 1) := by decide +kernel
theorem dX10_rests_81 : decode cX10_rests 81 = .ok (.iload 6, 2) := by decide +kernel
theorem dX10_rests_83 : decode cX10_rests 83 = .ok (.iconst 2, 1) := by decide +kernel
theorem dX10_rests_84 : decode cX10_rests 84 = .ok (.irem, 1) := by decide +kernel
theorem dX10_rests_85 : decode cX10_rests 85 = .ok (.iadd, 1) := by decide +kernel
theorem dX10_rests_86 : decode cX10_rests 86 = .ok (.goto 5, 3) := by decide +kernel
theorem dX10_rests_89 : decode cX10_rests 89 = .ok (.iload 5, 2) := by decide +kernel
theorem dX10_rests_91 : decode cX10_rests 91 = .ok (.istore 5, 2) := by decide +kernel
theorem dX10_rests_93 : decode cX10_rests 93 = .ok (.iinc 4 1, 3) := by decide +kernel
theorem dX10_rests_96 : decode cX10_rests 96 = .ok (.iinc 6 1, 3) := by decide +kernel
theorem dX10_rests_99 : decode cX10_rests 99 = .ok (.goto (-53), 3) := by decide +kernel
theorem dX10_rests_102 : decode cX10_rests 102 = .ok (.iload_n 3, 1) := by decide +kernel
theorem dX10_rests_103 : decode cX10_rests 103 = .ok (.ifCond .ne 8, 3) := by decide +kernel
theorem dX10_rests_106 : decode cX10_rests 106 = .ok (.iload 4, 2) := by decide +kernel
theorem dX10_rests_108 : decode cX10_rests 108 = .ok (.goto 5, 3) := by decide +kernel
theorem dX10_rests_111 : decode cX10_rests 111 = .ok (.iload 5, 2) := by decide +kernel
theorem dX10_rests_113 : decode cX10_rests 113 = .ok (.ireturn, 1) := by decide +kernel
theorem dX10_skipped_0 : decode cX10_skipped 0 = .ok (.aload_n 0, 1) := by decide +kernel
theorem dX10_skipped_1 : decode cX10_skipped 1 = .ok (.iload_n 1, 1) := by decide +kernel
theorem dX10_skipped_2 : decode cX10_skipped 2 = .ok (.invokevirtual 115, 3) := by decide +kernel
theorem dX10_skipped_5 : decode cX10_skipped 5 = .ok (.ifCond .ne 5, 3) := by decide +kernel
theorem dX10_skipped_8 : decode cX10_skipped 8 = .ok (.iconst (-1), 1) := by decide +kernel
theorem dX10_skipped_9 : decode cX10_skipped 9 = .ok (.ireturn, 1) := by decide +kernel
theorem dX10_skipped_10 : decode cX10_skipped 10 = .ok (.iload_n 2, 1) := by decide +kernel
theorem dX10_skipped_11 : decode cX10_skipped 11 = .ok (.i2l, 1) := by decide +kernel
theorem dX10_skipped_12 : decode cX10_skipped 12 = .ok (.lconst 0, 1) := by decide +kernel
theorem dX10_skipped_13 : decode cX10_skipped 13 = .ok (.ldc2_w 216, 3) := by decide +kernel
theorem dX10_skipped_16 : decode cX10_skipped 16 = .ok (.invokestatic 52, 3) := by decide +kernel
theorem dX10_skipped_19 : decode cX10_skipped 19 = .ok (.ifCond .eq 15, 3) := by decide +kernel
theorem dX10_skipped_22 : decode cX10_skipped 22 = .ok (.iload_n 3, 1) := by decide +kernel
theorem dX10_skipped_23 : decode cX10_skipped 23 = .ok (.i2l, 1) := by decide +kernel
theorem dX10_skipped_24 : decode cX10_skipped 24 = .ok (.lconst 0, 1) := by decide +kernel
theorem dX10_skipped_25 : decode cX10_skipped 25 = .ok (.ldc2_w 90, 3) := by decide +kernel
theorem dX10_skipped_28 : decode cX10_skipped 28 = .ok (.invokestatic 52, 3) := by decide +kernel
theorem dX10_skipped_31 : decode cX10_skipped 31 = .ok (.ifCond .ne 6, 3) := by decide +kernel
theorem dX10_skipped_34 : decode cX10_skipped 34 = .ok (.bipush (-2), 2) := by decide +kernel
theorem dX10_skipped_36 : decode cX10_skipped 36 = .ok (.ireturn, 1) := by decide +kernel
theorem dX10_skipped_37 : decode cX10_skipped 37 = .ok (.iconst 0, 1) := by decide +kernel
theorem dX10_skipped_38 : decode cX10_skipped 38 = .ok (.istore 5, 2) := by decide +kernel
theorem dX10_skipped_40 : decode cX10_skipped 40 = .ok (.iconst 0, 1) := by decide +kernel
theorem dX10_skipped_41 : decode cX10_skipped 41 = .ok (.istore 6, 2) := by decide +kernel
theorem dX10_skipped_43 : decode cX10_skipped 43 = .ok (.iconst 0, 1) := by decide +kernel
theorem dX10_skipped_44 : decode cX10_skipped 44 = .ok (.istore 7, 2) := by decide +kernel
theorem dX10_skipped_46 : decode cX10_skipped 46 = .ok (.iload 7, 2) := by decide +kernel
theorem dX10_skipped_48 : decode cX10_skipped 48 = .ok (.iconst 1, 1) := by decide +kernel
theorem dX10_skipped_49 : decode cX10_skipped 49 = .ok (.aload_n 0, 1) := by decide +kernel
theorem dX10_skipped_50 : decode cX10_skipped 50 = .ok (.getfield 100, 3) := by decide +kernel
theorem dX10_skipped_53 : decode cX10_skipped 53 = .ok (.ishl, 1) := by decide +kernel
theorem dX10_skipped_54 : decode cX10_skipped 54 = .ok (.if_icmp .ge 89, 3) := by decide +kernel
theorem dX10_skipped_57 : decode cX10_skipped 57 = .ok (.iconst 1, 1) := by decide +kernel
theorem dX10_skipped_58 : decode cX10_skipped 58 = .ok (.istore 8, 2) := by decide +kernel
theorem dX10_skipped_60 : decode cX10_skipped 60 = .ok (.iconst 0, 1) := by decide +kernel
theorem dX10_skipped_61 : decode cX10_skipped 61 = .ok (.istore 9, 2) := by decide +kernel
theorem dX10_skipped_63 : decode cX10_skipped 63 = .ok (.iload 9, 2) := by decide +kernel
theorem dX10_skipped_65 : decode cX10_skipped 65 = .ok (.aload_n 0, 1) := by decide +kernel
theorem dX10_skipped_66 : decode cX10_skipped 66 = .ok (.getfield 100, 3) := by decide +kernel
theorem dX10_skipped_69 : decode cX10_skipped 69 = .ok (.if_icmp .ge 32, 3) := by decide +kernel
theorem dX10_skipped_72 : decode cX10_skipped 72 = .ok (.iload 8, 2) := by decide +kernel
theorem dX10_skipped_74 : decode cX10_skipped 74 = .ok (.iload 7, 2) := by decide +kernel
theorem dX10_skipped_76 : decode cX10_skipped 76 = .ok (.iload 9, 2) := by decide +kernel
theorem dX10_skipped_78 : decode cX10_skipped 78 = .ok (.invokestatic 126, 3) := by decide +kernel
theorem dX10_skipped_81 : decode cX10_skipped 81 = .ok (.ifCond .eq 7, 3) := by decide +kernel
theorem dX10_skipped_84 : decode cX10_skipped 84 = .ok (.iload_n 3, 1) := by decide +kernel
theorem dX10_skipped_85 : decode cX10_skipped 85 = .ok (.goto 7, 3) := by decide +kernel
theorem dX10_skipped_88 : decode cX10_skipped 88 = .ok (.bipush 10, 2) := by decide +kernel
theorem dX10_skipped_90 : decode cX10_skipped 90 = .ok (.iload_n 3, 1) := by decide +kernel
theorem dX10_skipped_91 : decode cX10_skipped 91 = .ok (.isub, 1) := by decide +kernel
theorem dX10_skipped_92 : decode cX10_skipped 92 = .ok (.imul, 1) := by decide +kernel
theorem dX10_skipped_93 : decode cX10_skipped 93 = .ok (.istore 8, 2) := by decide +kernel
theorem dX10_skipped_95 : decode cX10_skipped 95 = .ok (.iinc 9 1, 3) := by decide +kernel
theorem dX10_skipped_98 : decode cX10_skipped 98 = .ok (.goto (-35), 3) := by decide +kernel
theorem dX10_skipped_101 : decode cX10_skipped 101 = .ok (.aload_n 0, 1) := by decide +kernel
theorem dX10_skipped_102 : decode cX10_skipped 102 = .ok (.invokevirtual 140, 3) := by decide +kernel
theorem dX10_skipped_105 : decode cX10_skipped 105 = .ok (.iload 6, 2) := by decide +kernel
theorem dX10_skipped_107 : decode cX10_skipped 107 = .ok (.iload 8, 2) := by decide +kernel
theorem dX10_skipped_109 : decode cX10_skipped 109 = .ok (.iadd, 1) := by decide +kernel
theorem dX10_skipped_110 : decode cX10_skipped 110 = .ok (.istore 6, 2) := by decide +kernel
theorem dX10_skipped_112 : decode cX10_skipped 112 = .ok (.iload 5, 2) := by decide +kernel
theorem dX10_skipped_114 : decode cX10_skipped 114 = .ok (.aload_n 0, 1) := by decide +kernel
theorem dX10_skipped_115 : decode cX10_skipped 115 = .ok (.iconst 1, 1) := by decide +kernel
theorem dX10_skipped_116 : decode cX10_skipped 116 = .ok (.iload_n 1, 1) := by decide +kernel
theorem dX10_skipped_117 : decode cX10_skipped 117 = .ok (.bipush 8, 2) := by decide +kernel
theorem dX10_skipped_119 : decode cX10_skipped 119 = .ok (.iload 7, 2) := by decide +kernel
theorem dX10_skipped_121 : decode cX10_skipped 121 = .ok (.invokevirtual 143, 3) := by decide +kernel
theorem dX10_skipped_124 : decode cX10_skipped 124 = .ok (.iload_n 2, 1) := by decide +kernel
theorem dX10_skipped_125 : decode cX10_skipped 125 = .ok (.if_icmp .lt 8, 3) := by decide +kernel
theorem dX10_skipped_128 : decode cX10_skipped 128 = .ok (.iload 8, 2) := by decide +kernel
theorem dX10_skipped_130 : decode cX10_skipped 130 = .ok (.goto 4, 3) := by decide +kernel
theorem dX10_skipped_133 : decode cX10_skipped 133 = .ok (.iconst 0, 1) := by decide +kernel
theorem dX10_skipped_134 : decode cX10_skipped 134 = .ok (.iadd, 1) := by decide +kernel
theorem dX10_skipped_135 : decode cX10_skipped 135 = .ok (.istore 5, 2) := by decide +kernel
theorem dX10_skipped_137 : decode cX10_skipped 137 = .ok (.iinc 7 1, 3) := by decide +kernel
theorem dX10_skipped_140 : decode cX10_skipped 140 = .ok (.goto (-94), 3) := by decide +kernel
theorem dX10_skipped_143 : decode cX10_skipped 143 = .ok (.iload 5, 2) := by decide +kernel
theorem dX10_skipped_145 : decode cX10_skipped 145 = .ok (.iload 6, 2) := by decide +kernel
theorem dX10_skipped_147 : decode cX10_skipped 147 = .ok (.invokestatic 205, 3) := by decide +kernel
theorem dX10_skipped_150 : decode cX10_skipped 150 = .ok (.istore 7, 2) := by decide +kernel
theorem dX10_skipped_152 : decode cX10_skipped 152 = .ok (.iload 4, 2) := by decide +kernel
theorem dX10_skipped_154 : decode cX10_skipped 154 = .ok (.ifCond .eq 11, 3) := by decide +kernel
theorem dX10_skipped_157 : decode cX10_skipped 157 = .ok (.iload 5, 2) := by decide +kernel
theorem dX10_skipped_159 : decode cX10_skipped 159 = .ok (.iload 7, 2) := by decide +kernel
theorem dX10_skipped_161 : decode cX10_skipped 161 = .ok (.idiv, 1) := by decide +kernel
theorem dX10_skipped_162 : decode cX10_skipped 162 = .ok (.goto 8, 3) := by decide +kernel
theorem dX10_skipped_165 : decode cX10_skipped 165 = .ok (.iload 6, 2) := by decide +kernel
theorem dX10_skipped_167 : decode cX10_skipped 167 = .ok (.iload 7, 2) := by decide +kernel
theorem dX10_skipped_169 : decode cX10_skipped 169 = .ok (.idiv, 1) := by decide +kernel
theorem dX10_skipped_170 : decode cX10_skipped 170 = .ok (.ireturn, 1) := by decide +kernel
theorem dX10_seed_0 : decode cX10_seed 0 = .ok (.aload_n 0, 1) := by decide +kernel
theorem dX10_seed_1 : decode cX10_seed 1 = .ok (.getfield 218, 3) := by decide +kernel
theorem dX10_seed_4 : decode cX10_seed 4 = .ok (.lstore_n 3, 1) := by decide +kernel
theorem dX10_seed_5 : decode cX10_seed 5 = .ok (.aload_n 0, 1) := by decide +kernel
theorem dX10_seed_6 : decode cX10_seed 6 = .ok (.lload_n 1, 1) := by decide +kernel
theorem dX10_seed_7 : decode cX10_seed 7 = .ok (.putfield 218, 3) := by decide +kernel
theorem dX10_seed_10 : decode cX10_seed 10 = .ok (.lload_n 3, 1) := by decide +kernel
theorem dX10_seed_11 : decode cX10_seed 11 = .ok (.lreturn, 1) := by decide +kernel
theorem dX10_years_0 : decode cX10_years 0 = .ok (.iload_n 1, 1) := by decide +kernel
theorem dX10_years_1 : decode cX10_years 1 = .ok (.i2l, 1) := by decide +kernel
theorem dX10_years_2 : decode cX10_years 2 = .ok (.lconst 1, 1) := by decide +kernel
theorem dX10_years_3 : decode cX10_years 3 = .ok (.ldc2_w 222, 3) := by decide +kernel
theorem dX10_years_6 : decode cX10_years 6 = .ok (.invokestatic 52, 3) := by decide +kernel
theorem dX10_years_9 : decode cX10_years 9 = .ok (.ifCond .ne 6, 3) := by decide +kernel
theorem dX10_years_12 : decode cX10_years 12 = .ok (.bipush (-2), 2) := by decide +kernel
theorem dX10_years_14 : decode cX10_years 14 = .ok (.ireturn, 1) := by decide +kernel
theorem dX10_years_15 : decode cX10_years 15 = .ok (.aload_n 0, 1) := by decide +kernel
theorem dX10_years_16 : decode cX10_years 16 = .ok (.invokevirtual 140, 3) := by decide +kernel
theorem dX10_years_19 : decode cX10_years 19 = .ok (.iconst 0, 1) := by decide +kernel
theorem dX10_years_20 : decode cX10_years 20 = .ok (.istore_n 2, 1) := by decide +kernel
theorem dX10_years_21 : decode cX10_years 21 = .ok (.iconst 0, 1) := by decide +kernel
theorem dX10_years_22 : decode cX10_years 22 = .ok (.istore_n 3, 1) := by decide +kernel
theorem dX10_years_23 : decode cX10_years 23 = .ok (.iload_n 3, 1) := by decide +kernel
theorem dX10_years_24 : decode cX10_years 24 = .ok (.iload_n 1, 1) := by decide +kernel
theorem dX10_years_25 : decode cX10_years 25 = .ok (.if_icmp .ge 156, 3) := by decide +kernel
theorem dX10_years_28 : decode cX10_years 28 = .ok (.aload_n 0, 1) := by decide +kernel
theorem dX10_years_29 : decode cX10_years 29 = .ok (.aload_n 0, 1) := by decide +kernel
theorem dX10_years_30 : decode cX10_years 30 = .ok (.getfield 218, 3) := by decide +kernel
theorem dX10_years_33 : decode cX10_years 33 = .ok (.ldc2_w 224, 3) := by decide +kernel
theorem dX10_years_36 : decode cX10_years 36 = .ok (.lmul, 1) := by decide +kernel
theorem dX10_years_37 : decode cX10_years 37 = .ok (.ldc2_w 226, 3) := by decide +kernel
theorem dX10_years_40 : decode cX10_years 40 = .ok (.ladd, 1) := by decide +kernel
theorem dX10_years_41 : decode cX10_years 41 = .ok (.putfield 218, 3) := by decide +kernel
theorem dX10_years_44 : decode cX10_years 44 = .ok (.aload_n 0, 1) := by decide +kernel
theorem dX10_years_45 : decode cX10_years 45 = .ok (.getfield 218, 3) := by decide +kernel
theorem dX10_years_48 : decode cX10_years 48 = .ok (.bipush 33, 2) := by decide +kernel
theorem dX10_years_50 : decode cX10_years 50 = .ok (.lushr, 1) := by decide +kernel
theorem dX10_years_51 : decode cX10_years 51 = .ok (.ldc2_w 228, 3) := by decide +kernel
theorem dX10_years_54 : decode cX10_years 54 = .ok (.lrem, 1) := by decide +kernel
theorem dX10_years_55 : decode cX10_years 55 = .ok (.l2i, 1) := by decide +kernel
theorem dX10_years_56 : decode cX10_years 56 = .ok (.istore 4, 2) := by decide +kernel
theorem dX10_years_58 : decode cX10_years 58 = .ok (.iload 4, 2) := by decide +kernel
theorem dX10_years_60 : decode cX10_years 60 = .ok (.bipush 43, 2) := by decide +kernel
theorem dX10_years_62 : decode cX10_years 62 = .ok (.if_icmp .le 23, 3) := by decide +kernel
theorem dX10_years_65 : decode cX10_years 65 = .ok (.aload_n 0, 1) := by decide +kernel
theorem dX10_years_66 : decode cX10_years 66 = .ok (.getfield 16, 3) := by decide +kernel
theorem dX10_years_69 : decode cX10_years 69 = .ok (.bipush 61, 2) := by decide +kernel
theorem dX10_years_71 : decode cX10_years 71 = .ok (.bipush 6, 2) := by decide +kernel
theorem dX10_years_73 : decode cX10_years 73 = .ok (.iload 4, 2) := by decide +kernel
theorem dX10_years_75 : decode cX10_years 75 = .ok (.bipush 44, 2) := by decide +kernel
theorem dX10_years_77 : decode cX10_years 77 = .ok (.isub, 1) := by decide +kernel
theorem dX10_years_78 : decode cX10_years 78 = .ok (.imul, 1) := by decide +kernel
theorem dX10_years_79 : decode cX10_years 79 = .ok (.iadd, 1) := by decide +kernel
theorem dX10_years_80 : decode cX10_years 80 = .ok (.iconst 0, 1) := by decide +kernel
theorem dX10_years_81 : decode cX10_years 81 = .ok (.iastore, 1) := by decide +kernel
theorem dX10_years_82 : decode cX10_years 82 = .ok (.goto 85, 3) := by decide +kernel
theorem dX10_years_85 : decode cX10_years 85 = .ok (.iload 4, 2) := by decide +kernel
theorem dX10_years_87 : decode cX10_years 87 = .ok (.bipush 39, 2) := by decide +kernel
theorem dX10_years_89 : decode cX10_years 89 = .ok (.if_icmp .le 18, 3) := by decide +kernel
theorem dX10_years_92 : decode cX10_years 92 = .ok (.aload_n 0, 1) := by decide +kernel
theorem dX10_years_93 : decode cX10_years 93 = .ok (.iconst 3, 1) := by decide +kernel
theorem dX10_years_94 : decode cX10_years 94 = .ok (.iconst 0, 1) := by decide +kernel
theorem dX10_years_95 : decode cX10_years 95 = .ok (.iload 4, 2) := by decide +kernel
theorem dX10_years_97 : decode cX10_years 97 = .ok (.bipush 40, 2) := by decide +kernel
theorem dX10_years_99 : decode cX10_years 99 = .ok (.isub, 1) := by decide +kernel
theorem dX10_years_100 : decode cX10_years 100 = .ok (.invokevirtual 185, 3) := by decide +kernel
theorem dX10_years_103 : decode cX10_years 103 = .ok (.pop, 1) := by decide +kernel
theorem dX10_years_104 : decode cX10_years 104 = .ok (.goto 63, 3) := by decide +kernel
theorem dX10_years_107 : decode cX10_years 107 = .ok (.iload 4, 2) := by decide +kernel
theorem dX10_years_109 : decode cX10_years 109 = .ok (.bipush 35, 2) := by decide +kernel
theorem dX10_years_111 : decode cX10_years 111 = .ok (.if_icmp .le 18, 3) := by decide +kernel
theorem dX10_years_114 : decode cX10_years 114 = .ok (.aload_n 0, 1) := by decide +kernel
theorem dX10_years_115 : decode cX10_years 115 = .ok (.iconst 2, 1) := by decide +kernel
theorem dX10_years_116 : decode cX10_years 116 = .ok (.iconst 0, 1) := by decide +kernel
theorem dX10_years_117 : decode cX10_years 117 = .ok (.iload 4, 2) := by decide +kernel
theorem dX10_years_119 : decode cX10_years 119 = .ok (.bipush 36, 2) := by decide +kernel
theorem dX10_years_121 : decode cX10_years 121 = .ok (.isub, 1) := by decide +kernel
theorem dX10_years_122 : decode cX10_years 122 = .ok (.invokevirtual 185, 3) := by decide +kernel
theorem dX10_years_125 : decode cX10_years 125 = .ok (.pop, 1) := by decide +kernel
theorem dX10_years_126 : decode cX10_years 126 = .ok (.goto 41, 3) := by decide +kernel
theorem dX10_years_129 : decode cX10_years 129 = .ok (.iload 4, 2) := by decide +kernel
theorem dX10_years_131 : decode cX10_years 131 = .ok (.bipush 31, 2) := by decide +kernel
theorem dX10_years_133 : decode cX10_years 133 = .ok (.if_icmp .le 18, 3) := by decide +kernel
theorem dX10_years_136 : decode cX10_years 136 = .ok (.aload_n 0, 1) := by decide +kernel
theorem dX10_years_137 : decode cX10_years 137 = .ok (.iconst 4, 1) := by decide +kernel
theorem dX10_years_138 : decode cX10_years 138 = .ok (.iconst 0, 1) := by decide +kernel
theorem dX10_years_139 : decode cX10_years 139 = .ok (.iload 4, 2) := by decide +kernel
theorem dX10_years_141 : decode cX10_years 141 = .ok (.bipush 32, 2) := by decide +kernel
theorem dX10_years_143 : decode cX10_years 143 = .ok (.isub, 1) := by decide +kernel
theorem dX10_years_144 : decode cX10_years 144 = .ok (.invokevirtual 185, 3) := by decide +kernel
theorem dX10_years_147 : decode cX10_years 147 = .ok (.pop, 1) := by decide +kernel
theorem dX10_years_148 : decode cX10_years 148 = .ok (.goto 19, 3) := by decide +kernel
theorem dX10_years_151 : decode cX10_years 151 = .ok (.aload_n 0, 1) := by decide +kernel
theorem dX10_years_152 : decode cX10_years 152 = .ok (.iconst 1, 1) := by decide +kernel
theorem dX10_years_153 : decode cX10_years 153 = .ok (.iload 4, 2) := by decide +kernel
theorem dX10_years_155 : decode cX10_years 155 = .ok (.bipush 8, 2) := by decide +kernel
theorem dX10_years_157 : decode cX10_years 157 = .ok (.idiv, 1) := by decide +kernel
theorem dX10_years_158 : decode cX10_years 158 = .ok (.iload 4, 2) := by decide +kernel
theorem dX10_years_160 : decode cX10_years 160 = .ok (.bipush 8, 2) := by decide +kernel
theorem dX10_years_162 : decode cX10_years 162 = .ok (.irem, 1) := by decide +kernel
theorem dX10_years_163 : decode cX10_years 163 = .ok (.invokevirtual 185, 3) := by decide +kernel
theorem dX10_years_166 : decode cX10_years 166 = .ok (.pop, 1) := by decide +kernel
theorem dX10_years_167 : decode cX10_years 167 = .ok (.iload_n 2, 1) := by decide +kernel
theorem dX10_years_168 : decode cX10_years 168 = .ok (.aload_n 0, 1) := by decide +kernel
theorem dX10_years_169 : decode cX10_years 169 = .ok (.iconst 1, 1) := by decide +kernel
theorem dX10_years_170 : decode cX10_years 170 = .ok (.invokevirtual 230, 3) := by decide +kernel
theorem dX10_years_173 : decode cX10_years 173 = .ok (.iadd, 1) := by decide +kernel
theorem dX10_years_174 : decode cX10_years 174 = .ok (.istore_n 2, 1) := by decide +kernel
theorem dX10_years_175 : decode cX10_years 175 = .ok (.iinc 3 1, 3) := by decide +kernel
theorem dX10_years_178 : decode cX10_years 178 = .ok (.goto (-155), 3) := by decide +kernel
theorem dX10_years_181 : decode cX10_years 181 = .ok (.iload_n 2, 1) := by decide +kernel
theorem dX10_years_182 : decode cX10_years 182 = .ok (.ireturn, 1) := by decide +kernel
theorem dX10_keep_0 : decode cX10_keep 0 = .ok (.iload_n 1, 1) := by decide +kernel
theorem dX10_keep_1 : decode cX10_keep 1 = .ok (.i2l, 1) := by decide +kernel
theorem dX10_keep_2 : decode cX10_keep 2 = .ok (.lconst 0, 1) := by decide +kernel
theorem dX10_keep_3 : decode cX10_keep 3 = .ok (.lconst 1, 1) := by decide +kernel
theorem dX10_keep_4 : decode cX10_keep 4 = .ok (.invokestatic 52, 3) := by decide +kernel
theorem dX10_keep_7 : decode cX10_keep 7 = .ok (.ifCond .ne 5, 3) := by decide +kernel
theorem dX10_keep_10 : decode cX10_keep 10 = .ok (.iconst (-1), 1) := by decide +kernel
theorem dX10_keep_11 : decode cX10_keep 11 = .ok (.ireturn, 1) := by decide +kernel
theorem dX10_keep_12 : decode cX10_keep 12 = .ok (.aload_n 0, 1) := by decide +kernel
theorem dX10_keep_13 : decode cX10_keep 13 = .ok (.getfield 43, 3) := by decide +kernel
theorem dX10_keep_16 : decode cX10_keep 16 = .ok (.iload_n 1, 1) := by decide +kernel
theorem dX10_keep_17 : decode cX10_keep 17 = .ok (.iconst 1, 1) := by decide +kernel
theorem dX10_keep_18 : decode cX10_keep 18 = .ok (.bastore, 1) := by decide +kernel
theorem dX10_keep_19 : decode cX10_keep 19 = .ok (.iconst 0, 1) := by decide +kernel
theorem dX10_keep_20 : decode cX10_keep 20 = .ok (.istore_n 2, 1) := by decide +kernel
theorem dX10_keep_21 : decode cX10_keep 21 = .ok (.iload_n 2, 1) := by decide +kernel
theorem dX10_keep_22 : decode cX10_keep 22 = .ok (.bipush 43, 2) := by decide +kernel
theorem dX10_keep_24 : decode cX10_keep 24 = .ok (.if_icmp .ge 26, 3) := by decide +kernel
theorem dX10_keep_27 : decode cX10_keep 27 = .ok (.aload_n 0, 1) := by decide +kernel
theorem dX10_keep_28 : decode cX10_keep 28 = .ok (.getfield 47, 3) := by decide +kernel
theorem dX10_keep_31 : decode cX10_keep 31 = .ok (.bipush 43, 2) := by decide +kernel
theorem dX10_keep_33 : decode cX10_keep 33 = .ok (.iload_n 1, 1) := by decide +kernel
theorem dX10_keep_34 : decode cX10_keep 34 = .ok (.imul, 1) := by decide +kernel
theorem dX10_keep_35 : decode cX10_keep 35 = .ok (.iload_n 2, 1) := by decide +kernel
theorem dX10_keep_36 : decode cX10_keep 36 = .ok (.iadd, 1) := by decide +kernel
theorem dX10_keep_37 : decode cX10_keep 37 = .ok (.aload_n 0, 1) := by decide +kernel
theorem dX10_keep_38 : decode cX10_keep 38 = .ok (.getfield 16, 3) := by decide +kernel
theorem dX10_keep_41 : decode cX10_keep 41 = .ok (.iload_n 2, 1) := by decide +kernel
theorem dX10_keep_42 : decode cX10_keep 42 = .ok (.iaload, 1) := by decide +kernel
theorem dX10_keep_43 : decode cX10_keep 43 = .ok (.iastore, 1) := by decide +kernel
theorem dX10_keep_44 : decode cX10_keep 44 = .ok (.iinc 2 1, 3) := by decide +kernel
theorem dX10_keep_47 : decode cX10_keep 47 = .ok (.goto (-26), 3) := by decide +kernel
theorem dX10_keep_50 : decode cX10_keep 50 = .ok (.aload_n 0, 1) := by decide +kernel
theorem dX10_keep_51 : decode cX10_keep 51 = .ok (.getfield 16, 3) := by decide +kernel
theorem dX10_keep_54 : decode cX10_keep 54 = .ok (.bipush 17, 2) := by decide +kernel
theorem dX10_keep_56 : decode cX10_keep 56 = .ok (.iaload, 1) := by decide +kernel
theorem dX10_keep_57 : decode cX10_keep 57 = .ok (.ireturn, 1) := by decide +kernel
theorem dX10_again_0 : decode cX10_again 0 = .ok (.iload_n 1, 1) := by decide +kernel
theorem dX10_again_1 : decode cX10_again 1 = .ok (.i2l, 1) := by decide +kernel
theorem dX10_again_2 : decode cX10_again 2 = .ok (.lconst 0, 1) := by decide +kernel
theorem dX10_again_3 : decode cX10_again 3 = .ok (.lconst 1, 1) := by decide +kernel
theorem dX10_again_4 : decode cX10_again 4 = .ok (.invokestatic 52, 3) := by decide +kernel
theorem dX10_again_7 : decode cX10_again 7 = .ok (.ifCond .ne 5, 3) := by decide +kernel
theorem dX10_again_10 : decode cX10_again 10 = .ok (.iconst (-1), 1) := by decide +kernel
theorem dX10_again_11 : decode cX10_again 11 = .ok (.ireturn, 1) := by decide +kernel
theorem dX10_again_12 : decode cX10_again 12 = .ok (.aload_n 0, 1) := by decide +kernel
theorem dX10_again_13 : decode cX10_again 13 = .ok (.getfield 43, 3) := by decide +kernel
theorem dX10_again_16 : decode cX10_again 16 = .ok (.iload_n 1, 1) := by decide +kernel
theorem dX10_again_17 : decode cX10_again 17 = .ok (.baload, 1) := by decide +kernel
theorem dX10_again_18 : decode cX10_again 18 = .ok (.ifCond .ne 6, 3) := by decide +kernel
theorem dX10_again_21 : decode cX10_again 21 = .ok (.bipush (-3), 2) := by decide +kernel
theorem dX10_again_23 : decode cX10_again 23 = .ok (.ireturn, 1) := by decide +kernel
theorem dX10_again_24 : decode cX10_again 24 = .ok (.iconst 0, 1) := by decide +kernel
theorem dX10_again_25 : decode cX10_again 25 = .ok (.istore_n 2, 1) := by decide +kernel
theorem dX10_again_26 : decode cX10_again 26 = .ok (.iload_n 2, 1) := by decide +kernel
theorem dX10_again_27 : decode cX10_again 27 = .ok (.bipush 43, 2) := by decide +kernel
theorem dX10_again_29 : decode cX10_again 29 = .ok (.if_icmp .ge 26, 3) := by decide +kernel
theorem dX10_again_32 : decode cX10_again 32 = .ok (.aload_n 0, 1) := by decide +kernel
theorem dX10_again_33 : decode cX10_again 33 = .ok (.getfield 16, 3) := by decide +kernel
theorem dX10_again_36 : decode cX10_again 36 = .ok (.iload_n 2, 1) := by decide +kernel
theorem dX10_again_37 : decode cX10_again 37 = .ok (.aload_n 0, 1) := by decide +kernel
theorem dX10_again_38 : decode cX10_again 38 = .ok (.getfield 47, 3) := by decide +kernel
theorem dX10_again_41 : decode cX10_again 41 = .ok (.bipush 43, 2) := by decide +kernel
theorem dX10_again_43 : decode cX10_again 43 = .ok (.iload_n 1, 1) := by decide +kernel
theorem dX10_again_44 : decode cX10_again 44 = .ok (.imul, 1) := by decide +kernel
theorem dX10_again_45 : decode cX10_again 45 = .ok (.iload_n 2, 1) := by decide +kernel
theorem dX10_again_46 : decode cX10_again 46 = .ok (.iadd, 1) := by decide +kernel
theorem dX10_again_47 : decode cX10_again 47 = .ok (.iaload, 1) := by decide +kernel
theorem dX10_again_48 : decode cX10_again 48 = .ok (.iastore, 1) := by decide +kernel
theorem dX10_again_49 : decode cX10_again 49 = .ok (.iinc 2 1, 3) := by decide +kernel
theorem dX10_again_52 : decode cX10_again 52 = .ok (.goto (-26), 3) := by decide +kernel
theorem dX10_again_55 : decode cX10_again 55 = .ok (.aload_n 0, 1) := by decide +kernel
theorem dX10_again_56 : decode cX10_again 56 = .ok (.iconst 0, 1) := by decide +kernel
theorem dX10_again_57 : decode cX10_again 57 = .ok (.putfield 87, 3) := by decide +kernel
theorem dX10_again_60 : decode cX10_again 60 = .ok (.aload_n 0, 1) := by decide +kernel
theorem dX10_again_61 : decode cX10_again 61 = .ok (.getfield 16, 3) := by decide +kernel
theorem dX10_again_64 : decode cX10_again 64 = .ok (.bipush 17, 2) := by decide +kernel
theorem dX10_again_66 : decode cX10_again 66 = .ok (.iaload, 1) := by decide +kernel
theorem dX10_again_67 : decode cX10_again 67 = .ok (.ireturn, 1) := by decide +kernel
theorem dX10_fullPens_0 : decode cX10_fullPens 0 = .ok (.iconst 0, 1) := by decide +kernel
theorem dX10_fullPens_1 : decode cX10_fullPens 1 = .ok (.istore_n 1, 1) := by decide +kernel
theorem dX10_fullPens_2 : decode cX10_fullPens 2 = .ok (.iconst 0, 1) := by decide +kernel
theorem dX10_fullPens_3 : decode cX10_fullPens 3 = .ok (.istore_n 2, 1) := by decide +kernel
theorem dX10_fullPens_4 : decode cX10_fullPens 4 = .ok (.iload_n 2, 1) := by decide +kernel
theorem dX10_fullPens_5 : decode cX10_fullPens 5 = .ok (.aload_n 0, 1) := by decide +kernel
theorem dX10_fullPens_6 : decode cX10_fullPens 6 = .ok (.getfield 84, 3) := by decide +kernel
theorem dX10_fullPens_9 : decode cX10_fullPens 9 = .ok (.if_icmp .ge 37, 3) := by decide +kernel
theorem dX10_fullPens_12 : decode cX10_fullPens 12 = .ok (.iload_n 1, 1) := by decide +kernel
theorem dX10_fullPens_13 : decode cX10_fullPens 13 = .ok (.aload_n 0, 1) := by decide +kernel
theorem dX10_fullPens_14 : decode cX10_fullPens 14 = .ok (.getfield 16, 3) := by decide +kernel
theorem dX10_fullPens_17 : decode cX10_fullPens 17 = .ok (.bipush 12, 2) := by decide +kernel
theorem dX10_fullPens_19 : decode cX10_fullPens 19 = .ok (.iload_n 2, 1) := by decide +kernel
theorem dX10_fullPens_20 : decode cX10_fullPens 20 = .ok (.iadd, 1) := by decide +kernel
theorem dX10_fullPens_21 : decode cX10_fullPens 21 = .ok (.iaload, 1) := by decide +kernel
theorem dX10_fullPens_22 : decode cX10_fullPens 22 = .ok (.aload_n 0, 1) := by decide +kernel
theorem dX10_fullPens_23 : decode cX10_fullPens 23 = .ok (.getfield 13, 3) := by decide +kernel
theorem dX10_fullPens_26 : decode cX10_fullPens 26 = .ok (.iload_n 2, 1) := by decide +kernel
theorem dX10_fullPens_27 : decode cX10_fullPens 27 = .ok (.iaload, 1) := by decide +kernel
theorem dX10_fullPens_28 : decode cX10_fullPens 28 = .ok (.if_icmp .ne 9, 3) := by decide +kernel
theorem dX10_fullPens_31 : decode cX10_fullPens 31 = .ok (.iconst 1, 1) := by decide +kernel
theorem dX10_fullPens_32 : decode cX10_fullPens 32 = .ok (.iload_n 2, 1) := by decide +kernel
theorem dX10_fullPens_33 : decode cX10_fullPens 33 = .ok (.ishl, 1) := by decide +kernel
theorem dX10_fullPens_34 : decode cX10_fullPens 34 = .ok (.goto 4, 3) := by decide +kernel
theorem dX10_fullPens_37 : decode cX10_fullPens 37 = .ok (.iconst 0, 1) := by decide +kernel
theorem dX10_fullPens_38 : decode cX10_fullPens 38 = .ok (.ior, 1) := by decide +kernel
theorem dX10_fullPens_39 : decode cX10_fullPens 39 = .ok (.istore_n 1, 1) := by decide +kernel
theorem dX10_fullPens_40 : decode cX10_fullPens 40 = .ok (.iinc 2 1, 3) := by decide +kernel
theorem dX10_fullPens_43 : decode cX10_fullPens 43 = .ok (.goto (-39), 3) := by decide +kernel
theorem dX10_fullPens_46 : decode cX10_fullPens 46 = .ok (.iload_n 1, 1) := by decide +kernel
theorem dX10_fullPens_47 : decode cX10_fullPens 47 = .ok (.ireturn, 1) := by decide +kernel
theorem dX10_count_0 : decode cX10_count 0 = .ok (.iload_n 1, 1) := by decide +kernel
theorem dX10_count_1 : decode cX10_count 1 = .ok (.tableswitch 113 0 9 #[55, 60, 65, 73, 79, 85, 93, 98, 103, 108], 55) := by decide +kernel
theorem dX10_count_56 : decode cX10_count 56 = .ok (.aload_n 0, 1) := by decide +kernel
theorem dX10_count_57 : decode cX10_count 57 = .ok (.getfield 56, 3) := by decide +kernel
theorem dX10_count_60 : decode cX10_count 60 = .ok (.ireturn, 1) := by decide +kernel
theorem dX10_count_61 : decode cX10_count 61 = .ok (.aload_n 0, 1) := by decide +kernel
theorem dX10_count_62 : decode cX10_count 62 = .ok (.getfield 84, 3) := by decide +kernel
theorem dX10_count_65 : decode cX10_count 65 = .ok (.ireturn, 1) := by decide +kernel
theorem dX10_count_66 : decode cX10_count 66 = .ok (.aload_n 0, 1) := by decide +kernel
theorem dX10_count_67 : decode cX10_count 67 = .ok (.getfield 16, 3) := by decide +kernel
theorem dX10_count_70 : decode cX10_count 70 = .ok (.bipush 17, 2) := by decide +kernel
theorem dX10_count_72 : decode cX10_count 72 = .ok (.iaload, 1) := by decide +kernel
theorem dX10_count_73 : decode cX10_count 73 = .ok (.ireturn, 1) := by decide +kernel
theorem dX10_count_74 : decode cX10_count 74 = .ok (.aload_n 0, 1) := by decide +kernel
theorem dX10_count_75 : decode cX10_count 75 = .ok (.iconst 0, 1) := by decide +kernel
theorem dX10_count_76 : decode cX10_count 76 = .ok (.invokevirtual 230, 3) := by decide +kernel
theorem dX10_count_79 : decode cX10_count 79 = .ok (.ireturn, 1) := by decide +kernel
theorem dX10_count_80 : decode cX10_count 80 = .ok (.aload_n 0, 1) := by decide +kernel
theorem dX10_count_81 : decode cX10_count 81 = .ok (.iconst 0, 1) := by decide +kernel
theorem dX10_count_82 : decode cX10_count 82 = .ok (.invokevirtual 193, 3) := by decide +kernel
theorem dX10_count_85 : decode cX10_count 85 = .ok (.ireturn, 1) := by decide +kernel
theorem dX10_count_86 : decode cX10_count 86 = .ok (.aload_n 0, 1) := by decide +kernel
theorem dX10_count_87 : decode cX10_count 87 = .ok (.getfield 16, 3) := by decide +kernel
theorem dX10_count_90 : decode cX10_count 90 = .ok (.bipush 16, 2) := by decide +kernel
theorem dX10_count_92 : decode cX10_count 92 = .ok (.iaload, 1) := by decide +kernel
theorem dX10_count_93 : decode cX10_count 93 = .ok (.ireturn, 1) := by decide +kernel
theorem dX10_count_94 : decode cX10_count 94 = .ok (.aload_n 0, 1) := by decide +kernel
theorem dX10_count_95 : decode cX10_count 95 = .ok (.invokevirtual 233, 3) := by decide +kernel
theorem dX10_count_98 : decode cX10_count 98 = .ok (.ireturn, 1) := by decide +kernel
theorem dX10_count_99 : decode cX10_count 99 = .ok (.aload_n 0, 1) := by decide +kernel
theorem dX10_count_100 : decode cX10_count 100 = .ok (.getfield 100, 3) := by decide +kernel
theorem dX10_count_103 : decode cX10_count 103 = .ok (.ireturn, 1) := by decide +kernel
theorem dX10_count_104 : decode cX10_count 104 = .ok (.aload_n 0, 1) := by decide +kernel
theorem dX10_count_105 : decode cX10_count 105 = .ok (.getfield 87, 3) := by decide +kernel
theorem dX10_count_108 : decode cX10_count 108 = .ok (.ireturn, 1) := by decide +kernel
theorem dX10_count_109 : decode cX10_count 109 = .ok (.aload_n 0, 1) := by decide +kernel
theorem dX10_count_110 : decode cX10_count 110 = .ok (.getfield 190, 3) := by decide +kernel
theorem dX10_count_113 : decode cX10_count 113 = .ok (.ireturn, 1) := by decide +kernel
theorem dX10_count_114 : decode cX10_count 114 = .ok (.bipush (-2), 2) := by decide +kernel
theorem dX10_count_116 : decode cX10_count 116 = .ok (.ireturn, 1) := by decide +kernel
