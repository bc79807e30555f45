theorem dX0_init_0 : decode cX0_init 0 = .ok (.aload_n 0, 1) := by decide +kernel
theorem dX0_init_1 : decode cX0_init 1 = .ok (.invokespecial 1, 3) := by decide +kernel
theorem dX0_init_4 : decode cX0_init 4 = .ok (.aload_n 0, 1) := by decide +kernel
theorem dX0_init_5 : decode cX0_init 5 = .ok (.new 7, 3) := by decide +kernel
theorem dX0_init_8 : decode cX0_init 8 = .ok (.dup, 1) := by decide +kernel
theorem dX0_init_9 : decode cX0_init 9 = .ok (.invokespecial 9, 3) := by decide +kernel
theorem dX0_init_12 : decode cX0_init 12 = .ok (.putfield 10, 3) := by decide +kernel
theorem dX0_init_15 : decode cX0_init 15 = .ok (.return_, 1) := by decide +kernel
theorem dX0_note_0 : decode cX0_note 0 = .ok (.aload_n 0, 1) := by decide +kernel
theorem dX0_note_1 : decode cX0_note 1 = .ok (.iload_n 2, 1) := by decide +kernel
theorem dX0_note_2 : decode cX0_note 2 = .ok (.putfield 16, 3) := by decide +kernel
theorem dX0_note_5 : decode cX0_note 5 = .ok (.aload_n 0, 1) := by decide +kernel
theorem dX0_note_6 : decode cX0_note 6 = .ok (.iload_n 3, 1) := by decide +kernel
theorem dX0_note_7 : decode cX0_note 7 = .ok (.putfield 20, 3) := by decide +kernel
theorem dX0_note_10 : decode cX0_note 10 = .ok (.aload_n 0, 1) := by decide +kernel
theorem dX0_note_11 : decode cX0_note 11 = .ok (.aload_n 1, 1) := by decide +kernel
theorem dX0_note_12 : decode cX0_note 12 = .ok (.aload_n 0, 1) := by decide +kernel
theorem dX0_note_13 : decode cX0_note 13 = .ok (.getfield 20, 3) := by decide +kernel
theorem dX0_note_16 : decode cX0_note 16 = .ok (.invokevirtual 23, 3) := by decide +kernel
theorem dX0_note_19 : decode cX0_note 19 = .ok (.putfield 29, 3) := by decide +kernel
theorem dX0_note_22 : decode cX0_note 22 = .ok (.aload_n 0, 1) := by decide +kernel
theorem dX0_note_23 : decode cX0_note 23 = .ok (.aload_n 1, 1) := by decide +kernel
theorem dX0_note_24 : decode cX0_note 24 = .ok (.getfield 32, 3) := by decide +kernel
theorem dX0_note_27 : decode cX0_note 27 = .ok (.putfield 35, 3) := by decide +kernel
theorem dX0_note_30 : decode cX0_note 30 = .ok (.aload_n 1, 1) := by decide +kernel
theorem dX0_note_31 : decode cX0_note 31 = .ok (.aload_n 0, 1) := by decide +kernel
theorem dX0_note_32 : decode cX0_note 32 = .ok (.getfield 16, 3) := by decide +kernel
theorem dX0_note_35 : decode cX0_note 35 = .ok (.invokevirtual 38, 3) := by decide +kernel
theorem dX0_note_38 : decode cX0_note 38 = .ok (.astore 4, 2) := by decide +kernel
theorem dX0_note_40 : decode cX0_note 40 = .ok (.aload 4, 2) := by decide +kernel
theorem dX0_note_42 : decode cX0_note 42 = .ok (.ifnull 12, 3) := by decide +kernel
theorem dX0_note_45 : decode cX0_note 45 = .ok (.aload_n 0, 1) := by decide +kernel
theorem dX0_note_46 : decode cX0_note 46 = .ok (.getfield 10, 3) := by decide +kernel
theorem dX0_note_49 : decode cX0_note 49 = .ok (.aload 4, 2) := by decide +kernel
theorem dX0_note_51 : decode cX0_note 51 = .ok (.invokevirtual 42, 3) := by decide +kernel
theorem dX0_note_54 : decode cX0_note 54 = .ok (.return_, 1) := by decide +kernel
theorem dX0_takeBack_0 : decode cX0_takeBack 0 = .ok (.aload_n 1, 1) := by decide +kernel
theorem dX0_takeBack_1 : decode cX0_takeBack 1 = .ok (.aload_n 0, 1) := by decide +kernel
theorem dX0_takeBack_2 : decode cX0_takeBack 2 = .ok (.getfield 20, 3) := by decide +kernel
theorem dX0_takeBack_5 : decode cX0_takeBack 5 = .ok (.aload_n 0, 1) := by decide +kernel
theorem dX0_takeBack_6 : decode cX0_takeBack 6 = .ok (.getfield 29, 3) := by decide +kernel
theorem dX0_takeBack_9 : decode cX0_takeBack 9 = .ok (.invokevirtual 46, 3) := by decide +kernel
theorem dX0_takeBack_12 : decode cX0_takeBack 12 = .ok (.aload_n 1, 1) := by decide +kernel
theorem dX0_takeBack_13 : decode cX0_takeBack 13 = .ok (.aload_n 0, 1) := by decide +kernel
theorem dX0_takeBack_14 : decode cX0_takeBack 14 = .ok (.getfield 35, 3) := by decide +kernel
theorem dX0_takeBack_17 : decode cX0_takeBack 17 = .ok (.putfield 32, 3) := by decide +kernel
theorem dX0_takeBack_20 : decode cX0_takeBack 20 = .ok (.aload_n 1, 1) := by decide +kernel
theorem dX0_takeBack_21 : decode cX0_takeBack 21 = .ok (.aload_n 0, 1) := by decide +kernel
theorem dX0_takeBack_22 : decode cX0_takeBack 22 = .ok (.getfield 16, 3) := by decide +kernel
theorem dX0_takeBack_25 : decode cX0_takeBack 25 = .ok (.invokevirtual 38, 3) := by decide +kernel
theorem dX0_takeBack_28 : decode cX0_takeBack 28 = .ok (.astore_n 2, 1) := by decide +kernel
theorem dX0_takeBack_29 : decode cX0_takeBack 29 = .ok (.aload_n 2, 1) := by decide +kernel
theorem dX0_takeBack_30 : decode cX0_takeBack 30 = .ok (.ifnull 11, 3) := by decide +kernel
theorem dX0_takeBack_33 : decode cX0_takeBack 33 = .ok (.aload_n 2, 1) := by decide +kernel
theorem dX0_takeBack_34 : decode cX0_takeBack 34 = .ok (.aload_n 0, 1) := by decide +kernel
theorem dX0_takeBack_35 : decode cX0_takeBack 35 = .ok (.getfield 10, 3) := by decide +kernel
theorem dX0_takeBack_38 : decode cX0_takeBack 38 = .ok (.invokevirtual 42, 3) := by decide +kernel
theorem dX0_takeBack_41 : decode cX0_takeBack 41 = .ok (.return_, 1) := by decide +kernel
theorem dX1_init_0 : decode cX1_init 0 = .ok (.aload_n 0, 1) := by decide +kernel
theorem dX1_init_1 : decode cX1_init 1 = .ok (.invokespecial 3, 3) := by decide +kernel
theorem dX1_init_4 : decode cX1_init 4 = .ok (.aload_n 0, 1) := by decide +kernel
theorem dX1_init_5 : decode cX1_init 5 = .ok (.bipush 14, 2) := by decide +kernel
theorem dX1_init_7 : decode cX1_init 7 = .ok (.anewarray 9, 3) := by decide +kernel
theorem dX1_init_10 : decode cX1_init 10 = .ok (.putfield 11, 3) := by decide +kernel
theorem dX1_init_13 : decode cX1_init 13 = .ok (.iconst 0, 1) := by decide +kernel
theorem dX1_init_14 : decode cX1_init 14 = .ok (.istore_n 1, 1) := by decide +kernel
theorem dX1_init_15 : decode cX1_init 15 = .ok (.iload_n 1, 1) := by decide +kernel
theorem dX1_init_16 : decode cX1_init 16 = .ok (.bipush 14, 2) := by decide +kernel
theorem dX1_init_18 : decode cX1_init 18 = .ok (.if_icmp .ge 22, 3) := by decide +kernel
theorem dX1_init_21 : decode cX1_init 21 = .ok (.aload_n 0, 1) := by decide +kernel
theorem dX1_init_22 : decode cX1_init 22 = .ok (.getfield 11, 3) := by decide +kernel
theorem dX1_init_25 : decode cX1_init 25 = .ok (.iload_n 1, 1) := by decide +kernel
theorem dX1_init_26 : decode cX1_init 26 = .ok (.new 9, 3) := by decide +kernel
theorem dX1_init_29 : decode cX1_init 29 = .ok (.dup, 1) := by decide +kernel
theorem dX1_init_30 : decode cX1_init 30 = .ok (.invokespecial 17, 3) := by decide +kernel
theorem dX1_init_33 : decode cX1_init 33 = .ok (.aastore, 1) := by decide +kernel
theorem dX1_init_34 : decode cX1_init 34 = .ok (.iinc 1 1, 3) := by decide +kernel
theorem dX1_init_37 : decode cX1_init 37 = .ok (.goto (-22), 3) := by decide +kernel
theorem dX1_init_40 : decode cX1_init 40 = .ok (.return_, 1) := by decide +kernel
theorem dX1_at_0 : decode cX1_at 0 = .ok (.aload_n 0, 1) := by decide +kernel
theorem dX1_at_1 : decode cX1_at 1 = .ok (.getfield 11, 3) := by decide +kernel
theorem dX1_at_4 : decode cX1_at 4 = .ok (.aload_n 0, 1) := by decide +kernel
theorem dX1_at_5 : decode cX1_at 5 = .ok (.getfield 18, 3) := by decide +kernel
theorem dX1_at_8 : decode cX1_at 8 = .ok (.iload_n 1, 1) := by decide +kernel
theorem dX1_at_9 : decode cX1_at 9 = .ok (.iadd, 1) := by decide +kernel
theorem dX1_at_10 : decode cX1_at 10 = .ok (.bipush 14, 2) := by decide +kernel
theorem dX1_at_12 : decode cX1_at 12 = .ok (.invokestatic 22, 3) := by decide +kernel
theorem dX1_at_15 : decode cX1_at 15 = .ok (.aaload, 1) := by decide +kernel
theorem dX1_at_16 : decode cX1_at 16 = .ok (.areturn, 1) := by decide +kernel
theorem dX1_note_0 : decode cX1_note 0 = .ok (.aload_n 0, 1) := by decide +kernel
theorem dX1_note_1 : decode cX1_note 1 = .ok (.getfield 28, 3) := by decide +kernel
theorem dX1_note_4 : decode cX1_note 4 = .ok (.bipush 14, 2) := by decide +kernel
theorem dX1_note_6 : decode cX1_note 6 = .ok (.if_icmp .ge 16, 3) := by decide +kernel
theorem dX1_note_9 : decode cX1_note 9 = .ok (.aload_n 0, 1) := by decide +kernel
theorem dX1_note_10 : decode cX1_note 10 = .ok (.dup, 1) := by decide +kernel
theorem dX1_note_11 : decode cX1_note 11 = .ok (.getfield 28, 3) := by decide +kernel
theorem dX1_note_14 : decode cX1_note 14 = .ok (.iconst 1, 1) := by decide +kernel
theorem dX1_note_15 : decode cX1_note 15 = .ok (.iadd, 1) := by decide +kernel
theorem dX1_note_16 : decode cX1_note 16 = .ok (.putfield 28, 3) := by decide +kernel
theorem dX1_note_19 : decode cX1_note 19 = .ok (.goto 16, 3) := by decide +kernel
theorem dX1_note_22 : decode cX1_note 22 = .ok (.aload_n 0, 1) := by decide +kernel
theorem dX1_note_23 : decode cX1_note 23 = .ok (.aload_n 0, 1) := by decide +kernel
theorem dX1_note_24 : decode cX1_note 24 = .ok (.getfield 18, 3) := by decide +kernel
theorem dX1_note_27 : decode cX1_note 27 = .ok (.iconst 1, 1) := by decide +kernel
theorem dX1_note_28 : decode cX1_note 28 = .ok (.iadd, 1) := by decide +kernel
theorem dX1_note_29 : decode cX1_note 29 = .ok (.bipush 14, 2) := by decide +kernel
theorem dX1_note_31 : decode cX1_note 31 = .ok (.irem, 1) := by decide +kernel
theorem dX1_note_32 : decode cX1_note 32 = .ok (.putfield 18, 3) := by decide +kernel
theorem dX1_note_35 : decode cX1_note 35 = .ok (.aload_n 0, 1) := by decide +kernel
theorem dX1_note_36 : decode cX1_note 36 = .ok (.aload_n 0, 1) := by decide +kernel
theorem dX1_note_37 : decode cX1_note 37 = .ok (.getfield 28, 3) := by decide +kernel
theorem dX1_note_40 : decode cX1_note 40 = .ok (.iconst 1, 1) := by decide +kernel
theorem dX1_note_41 : decode cX1_note 41 = .ok (.isub, 1) := by decide +kernel
theorem dX1_note_42 : decode cX1_note 42 = .ok (.invokevirtual 31, 3) := by decide +kernel
theorem dX1_note_45 : decode cX1_note 45 = .ok (.aload_n 1, 1) := by decide +kernel
theorem dX1_note_46 : decode cX1_note 46 = .ok (.iload_n 2, 1) := by decide +kernel
theorem dX1_note_47 : decode cX1_note 47 = .ok (.iload_n 3, 1) := by decide +kernel
theorem dX1_note_48 : decode cX1_note 48 = .ok (.invokevirtual 35, 3) := by decide +kernel
theorem dX1_note_51 : decode cX1_note 51 = .ok (.return_, 1) := by decide +kernel
theorem dX1_takeBackLast_0 : decode cX1_takeBackLast 0 = .ok (.aload_n 0, 1) := by decide +kernel
theorem dX1_takeBackLast_1 : decode cX1_takeBackLast 1 = .ok (.dup, 1) := by decide +kernel
theorem dX1_takeBackLast_2 : decode cX1_takeBackLast 2 = .ok (.getfield 28, 3) := by decide +kernel
theorem dX1_takeBackLast_5 : decode cX1_takeBackLast 5 = .ok (.iconst 1, 1) := by decide +kernel
theorem dX1_takeBackLast_6 : decode cX1_takeBackLast 6 = .ok (.isub, 1) := by decide +kernel
theorem dX1_takeBackLast_7 : decode cX1_takeBackLast 7 = .ok (.putfield 28, 3) := by decide +kernel
theorem dX1_takeBackLast_10 : decode cX1_takeBackLast 10 = .ok (.aload_n 0, 1) := by decide +kernel
theorem dX1_takeBackLast_11 : decode cX1_takeBackLast 11 = .ok (.aload_n 0, 1) := by decide +kernel
theorem dX1_takeBackLast_12 : decode cX1_takeBackLast 12 = .ok (.getfield 28, 3) := by decide +kernel
theorem dX1_takeBackLast_15 : decode cX1_takeBackLast 15 = .ok (.invokevirtual 31, 3) := by decide +kernel
theorem dX1_takeBackLast_18 : decode cX1_takeBackLast 18 = .ok (.aload_n 1, 1) := by decide +kernel
theorem dX1_takeBackLast_19 : decode cX1_takeBackLast 19 = .ok (.invokevirtual 39, 3) := by decide +kernel
theorem dX1_takeBackLast_22 : decode cX1_takeBackLast 22 = .ok (.return_, 1) := by decide +kernel
theorem dX1_forgetAll_0 : decode cX1_forgetAll 0 = .ok (.aload_n 0, 1) := by decide +kernel
theorem dX1_forgetAll_1 : decode cX1_forgetAll 1 = .ok (.iconst 0, 1) := by decide +kernel
theorem dX1_forgetAll_2 : decode cX1_forgetAll 2 = .ok (.putfield 28, 3) := by decide +kernel
theorem dX1_forgetAll_5 : decode cX1_forgetAll 5 = .ok (.return_, 1) := by decide +kernel
theorem dX2_init_0 : decode cX2_init 0 = .ok (.aload_n 0, 1) := by decide +kernel
theorem dX2_init_1 : decode cX2_init 1 = .ok (.invokespecial 3, 3) := by decide +kernel
theorem dX2_init_4 : decode cX2_init 4 = .ok (.return_, 1) := by decide +kernel
theorem dX2_copy_0 : decode cX2_copy 0 = .ok (.aload_n 0, 1) := by decide +kernel
theorem dX2_copy_1 : decode cX2_copy 1 = .ok (.aload_n 1, 1) := by decide +kernel
theorem dX2_copy_2 : decode cX2_copy 2 = .ok (.getfield 9, 3) := by decide +kernel
theorem dX2_copy_5 : decode cX2_copy 5 = .ok (.putfield 9, 3) := by decide +kernel
theorem dX2_copy_8 : decode cX2_copy 8 = .ok (.aload_n 0, 1) := by decide +kernel
theorem dX2_copy_9 : decode cX2_copy 9 = .ok (.aload_n 1, 1) := by decide +kernel
theorem dX2_copy_10 : decode cX2_copy 10 = .ok (.getfield 15, 3) := by decide +kernel
theorem dX2_copy_13 : decode cX2_copy 13 = .ok (.putfield 15, 3) := by decide +kernel
theorem dX2_copy_16 : decode cX2_copy 16 = .ok (.aload_n 0, 1) := by decide +kernel
theorem dX2_copy_17 : decode cX2_copy 17 = .ok (.aload_n 1, 1) := by decide +kernel
theorem dX2_copy_18 : decode cX2_copy 18 = .ok (.getfield 18, 3) := by decide +kernel
theorem dX2_copy_21 : decode cX2_copy 21 = .ok (.putfield 18, 3) := by decide +kernel
theorem dX2_copy_24 : decode cX2_copy 24 = .ok (.aload_n 0, 1) := by decide +kernel
theorem dX2_copy_25 : decode cX2_copy 25 = .ok (.aload_n 1, 1) := by decide +kernel
theorem dX2_copy_26 : decode cX2_copy 26 = .ok (.getfield 21, 3) := by decide +kernel
theorem dX2_copy_29 : decode cX2_copy 29 = .ok (.putfield 21, 3) := by decide +kernel
theorem dX2_copy_32 : decode cX2_copy 32 = .ok (.aload_n 0, 1) := by decide +kernel
theorem dX2_copy_33 : decode cX2_copy 33 = .ok (.aload_n 1, 1) := by decide +kernel
theorem dX2_copy_34 : decode cX2_copy 34 = .ok (.getfield 24, 3) := by decide +kernel
theorem dX2_copy_37 : decode cX2_copy 37 = .ok (.putfield 24, 3) := by decide +kernel
theorem dX2_copy_40 : decode cX2_copy 40 = .ok (.aload_n 0, 1) := by decide +kernel
theorem dX2_copy_41 : decode cX2_copy 41 = .ok (.aload_n 1, 1) := by decide +kernel
theorem dX2_copy_42 : decode cX2_copy 42 = .ok (.getfield 27, 3) := by decide +kernel
theorem dX2_copy_45 : decode cX2_copy 45 = .ok (.putfield 27, 3) := by decide +kernel
theorem dX2_copy_48 : decode cX2_copy 48 = .ok (.aload_n 0, 1) := by decide +kernel
theorem dX2_copy_49 : decode cX2_copy 49 = .ok (.aload_n 1, 1) := by decide +kernel
theorem dX2_copy_50 : decode cX2_copy 50 = .ok (.getfield 30, 3) := by decide +kernel
theorem dX2_copy_53 : decode cX2_copy 53 = .ok (.putfield 30, 3) := by decide +kernel
theorem dX2_copy_56 : decode cX2_copy 56 = .ok (.return_, 1) := by decide +kernel
theorem dX2_isFull_0 : decode cX2_isFull 0 = .ok (.aload_n 0, 1) := by decide +kernel
theorem dX2_isFull_1 : decode cX2_isFull 1 = .ok (.getfield 24, 3) := by decide +kernel
theorem dX2_isFull_4 : decode cX2_isFull 4 = .ok (.aload_n 0, 1) := by decide +kernel
theorem dX2_isFull_5 : decode cX2_isFull 5 = .ok (.getfield 27, 3) := by decide +kernel
theorem dX2_isFull_8 : decode cX2_isFull 8 = .ok (.if_icmp .ne 7, 3) := by decide +kernel
theorem dX2_isFull_11 : decode cX2_isFull 11 = .ok (.iconst 1, 1) := by decide +kernel
theorem dX2_isFull_12 : decode cX2_isFull 12 = .ok (.goto 4, 3) := by decide +kernel
theorem dX2_isFull_15 : decode cX2_isFull 15 = .ok (.iconst 0, 1) := by decide +kernel
theorem dX2_isFull_16 : decode cX2_isFull 16 = .ok (.ireturn, 1) := by decide +kernel
theorem dX2_flip_0 : decode cX2_flip 0 = .ok (.aload_n 0, 1) := by decide +kernel
theorem dX2_flip_1 : decode cX2_flip 1 = .ok (.aload_n 0, 1) := by decide +kernel
theorem dX2_flip_2 : decode cX2_flip 2 = .ok (.getfield 30, 3) := by decide +kernel
theorem dX2_flip_5 : decode cX2_flip 5 = .ok (.ifCond .ne 7, 3) := by decide +kernel
theorem dX2_flip_8 : decode cX2_flip 8 = .ok (.iconst 1, 1) := by decide +kernel
theorem dX2_flip_9 : decode cX2_flip 9 = .ok (.goto 4, 3) := by decide +kernel
theorem dX2_flip_12 : decode cX2_flip 12 = .ok (.iconst 0, 1) := by decide +kernel
theorem dX2_flip_13 : decode cX2_flip 13 = .ok (.putfield 30, 3) := by decide +kernel
theorem dX2_flip_16 : decode cX2_flip 16 = .ok (.return_, 1) := by decide +kernel
theorem dX2_refill_0 : decode cX2_refill 0 = .ok (.aload_n 0, 1) := by decide +kernel
theorem dX2_refill_1 : decode cX2_refill 1 = .ok (.getfield 27, 3) := by decide +kernel
theorem dX2_refill_4 : decode cX2_refill 4 = .ok (.aload_n 0, 1) := by decide +kernel
theorem dX2_refill_5 : decode cX2_refill 5 = .ok (.getfield 24, 3) := by decide +kernel
theorem dX2_refill_8 : decode cX2_refill 8 = .ok (.isub, 1) := by decide +kernel
theorem dX2_refill_9 : decode cX2_refill 9 = .ok (.istore_n 1, 1) := by decide +kernel
theorem dX2_refill_10 : decode cX2_refill 10 = .ok (.aload_n 0, 1) := by decide +kernel
theorem dX2_refill_11 : decode cX2_refill 11 = .ok (.aload_n 0, 1) := by decide +kernel
theorem dX2_refill_12 : decode cX2_refill 12 = .ok (.getfield 27, 3) := by decide +kernel
theorem dX2_refill_15 : decode cX2_refill 15 = .ok (.putfield 24, 3) := by decide +kernel
theorem dX2_refill_18 : decode cX2_refill 18 = .ok (.iload_n 1, 1) := by decide +kernel
theorem dX2_refill_19 : decode cX2_refill 19 = .ok (.ireturn, 1) := by decide +kernel
theorem dX2_quarter_0 : decode cX2_quarter 0 = .ok (.aload_n 0, 1) := by decide +kernel
theorem dX2_quarter_1 : decode cX2_quarter 1 = .ok (.getfield 18, 3) := by decide +kernel
theorem dX2_quarter_4 : decode cX2_quarter 4 = .ok (.istore_n 1, 1) := by decide +kernel
theorem dX2_quarter_5 : decode cX2_quarter 5 = .ok (.aload_n 0, 1) := by decide +kernel
theorem dX2_quarter_6 : decode cX2_quarter 6 = .ok (.aload_n 0, 1) := by decide +kernel
theorem dX2_quarter_7 : decode cX2_quarter 7 = .ok (.getfield 21, 3) := by decide +kernel
theorem dX2_quarter_10 : decode cX2_quarter 10 = .ok (.ineg, 1) := by decide +kernel
theorem dX2_quarter_11 : decode cX2_quarter 11 = .ok (.putfield 18, 3) := by decide +kernel
theorem dX2_quarter_14 : decode cX2_quarter 14 = .ok (.aload_n 0, 1) := by decide +kernel
theorem dX2_quarter_15 : decode cX2_quarter 15 = .ok (.iload_n 1, 1) := by decide +kernel
theorem dX2_quarter_16 : decode cX2_quarter 16 = .ok (.putfield 21, 3) := by decide +kernel
theorem dX2_quarter_19 : decode cX2_quarter 19 = .ok (.return_, 1) := by decide +kernel
theorem dX2_toldNib_0 : decode cX2_toldNib 0 = .ok (.bipush 10, 2) := by decide +kernel
theorem dX2_toldNib_2 : decode cX2_toldNib 2 = .ok (.aload_n 0, 1) := by decide +kernel
theorem dX2_toldNib_3 : decode cX2_toldNib 3 = .ok (.getfield 18, 3) := by decide +kernel
theorem dX2_toldNib_6 : decode cX2_toldNib 6 = .ok (.iconst 3, 1) := by decide +kernel
theorem dX2_toldNib_7 : decode cX2_toldNib 7 = .ok (.iadd, 1) := by decide +kernel
theorem dX2_toldNib_8 : decode cX2_toldNib 8 = .ok (.imul, 1) := by decide +kernel
theorem dX2_toldNib_9 : decode cX2_toldNib 9 = .ok (.aload_n 0, 1) := by decide +kernel
theorem dX2_toldNib_10 : decode cX2_toldNib 10 = .ok (.getfield 21, 3) := by decide +kernel
theorem dX2_toldNib_13 : decode cX2_toldNib 13 = .ok (.iadd, 1) := by decide +kernel
theorem dX2_toldNib_14 : decode cX2_toldNib 14 = .ok (.iconst 3, 1) := by decide +kernel
theorem dX2_toldNib_15 : decode cX2_toldNib 15 = .ok (.iadd, 1) := by decide +kernel
theorem dX2_toldNib_16 : decode cX2_toldNib 16 = .ok (.ireturn, 1) := by decide +kernel
theorem dX2_across_0 : decode cX2_across 0 = .ok (.iload_n 1, 1) := by decide +kernel
theorem dX2_across_1 : decode cX2_across 1 = .ok (.invokestatic 34, 3) := by decide +kernel
theorem dX2_across_4 : decode cX2_across 4 = .ok (.ifCond .ne 5, 3) := by decide +kernel
theorem dX2_across_7 : decode cX2_across 7 = .ok (.iconst 0, 1) := by decide +kernel
theorem dX2_across_8 : decode cX2_across 8 = .ok (.ireturn, 1) := by decide +kernel
theorem dX2_across_9 : decode cX2_across 9 = .ok (.getstatic 38, 3) := by decide +kernel
theorem dX2_across_12 : decode cX2_across 12 = .ok (.iload_n 1, 1) := by decide +kernel
theorem dX2_across_13 : decode cX2_across 13 = .ok (.iaload, 1) := by decide +kernel
theorem dX2_across_14 : decode cX2_across 14 = .ok (.aload_n 0, 1) := by decide +kernel
theorem dX2_across_15 : decode cX2_across 15 = .ok (.getfield 21, 3) := by decide +kernel
theorem dX2_across_18 : decode cX2_across 18 = .ok (.imul, 1) := by decide +kernel
theorem dX2_across_19 : decode cX2_across 19 = .ok (.getstatic 42, 3) := by decide +kernel
theorem dX2_across_22 : decode cX2_across 22 = .ok (.iload_n 1, 1) := by decide +kernel
theorem dX2_across_23 : decode cX2_across 23 = .ok (.iaload, 1) := by decide +kernel
theorem dX2_across_24 : decode cX2_across 24 = .ok (.aload_n 0, 1) := by decide +kernel
theorem dX2_across_25 : decode cX2_across 25 = .ok (.getfield 18, 3) := by decide +kernel
theorem dX2_across_28 : decode cX2_across 28 = .ok (.imul, 1) := by decide +kernel
theorem dX2_across_29 : decode cX2_across 29 = .ok (.isub, 1) := by decide +kernel
theorem dX2_across_30 : decode cX2_across 30 = .ok (.invokestatic 45, 3) := by decide +kernel
theorem dX2_across_33 : decode cX2_across 33 = .ok (.istore_n 2, 1) := by decide +kernel
theorem dX2_across_34 : decode cX2_across 34 = .ok (.aload_n 0, 1) := by decide +kernel
theorem dX2_across_35 : decode cX2_across 35 = .ok (.getfield 15, 3) := by decide +kernel
theorem dX2_across_38 : decode cX2_across 38 = .ok (.tableswitch 62 0 2 #[26, 28, 58], 26) := by decide +kernel
theorem dX2_across_64 : decode cX2_across 64 = .ok (.iload_n 2, 1) := by decide +kernel
theorem dX2_across_65 : decode cX2_across 65 = .ok (.ireturn, 1) := by decide +kernel
theorem dX2_across_66 : decode cX2_across 66 = .ok (.getstatic 42, 3) := by decide +kernel
theorem dX2_across_69 : decode cX2_across 69 = .ok (.iload_n 1, 1) := by decide +kernel
theorem dX2_across_70 : decode cX2_across 70 = .ok (.iaload, 1) := by decide +kernel
theorem dX2_across_71 : decode cX2_across 71 = .ok (.ifCond .ge 23, 3) := by decide +kernel
theorem dX2_across_74 : decode cX2_across 74 = .ok (.iconst 1, 1) := by decide +kernel
theorem dX2_across_75 : decode cX2_across 75 = .ok (.aload_n 0, 1) := by decide +kernel
theorem dX2_across_76 : decode cX2_across 76 = .ok (.getfield 18, 3) := by decide +kernel
theorem dX2_across_79 : decode cX2_across 79 = .ok (.invokestatic 45, 3) := by decide +kernel
theorem dX2_across_82 : decode cX2_across 82 = .ok (.iadd, 1) := by decide +kernel
theorem dX2_across_83 : decode cX2_across 83 = .ok (.aload_n 0, 1) := by decide +kernel
theorem dX2_across_84 : decode cX2_across 84 = .ok (.getfield 21, 3) := by decide +kernel
theorem dX2_across_87 : decode cX2_across 87 = .ok (.invokestatic 45, 3) := by decide +kernel
theorem dX2_across_90 : decode cX2_across 90 = .ok (.iadd, 1) := by decide +kernel
theorem dX2_across_91 : decode cX2_across 91 = .ok (.goto 4, 3) := by decide +kernel
theorem dX2_across_94 : decode cX2_across 94 = .ok (.iconst 1, 1) := by decide +kernel
theorem dX2_across_95 : decode cX2_across 95 = .ok (.ireturn, 1) := by decide +kernel
theorem dX2_across_96 : decode cX2_across 96 = .ok (.iconst 1, 1) := by decide +kernel
theorem dX2_across_97 : decode cX2_across 97 = .ok (.iload_n 2, 1) := by decide +kernel
theorem dX2_across_98 : decode cX2_across 98 = .ok (.iadd, 1) := by decide +kernel
theorem dX2_across_99 : decode cX2_across 99 = .ok (.ireturn, 1) := by decide +kernel
theorem dX2_across_100 : decode cX2_across 100 = .ok (.iconst 2, 1) := by decide +kernel
theorem dX2_across_101 : decode cX2_across 101 = .ok (.iconst 1, 1) := by decide +kernel
theorem dX2_across_102 : decode cX2_across 102 = .ok (.iload_n 2, 1) := by decide +kernel
theorem dX2_across_103 : decode cX2_across 103 = .ok (.iadd, 1) := by decide +kernel
theorem dX2_across_104 : decode cX2_across 104 = .ok (.invokestatic 51, 3) := by decide +kernel
theorem dX2_across_107 : decode cX2_across 107 = .ok (.ireturn, 1) := by decide +kernel
theorem dX2_lays_0 : decode cX2_lays 0 = .ok (.aload_n 0, 1) := by decide +kernel
theorem dX2_lays_1 : decode cX2_lays 1 = .ok (.getfield 30, 3) := by decide +kernel
theorem dX2_lays_4 : decode cX2_lays 4 = .ok (.ifCond .eq 15, 3) := by decide +kernel
theorem dX2_lays_7 : decode cX2_lays 7 = .ok (.aload_n 0, 1) := by decide +kernel
theorem dX2_lays_8 : decode cX2_lays 8 = .ok (.iload_n 1, 1) := by decide +kernel
theorem dX2_lays_9 : decode cX2_lays 9 = .ok (.invokevirtual 55, 3) := by decide +kernel
theorem dX2_lays_12 : decode cX2_lays 12 = .ok (.iload_n 2, 1) := by decide +kernel
theorem dX2_lays_13 : decode cX2_lays 13 = .ok (.invokestatic 51, 3) := by decide +kernel
theorem dX2_lays_16 : decode cX2_lays 16 = .ok (.goto 4, 3) := by decide +kernel
theorem dX2_lays_19 : decode cX2_lays 19 = .ok (.iconst 0, 1) := by decide +kernel
theorem dX2_lays_20 : decode cX2_lays 20 = .ok (.ireturn, 1) := by decide +kernel
theorem dX3_init_0 : decode cX3_init 0 = .ok (.aload_n 0, 1) := by decide +kernel
theorem dX3_init_1 : decode cX3_init 1 = .ok (.invokespecial 3, 3) := by decide +kernel
theorem dX3_init_4 : decode cX3_init 4 = .ok (.aload_n 0, 1) := by decide +kernel
theorem dX3_init_5 : decode cX3_init 5 = .ok (.bipush 6, 2) := by decide +kernel
theorem dX3_init_7 : decode cX3_init 7 = .ok (.newarray .int, 2) := by decide +kernel
theorem dX3_init_9 : decode cX3_init 9 = .ok (.putfield 9, 3) := by decide +kernel
theorem dX3_init_12 : decode cX3_init 12 = .ok (.aload_n 0, 1) := by decide +kernel
theorem dX3_init_13 : decode cX3_init 13 = .ok (.bipush 6, 2) := by decide +kernel
theorem dX3_init_15 : decode cX3_init 15 = .ok (.newarray .int, 2) := by decide +kernel
theorem dX3_init_17 : decode cX3_init 17 = .ok (.putfield 15, 3) := by decide +kernel
theorem dX3_init_20 : decode cX3_init 20 = .ok (.aload_n 0, 1) := by decide +kernel
theorem dX3_init_21 : decode cX3_init 21 = .ok (.new 18, 3) := by decide +kernel
theorem dX3_init_24 : decode cX3_init 24 = .ok (.dup, 1) := by decide +kernel
theorem dX3_init_25 : decode cX3_init 25 = .ok (.invokespecial 20, 3) := by decide +kernel
theorem dX3_init_28 : decode cX3_init 28 = .ok (.putfield 21, 3) := by decide +kernel
theorem dX3_init_31 : decode cX3_init 31 = .ok (.return_, 1) := by decide +kernel
theorem dX3_add_0 : decode cX3_add 0 = .ok (.aload_n 0, 1) := by decide +kernel
theorem dX3_add_1 : decode cX3_add 1 = .ok (.getfield 25, 3) := by decide +kernel
theorem dX3_add_4 : decode cX3_add 4 = .ok (.ifCond .lt 12, 3) := by decide +kernel
theorem dX3_add_7 : decode cX3_add 7 = .ok (.aload_n 0, 1) := by decide +kernel
theorem dX3_add_8 : decode cX3_add 8 = .ok (.getfield 25, 3) := by decide +kernel
theorem dX3_add_11 : decode cX3_add 11 = .ok (.bipush 6, 2) := by decide +kernel
theorem dX3_add_13 : decode cX3_add 13 = .ok (.if_icmp .lt 5, 3) := by decide +kernel
theorem dX3_add_16 : decode cX3_add 16 = .ok (.iconst 0, 1) := by decide +kernel
theorem dX3_add_17 : decode cX3_add 17 = .ok (.ireturn, 1) := by decide +kernel
theorem dX3_add_18 : decode cX3_add 18 = .ok (.aload_n 0, 1) := by decide +kernel
theorem dX3_add_19 : decode cX3_add 19 = .ok (.getfield 9, 3) := by decide +kernel
theorem dX3_add_22 : decode cX3_add 22 = .ok (.aload_n 0, 1) := by decide +kernel
theorem dX3_add_23 : decode cX3_add 23 = .ok (.getfield 25, 3) := by decide +kernel
theorem dX3_add_26 : decode cX3_add 26 = .ok (.iload_n 1, 1) := by decide +kernel
theorem dX3_add_27 : decode cX3_add 27 = .ok (.iastore, 1) := by decide +kernel
theorem dX3_add_28 : decode cX3_add 28 = .ok (.aload_n 0, 1) := by decide +kernel
theorem dX3_add_29 : decode cX3_add 29 = .ok (.getfield 15, 3) := by decide +kernel
theorem dX3_add_32 : decode cX3_add 32 = .ok (.aload_n 0, 1) := by decide +kernel
theorem dX3_add_33 : decode cX3_add 33 = .ok (.getfield 25, 3) := by decide +kernel
theorem dX3_add_36 : decode cX3_add 36 = .ok (.iload_n 2, 1) := by decide +kernel
theorem dX3_add_37 : decode cX3_add 37 = .ok (.iastore, 1) := by decide +kernel
theorem dX3_add_38 : decode cX3_add 38 = .ok (.aload_n 0, 1) := by decide +kernel
theorem dX3_add_39 : decode cX3_add 39 = .ok (.dup, 1) := by decide +kernel
theorem dX3_add_40 : decode cX3_add 40 = .ok (.getfield 25, 3) := by decide +kernel
theorem dX3_add_43 : decode cX3_add 43 = .ok (.iconst 1, 1) := by decide +kernel
theorem dX3_add_44 : decode cX3_add 44 = .ok (.iadd, 1) := by decide +kernel
theorem dX3_add_45 : decode cX3_add 45 = .ok (.putfield 25, 3) := by decide +kernel
theorem dX3_add_48 : decode cX3_add 48 = .ok (.iconst 1, 1) := by decide +kernel
theorem dX3_add_49 : decode cX3_add 49 = .ok (.ireturn, 1) := by decide +kernel
theorem dX3_countNibs_0 : decode cX3_countNibs 0 = .ok (.iconst 0, 1) := by decide +kernel
theorem dX3_countNibs_1 : decode cX3_countNibs 1 = .ok (.istore_n 1, 1) := by decide +kernel
theorem dX3_countNibs_2 : decode cX3_countNibs 2 = .ok (.iconst 0, 1) := by decide +kernel
theorem dX3_countNibs_3 : decode cX3_countNibs 3 = .ok (.istore_n 2, 1) := by decide +kernel
theorem dX3_countNibs_4 : decode cX3_countNibs 4 = .ok (.iload_n 2, 1) := by decide +kernel
theorem dX3_countNibs_5 : decode cX3_countNibs 5 = .ok (.bipush 6, 2) := by decide +kernel
theorem dX3_countNibs_7 : decode cX3_countNibs 7 = .ok (.if_icmp .gt 39, 3) := by decide +kernel
theorem dX3_countNibs_10 : decode cX3_countNibs 10 = .ok (.iconst 0, 1) := by decide +kernel
theorem dX3_countNibs_11 : decode cX3_countNibs 11 = .ok (.istore_n 3, 1) := by decide +kernel
theorem dX3_countNibs_12 : decode cX3_countNibs 12 = .ok (.iload_n 3, 1) := by decide +kernel
theorem dX3_countNibs_13 : decode cX3_countNibs 13 = .ok (.bipush 6, 2) := by decide +kernel
theorem dX3_countNibs_15 : decode cX3_countNibs 15 = .ok (.if_icmp .gt 25, 3) := by decide +kernel
theorem dX3_countNibs_18 : decode cX3_countNibs 18 = .ok (.aload_n 0, 1) := by decide +kernel
theorem dX3_countNibs_19 : decode cX3_countNibs 19 = .ok (.iload_n 2, 1) := by decide +kernel
theorem dX3_countNibs_20 : decode cX3_countNibs 20 = .ok (.iconst 3, 1) := by decide +kernel
theorem dX3_countNibs_21 : decode cX3_countNibs 21 = .ok (.isub, 1) := by decide +kernel
theorem dX3_countNibs_22 : decode cX3_countNibs 22 = .ok (.iload_n 3, 1) := by decide +kernel
theorem dX3_countNibs_23 : decode cX3_countNibs 23 = .ok (.iconst 3, 1) := by decide +kernel
theorem dX3_countNibs_24 : decode cX3_countNibs 24 = .ok (.isub, 1) := by decide +kernel
theorem dX3_countNibs_25 : decode cX3_countNibs 25 = .ok (.invokevirtual 29, 3) := by decide +kernel
theorem dX3_countNibs_28 : decode cX3_countNibs 28 = .ok (.ifCond .eq 6, 3) := by decide +kernel
theorem dX3_countNibs_31 : decode cX3_countNibs 31 = .ok (.iinc 1 1, 3) := by decide +kernel
theorem dX3_countNibs_34 : decode cX3_countNibs 34 = .ok (.iinc 3 1, 3) := by decide +kernel
theorem dX3_countNibs_37 : decode cX3_countNibs 37 = .ok (.goto (-25), 3) := by decide +kernel
theorem dX3_countNibs_40 : decode cX3_countNibs 40 = .ok (.iinc 2 1, 3) := by decide +kernel
theorem dX3_countNibs_43 : decode cX3_countNibs 43 = .ok (.goto (-39), 3) := by decide +kernel
theorem dX3_countNibs_46 : decode cX3_countNibs 46 = .ok (.iload_n 1, 1) := by decide +kernel
theorem dX3_countNibs_47 : decode cX3_countNibs 47 = .ok (.ireturn, 1) := by decide +kernel
theorem dX3_firstNib_0 : decode cX3_firstNib 0 = .ok (.iconst 0, 1) := by decide +kernel
theorem dX3_firstNib_1 : decode cX3_firstNib 1 = .ok (.istore_n 1, 1) := by decide +kernel
theorem dX3_firstNib_2 : decode cX3_firstNib 2 = .ok (.iload_n 1, 1) := by decide +kernel
theorem dX3_firstNib_3 : decode cX3_firstNib 3 = .ok (.bipush 6, 2) := by decide +kernel
theorem dX3_firstNib_5 : decode cX3_firstNib 5 = .ok (.if_icmp .gt 43, 3) := by decide +kernel
theorem dX3_firstNib_8 : decode cX3_firstNib 8 = .ok (.iconst 0, 1) := by decide +kernel
theorem dX3_firstNib_9 : decode cX3_firstNib 9 = .ok (.istore_n 2, 1) := by decide +kernel
theorem dX3_firstNib_10 : decode cX3_firstNib 10 = .ok (.iload_n 2, 1) := by decide +kernel
theorem dX3_firstNib_11 : decode cX3_firstNib 11 = .ok (.bipush 6, 2) := by decide +kernel
theorem dX3_firstNib_13 : decode cX3_firstNib 13 = .ok (.if_icmp .gt 29, 3) := by decide +kernel
theorem dX3_firstNib_16 : decode cX3_firstNib 16 = .ok (.aload_n 0, 1) := by decide +kernel
theorem dX3_firstNib_17 : decode cX3_firstNib 17 = .ok (.iload_n 1, 1) := by decide +kernel
theorem dX3_firstNib_18 : decode cX3_firstNib 18 = .ok (.iconst 3, 1) := by decide +kernel
theorem dX3_firstNib_19 : decode cX3_firstNib 19 = .ok (.isub, 1) := by decide +kernel
theorem dX3_firstNib_20 : decode cX3_firstNib 20 = .ok (.iload_n 2, 1) := by decide +kernel
theorem dX3_firstNib_21 : decode cX3_firstNib 21 = .ok (.iconst 3, 1) := by decide +kernel
theorem dX3_firstNib_22 : decode cX3_firstNib 22 = .ok (.isub, 1) := by decide +kernel
theorem dX3_firstNib_23 : decode cX3_firstNib 23 = .ok (.invokevirtual 29, 3) := by decide +kernel
theorem dX3_firstNib_26 : decode cX3_firstNib 26 = .ok (.ifCond .eq 10, 3) := by decide +kernel
theorem dX3_firstNib_29 : decode cX3_firstNib 29 = .ok (.bipush 10, 2) := by decide +kernel
theorem dX3_firstNib_31 : decode cX3_firstNib 31 = .ok (.iload_n 1, 1) := by decide +kernel
theorem dX3_firstNib_32 : decode cX3_firstNib 32 = .ok (.imul, 1) := by decide +kernel
theorem dX3_firstNib_33 : decode cX3_firstNib 33 = .ok (.iload_n 2, 1) := by decide +kernel
theorem dX3_firstNib_34 : decode cX3_firstNib 34 = .ok (.iadd, 1) := by decide +kernel
theorem dX3_firstNib_35 : decode cX3_firstNib 35 = .ok (.ireturn, 1) := by decide +kernel
theorem dX3_firstNib_36 : decode cX3_firstNib 36 = .ok (.iinc 2 1, 3) := by decide +kernel
theorem dX3_firstNib_39 : decode cX3_firstNib 39 = .ok (.goto (-29), 3) := by decide +kernel
theorem dX3_firstNib_42 : decode cX3_firstNib 42 = .ok (.iinc 1 1, 3) := by decide +kernel
theorem dX3_firstNib_45 : decode cX3_firstNib 45 = .ok (.goto (-43), 3) := by decide +kernel
theorem dX3_firstNib_48 : decode cX3_firstNib 48 = .ok (.bipush (-9), 2) := by decide +kernel
theorem dX3_firstNib_50 : decode cX3_firstNib 50 = .ok (.ireturn, 1) := by decide +kernel
theorem dX3_fits_0 : decode cX3_fits 0 = .ok (.iload_n 1, 1) := by decide +kernel
theorem dX3_fits_1 : decode cX3_fits 1 = .ok (.ifCond .ne 9, 3) := by decide +kernel
theorem dX3_fits_4 : decode cX3_fits 4 = .ok (.iload_n 2, 1) := by decide +kernel
theorem dX3_fits_5 : decode cX3_fits 5 = .ok (.ifCond .ne 5, 3) := by decide +kernel
theorem dX3_fits_8 : decode cX3_fits 8 = .ok (.iconst 0, 1) := by decide +kernel
theorem dX3_fits_9 : decode cX3_fits 9 = .ok (.ireturn, 1) := by decide +kernel
theorem dX3_fits_10 : decode cX3_fits 10 = .ok (.aload_n 0, 1) := by decide +kernel
theorem dX3_fits_11 : decode cX3_fits 11 = .ok (.getfield 21, 3) := by decide +kernel
theorem dX3_fits_14 : decode cX3_fits 14 = .ok (.iload_n 1, 1) := by decide +kernel
theorem dX3_fits_15 : decode cX3_fits 15 = .ok (.putfield 33, 3) := by decide +kernel
theorem dX3_fits_18 : decode cX3_fits 18 = .ok (.aload_n 0, 1) := by decide +kernel
theorem dX3_fits_19 : decode cX3_fits 19 = .ok (.getfield 21, 3) := by decide +kernel
theorem dX3_fits_22 : decode cX3_fits 22 = .ok (.iload_n 2, 1) := by decide +kernel
theorem dX3_fits_23 : decode cX3_fits 23 = .ok (.putfield 36, 3) := by decide +kernel
theorem dX3_fits_26 : decode cX3_fits 26 = .ok (.iconst 0, 1) := by decide +kernel
theorem dX3_fits_27 : decode cX3_fits 27 = .ok (.istore_n 3, 1) := by decide +kernel
theorem dX3_fits_28 : decode cX3_fits 28 = .ok (.iload_n 3, 1) := by decide +kernel
theorem dX3_fits_29 : decode cX3_fits 29 = .ok (.aload_n 0, 1) := by decide +kernel
theorem dX3_fits_30 : decode cX3_fits 30 = .ok (.getfield 25, 3) := by decide +kernel
theorem dX3_fits_33 : decode cX3_fits 33 = .ok (.if_icmp .ge 39, 3) := by decide +kernel
theorem dX3_fits_36 : decode cX3_fits 36 = .ok (.iload_n 3, 1) := by decide +kernel
theorem dX3_fits_37 : decode cX3_fits 37 = .ok (.bipush 6, 2) := by decide +kernel
theorem dX3_fits_39 : decode cX3_fits 39 = .ok (.if_icmp .ge 33, 3) := by decide +kernel
theorem dX3_fits_42 : decode cX3_fits 42 = .ok (.aload_n 0, 1) := by decide +kernel
theorem dX3_fits_43 : decode cX3_fits 43 = .ok (.getfield 21, 3) := by decide +kernel
theorem dX3_fits_46 : decode cX3_fits 46 = .ok (.aload_n 0, 1) := by decide +kernel
theorem dX3_fits_47 : decode cX3_fits 47 = .ok (.getfield 9, 3) := by decide +kernel
theorem dX3_fits_50 : decode cX3_fits 50 = .ok (.iload_n 3, 1) := by decide +kernel
theorem dX3_fits_51 : decode cX3_fits 51 = .ok (.iaload, 1) := by decide +kernel
theorem dX3_fits_52 : decode cX3_fits 52 = .ok (.invokevirtual 39, 3) := by decide +kernel
theorem dX3_fits_55 : decode cX3_fits 55 = .ok (.aload_n 0, 1) := by decide +kernel
theorem dX3_fits_56 : decode cX3_fits 56 = .ok (.getfield 15, 3) := by decide +kernel
theorem dX3_fits_59 : decode cX3_fits 59 = .ok (.iload_n 3, 1) := by decide +kernel
theorem dX3_fits_60 : decode cX3_fits 60 = .ok (.iaload, 1) := by decide +kernel
theorem dX3_fits_61 : decode cX3_fits 61 = .ok (.if_icmp .eq 5, 3) := by decide +kernel
theorem dX3_fits_64 : decode cX3_fits 64 = .ok (.iconst 0, 1) := by decide +kernel
theorem dX3_fits_65 : decode cX3_fits 65 = .ok (.ireturn, 1) := by decide +kernel
theorem dX3_fits_66 : decode cX3_fits 66 = .ok (.iinc 3 1, 3) := by decide +kernel
theorem dX3_fits_69 : decode cX3_fits 69 = .ok (.goto (-41), 3) := by decide +kernel
theorem dX3_fits_72 : decode cX3_fits 72 = .ok (.iconst 1, 1) := by decide +kernel
theorem dX3_fits_73 : decode cX3_fits 73 = .ok (.ireturn, 1) := by decide +kernel
theorem dX4_init_0 : decode cX4_init 0 = .ok (.aload_n 0, 1) := by decide +kernel
theorem dX4_init_1 : decode cX4_init 1 = .ok (.invokespecial 3, 3) := by decide +kernel
theorem dX4_init_4 : decode cX4_init 4 = .ok (.aload_n 0, 1) := by decide +kernel
theorem dX4_init_5 : decode cX4_init 5 = .ok (.iconst 4, 1) := by decide +kernel
theorem dX4_init_6 : decode cX4_init 6 = .ok (.anewarray 9, 3) := by decide +kernel
theorem dX4_init_9 : decode cX4_init 9 = .ok (.putfield 11, 3) := by decide +kernel
theorem dX4_init_12 : decode cX4_init 12 = .ok (.aload_n 0, 1) := by decide +kernel
theorem dX4_init_13 : decode cX4_init 13 = .ok (.bipush 25, 2) := by decide +kernel
theorem dX4_init_15 : decode cX4_init 15 = .ok (.newarray .int, 2) := by decide +kernel
theorem dX4_init_17 : decode cX4_init 17 = .ok (.putfield 17, 3) := by decide +kernel
theorem dX4_init_20 : decode cX4_init 20 = .ok (.iconst 0, 1) := by decide +kernel
theorem dX4_init_21 : decode cX4_init 21 = .ok (.istore_n 1, 1) := by decide +kernel
theorem dX4_init_22 : decode cX4_init 22 = .ok (.iload_n 1, 1) := by decide +kernel
theorem dX4_init_23 : decode cX4_init 23 = .ok (.iconst 4, 1) := by decide +kernel
theorem dX4_init_24 : decode cX4_init 24 = .ok (.if_icmp .ge 22, 3) := by decide +kernel
theorem dX4_init_27 : decode cX4_init 27 = .ok (.aload_n 0, 1) := by decide +kernel
theorem dX4_init_28 : decode cX4_init 28 = .ok (.getfield 11, 3) := by decide +kernel
theorem dX4_init_31 : decode cX4_init 31 = .ok (.iload_n 1, 1) := by decide +kernel
theorem dX4_init_32 : decode cX4_init 32 = .ok (.new 9, 3) := by decide +kernel
theorem dX4_init_35 : decode cX4_init 35 = .ok (.dup, 1) := by decide +kernel
theorem dX4_init_36 : decode cX4_init 36 = .ok (.invokespecial 21, 3) := by decide +kernel
theorem dX4_init_39 : decode cX4_init 39 = .ok (.aastore, 1) := by decide +kernel
theorem dX4_init_40 : decode cX4_init 40 = .ok (.iinc 1 1, 3) := by decide +kernel
theorem dX4_init_43 : decode cX4_init 43 = .ok (.goto (-21), 3) := by decide +kernel
theorem dX4_init_46 : decode cX4_init 46 = .ok (.return_, 1) := by decide +kernel
theorem dX4_clear_0 : decode cX4_clear 0 = .ok (.aload_n 0, 1) := by decide +kernel
theorem dX4_clear_1 : decode cX4_clear 1 = .ok (.iconst 0, 1) := by decide +kernel
theorem dX4_clear_2 : decode cX4_clear 2 = .ok (.putfield 22, 3) := by decide +kernel
theorem dX4_clear_5 : decode cX4_clear 5 = .ok (.aload_n 0, 1) := by decide +kernel
theorem dX4_clear_6 : decode cX4_clear 6 = .ok (.iconst 0, 1) := by decide +kernel
theorem dX4_clear_7 : decode cX4_clear 7 = .ok (.putfield 26, 3) := by decide +kernel
theorem dX4_clear_10 : decode cX4_clear 10 = .ok (.aload_n 0, 1) := by decide +kernel
theorem dX4_clear_11 : decode cX4_clear 11 = .ok (.getfield 17, 3) := by decide +kernel
theorem dX4_clear_14 : decode cX4_clear 14 = .ok (.iconst 0, 1) := by decide +kernel
theorem dX4_clear_15 : decode cX4_clear 15 = .ok (.invokestatic 29, 3) := by decide +kernel
theorem dX4_clear_18 : decode cX4_clear 18 = .ok (.return_, 1) := by decide +kernel
theorem dX4_copy_0 : decode cX4_copy 0 = .ok (.aload_n 0, 1) := by decide +kernel
theorem dX4_copy_1 : decode cX4_copy 1 = .ok (.aload_n 1, 1) := by decide +kernel
theorem dX4_copy_2 : decode cX4_copy 2 = .ok (.getfield 22, 3) := by decide +kernel
theorem dX4_copy_5 : decode cX4_copy 5 = .ok (.putfield 22, 3) := by decide +kernel
theorem dX4_copy_8 : decode cX4_copy 8 = .ok (.aload_n 0, 1) := by decide +kernel
theorem dX4_copy_9 : decode cX4_copy 9 = .ok (.aload_n 1, 1) := by decide +kernel
theorem dX4_copy_10 : decode cX4_copy 10 = .ok (.getfield 26, 3) := by decide +kernel
theorem dX4_copy_13 : decode cX4_copy 13 = .ok (.putfield 26, 3) := by decide +kernel
theorem dX4_copy_16 : decode cX4_copy 16 = .ok (.aload_n 1, 1) := by decide +kernel
theorem dX4_copy_17 : decode cX4_copy 17 = .ok (.getfield 17, 3) := by decide +kernel
theorem dX4_copy_20 : decode cX4_copy 20 = .ok (.iconst 0, 1) := by decide +kernel
theorem dX4_copy_21 : decode cX4_copy 21 = .ok (.aload_n 0, 1) := by decide +kernel
theorem dX4_copy_22 : decode cX4_copy 22 = .ok (.getfield 17, 3) := by decide +kernel
theorem dX4_copy_25 : decode cX4_copy 25 = .ok (.iconst 0, 1) := by decide +kernel
theorem dX4_copy_26 : decode cX4_copy 26 = .ok (.bipush 25, 2) := by decide +kernel
theorem dX4_copy_28 : decode cX4_copy 28 = .ok (.invokestatic 35, 3) := by decide +kernel
theorem dX4_copy_31 : decode cX4_copy 31 = .ok (.iconst 0, 1) := by decide +kernel
theorem dX4_copy_32 : decode cX4_copy 32 = .ok (.istore_n 2, 1) := by decide +kernel
theorem dX4_copy_33 : decode cX4_copy 33 = .ok (.iload_n 2, 1) := by decide +kernel
theorem dX4_copy_34 : decode cX4_copy 34 = .ok (.aload_n 0, 1) := by decide +kernel
theorem dX4_copy_35 : decode cX4_copy 35 = .ok (.getfield 22, 3) := by decide +kernel
theorem dX4_copy_38 : decode cX4_copy 38 = .ok (.if_icmp .ge 29, 3) := by decide +kernel
theorem dX4_copy_41 : decode cX4_copy 41 = .ok (.iload_n 2, 1) := by decide +kernel
theorem dX4_copy_42 : decode cX4_copy 42 = .ok (.iconst 4, 1) := by decide +kernel
theorem dX4_copy_43 : decode cX4_copy 43 = .ok (.if_icmp .ge 24, 3) := by decide +kernel
theorem dX4_copy_46 : decode cX4_copy 46 = .ok (.aload_n 0, 1) := by decide +kernel
theorem dX4_copy_47 : decode cX4_copy 47 = .ok (.getfield 11, 3) := by decide +kernel
theorem dX4_copy_50 : decode cX4_copy 50 = .ok (.iload_n 2, 1) := by decide +kernel
theorem dX4_copy_51 : decode cX4_copy 51 = .ok (.aaload, 1) := by decide +kernel
theorem dX4_copy_52 : decode cX4_copy 52 = .ok (.aload_n 1, 1) := by decide +kernel
theorem dX4_copy_53 : decode cX4_copy 53 = .ok (.getfield 11, 3) := by decide +kernel
theorem dX4_copy_56 : decode cX4_copy 56 = .ok (.iload_n 2, 1) := by decide +kernel
theorem dX4_copy_57 : decode cX4_copy 57 = .ok (.aaload, 1) := by decide +kernel
theorem dX4_copy_58 : decode cX4_copy 58 = .ok (.invokevirtual 41, 3) := by decide +kernel
theorem dX4_copy_61 : decode cX4_copy 61 = .ok (.iinc 2 1, 3) := by decide +kernel
theorem dX4_copy_64 : decode cX4_copy 64 = .ok (.goto (-31), 3) := by decide +kernel
theorem dX4_copy_67 : decode cX4_copy 67 = .ok (.return_, 1) := by decide +kernel
theorem dX4_addPen_0 : decode cX4_addPen 0 = .ok (.aload_n 0, 1) := by decide +kernel
theorem dX4_addPen_1 : decode cX4_addPen 1 = .ok (.getfield 22, 3) := by decide +kernel
theorem dX4_addPen_4 : decode cX4_addPen 4 = .ok (.ifCond .lt 11, 3) := by decide +kernel
theorem dX4_addPen_7 : decode cX4_addPen 7 = .ok (.aload_n 0, 1) := by decide +kernel
theorem dX4_addPen_8 : decode cX4_addPen 8 = .ok (.getfield 22, 3) := by decide +kernel
theorem dX4_addPen_11 : decode cX4_addPen 11 = .ok (.iconst 4, 1) := by decide +kernel
theorem dX4_addPen_12 : decode cX4_addPen 12 = .ok (.if_icmp .lt 5, 3) := by decide +kernel
theorem dX4_addPen_15 : decode cX4_addPen 15 = .ok (.aconst_null, 1) := by decide +kernel
theorem dX4_addPen_16 : decode cX4_addPen 16 = .ok (.areturn, 1) := by decide +kernel
theorem dX4_addPen_17 : decode cX4_addPen 17 = .ok (.aload_n 0, 1) := by decide +kernel
theorem dX4_addPen_18 : decode cX4_addPen 18 = .ok (.dup, 1) := by decide +kernel
theorem dX4_addPen_19 : decode cX4_addPen 19 = .ok (.getfield 22, 3) := by decide +kernel
theorem dX4_addPen_22 : decode cX4_addPen 22 = .ok (.iconst 1, 1) := by decide +kernel
theorem dX4_addPen_23 : decode cX4_addPen 23 = .ok (.iadd, 1) := by decide +kernel
theorem dX4_addPen_24 : decode cX4_addPen 24 = .ok (.putfield 22, 3) := by decide +kernel
theorem dX4_addPen_27 : decode cX4_addPen 27 = .ok (.aload_n 0, 1) := by decide +kernel
theorem dX4_addPen_28 : decode cX4_addPen 28 = .ok (.getfield 11, 3) := by decide +kernel
theorem dX4_addPen_31 : decode cX4_addPen 31 = .ok (.aload_n 0, 1) := by decide +kernel
theorem dX4_addPen_32 : decode cX4_addPen 32 = .ok (.getfield 22, 3) := by decide +kernel
theorem dX4_addPen_35 : decode cX4_addPen 35 = .ok (.iconst 1, 1) := by decide +kernel
theorem dX4_addPen_36 : decode cX4_addPen 36 = .ok (.isub, 1) := by decide +kernel
theorem dX4_addPen_37 : decode cX4_addPen 37 = .ok (.aaload, 1) := by decide +kernel
theorem dX4_addPen_38 : decode cX4_addPen 38 = .ok (.areturn, 1) := by decide +kernel
theorem dX4_find_0 : decode cX4_find 0 = .ok (.iload_n 1, 1) := by decide +kernel
theorem dX4_find_1 : decode cX4_find 1 = .ok (.ifCond .lt 25, 3) := by decide +kernel
theorem dX4_find_4 : decode cX4_find 4 = .ok (.iload_n 1, 1) := by decide +kernel
theorem dX4_find_5 : decode cX4_find 5 = .ok (.aload_n 0, 1) := by decide +kernel
theorem dX4_find_6 : decode cX4_find 6 = .ok (.getfield 22, 3) := by decide +kernel
theorem dX4_find_9 : decode cX4_find 9 = .ok (.if_icmp .ge 17, 3) := by decide +kernel
theorem dX4_find_12 : decode cX4_find 12 = .ok (.iload_n 1, 1) := by decide +kernel
theorem dX4_find_13 : decode cX4_find 13 = .ok (.iconst 4, 1) := by decide +kernel
theorem dX4_find_14 : decode cX4_find 14 = .ok (.if_icmp .ge 12, 3) := by decide +kernel
theorem dX4_find_17 : decode cX4_find 17 = .ok (.aload_n 0, 1) := by decide +kernel
theorem dX4_find_18 : decode cX4_find 18 = .ok (.getfield 11, 3) := by decide +kernel
theorem dX4_find_21 : decode cX4_find 21 = .ok (.iload_n 1, 1) := by decide +kernel
theorem dX4_find_22 : decode cX4_find 22 = .ok (.aaload, 1) := by decide +kernel
theorem dX4_find_23 : decode cX4_find 23 = .ok (.goto 4, 3) := by decide +kernel
theorem dX4_find_26 : decode cX4_find 26 = .ok (.aconst_null, 1) := by decide +kernel
theorem dX4_find_27 : decode cX4_find 27 = .ok (.areturn, 1) := by decide +kernel
theorem dX4_inkOf_0 : decode cX4_inkOf 0 = .ok (.aload_n 0, 1) := by decide +kernel
theorem dX4_inkOf_1 : decode cX4_inkOf 1 = .ok (.iload_n 1, 1) := by decide +kernel
theorem dX4_inkOf_2 : decode cX4_inkOf 2 = .ok (.invokevirtual 45, 3) := by decide +kernel
theorem dX4_inkOf_5 : decode cX4_inkOf 5 = .ok (.astore_n 2, 1) := by decide +kernel
theorem dX4_inkOf_6 : decode cX4_inkOf 6 = .ok (.aload_n 2, 1) := by decide +kernel
theorem dX4_inkOf_7 : decode cX4_inkOf 7 = .ok (.ifnonnull 7, 3) := by decide +kernel
theorem dX4_inkOf_10 : decode cX4_inkOf 10 = .ok (.iconst 0, 1) := by decide +kernel
theorem dX4_inkOf_11 : decode cX4_inkOf 11 = .ok (.goto 7, 3) := by decide +kernel
theorem dX4_inkOf_14 : decode cX4_inkOf 14 = .ok (.aload_n 2, 1) := by decide +kernel
theorem dX4_inkOf_15 : decode cX4_inkOf 15 = .ok (.getfield 49, 3) := by decide +kernel
theorem dX4_inkOf_18 : decode cX4_inkOf 18 = .ok (.ireturn, 1) := by decide +kernel
theorem dX4_inkOn_0 : decode cX4_inkOn 0 = .ok (.iload_n 1, 1) := by decide +kernel
theorem dX4_inkOn_1 : decode cX4_inkOn 1 = .ok (.invokestatic 51, 3) := by decide +kernel
theorem dX4_inkOn_4 : decode cX4_inkOn 4 = .ok (.ifCond .eq 12, 3) := by decide +kernel
theorem dX4_inkOn_7 : decode cX4_inkOn 7 = .ok (.aload_n 0, 1) := by decide +kernel
theorem dX4_inkOn_8 : decode cX4_inkOn 8 = .ok (.getfield 17, 3) := by decide +kernel
theorem dX4_inkOn_11 : decode cX4_inkOn 11 = .ok (.iload_n 1, 1) := by decide +kernel
theorem dX4_inkOn_12 : decode cX4_inkOn 12 = .ok (.iaload, 1) := by decide +kernel
theorem dX4_inkOn_13 : decode cX4_inkOn 13 = .ok (.goto 4, 3) := by decide +kernel
theorem dX4_inkOn_16 : decode cX4_inkOn 16 = .ok (.iconst 0, 1) := by decide +kernel
theorem dX4_inkOn_17 : decode cX4_inkOn 17 = .ok (.ireturn, 1) := by decide +kernel
theorem dX4_setInk_0 : decode cX4_setInk 0 = .ok (.iload_n 1, 1) := by decide +kernel
theorem dX4_setInk_1 : decode cX4_setInk 1 = .ok (.invokestatic 51, 3) := by decide +kernel
theorem dX4_setInk_4 : decode cX4_setInk 4 = .ok (.ifCond .eq 10, 3) := by decide +kernel
theorem dX4_setInk_7 : decode cX4_setInk 7 = .ok (.aload_n 0, 1) := by decide +kernel
theorem dX4_setInk_8 : decode cX4_setInk 8 = .ok (.getfield 17, 3) := by decide +kernel
theorem dX4_setInk_11 : decode cX4_setInk 11 = .ok (.iload_n 1, 1) := by decide +kernel
theorem dX4_setInk_12 : decode cX4_setInk 12 = .ok (.iload_n 2, 1) := by decide +kernel
theorem dX4_setInk_13 : decode cX4_setInk 13 = .ok (.iastore, 1) := by decide +kernel
theorem dX4_setInk_14 : decode cX4_setInk 14 = .ok (.return_, 1) := by decide +kernel
theorem dX4_clean_0 : decode cX4_clean 0 = .ok (.aload_n 0, 1) := by decide +kernel
theorem dX4_clean_1 : decode cX4_clean 1 = .ok (.iload_n 1, 1) := by decide +kernel
theorem dX4_clean_2 : decode cX4_clean 2 = .ok (.invokevirtual 55, 3) := by decide +kernel
theorem dX4_clean_5 : decode cX4_clean 5 = .ok (.istore_n 2, 1) := by decide +kernel
theorem dX4_clean_6 : decode cX4_clean 6 = .ok (.aload_n 0, 1) := by decide +kernel
theorem dX4_clean_7 : decode cX4_clean 7 = .ok (.iload_n 1, 1) := by decide +kernel
theorem dX4_clean_8 : decode cX4_clean 8 = .ok (.iconst 0, 1) := by decide +kernel
theorem dX4_clean_9 : decode cX4_clean 9 = .ok (.invokevirtual 59, 3) := by decide +kernel
theorem dX4_clean_12 : decode cX4_clean 12 = .ok (.iload_n 2, 1) := by decide +kernel
theorem dX4_clean_13 : decode cX4_clean 13 = .ok (.ireturn, 1) := by decide +kernel
theorem dX4_move_0 : decode cX4_move 0 = .ok (.aload_n 1, 1) := by decide +kernel
theorem dX4_move_1 : decode cX4_move 1 = .ok (.getfield 63, 3) := by decide +kernel
theorem dX4_move_4 : decode cX4_move 4 = .ok (.iload_n 2, 1) := by decide +kernel
theorem dX4_move_5 : decode cX4_move 5 = .ok (.invokestatic 66, 3) := by decide +kernel
theorem dX4_move_8 : decode cX4_move 8 = .ok (.istore_n 3, 1) := by decide +kernel
theorem dX4_move_9 : decode cX4_move 9 = .ok (.iload_n 3, 1) := by decide +kernel
theorem dX4_move_10 : decode cX4_move 10 = .ok (.bipush (-9), 2) := by decide +kernel
theorem dX4_move_12 : decode cX4_move 12 = .ok (.if_icmp .ne 6, 3) := by decide +kernel
theorem dX4_move_15 : decode cX4_move 15 = .ok (.bipush (-9), 2) := by decide +kernel
theorem dX4_move_17 : decode cX4_move 17 = .ok (.ireturn, 1) := by decide +kernel
theorem dX4_move_18 : decode cX4_move 18 = .ok (.aload_n 1, 1) := by decide +kernel
theorem dX4_move_19 : decode cX4_move 19 = .ok (.iload_n 2, 1) := by decide +kernel
theorem dX4_move_20 : decode cX4_move 20 = .ok (.aload_n 1, 1) := by decide +kernel
theorem dX4_move_21 : decode cX4_move 21 = .ok (.getfield 49, 3) := by decide +kernel
theorem dX4_move_24 : decode cX4_move 24 = .ok (.invokevirtual 70, 3) := by decide +kernel
theorem dX4_move_27 : decode cX4_move 27 = .ok (.istore 4, 2) := by decide +kernel
theorem dX4_move_29 : decode cX4_move 29 = .ok (.aload_n 1, 1) := by decide +kernel
theorem dX4_move_30 : decode cX4_move 30 = .ok (.iload_n 3, 1) := by decide +kernel
theorem dX4_move_31 : decode cX4_move 31 = .ok (.putfield 63, 3) := by decide +kernel
theorem dX4_move_34 : decode cX4_move 34 = .ok (.aload_n 1, 1) := by decide +kernel
theorem dX4_move_35 : decode cX4_move 35 = .ok (.dup, 1) := by decide +kernel
theorem dX4_move_36 : decode cX4_move 36 = .ok (.getfield 49, 3) := by decide +kernel
theorem dX4_move_39 : decode cX4_move 39 = .ok (.iload 4, 2) := by decide +kernel
theorem dX4_move_41 : decode cX4_move 41 = .ok (.isub, 1) := by decide +kernel
theorem dX4_move_42 : decode cX4_move 42 = .ok (.putfield 49, 3) := by decide +kernel
theorem dX4_move_45 : decode cX4_move 45 = .ok (.aload_n 0, 1) := by decide +kernel
theorem dX4_move_46 : decode cX4_move 46 = .ok (.iload_n 3, 1) := by decide +kernel
theorem dX4_move_47 : decode cX4_move 47 = .ok (.bipush 99, 2) := by decide +kernel
theorem dX4_move_49 : decode cX4_move 49 = .ok (.aload_n 0, 1) := by decide +kernel
theorem dX4_move_50 : decode cX4_move 50 = .ok (.iload_n 3, 1) := by decide +kernel
theorem dX4_move_51 : decode cX4_move 51 = .ok (.invokevirtual 55, 3) := by decide +kernel
theorem dX4_move_54 : decode cX4_move 54 = .ok (.iload 4, 2) := by decide +kernel
theorem dX4_move_56 : decode cX4_move 56 = .ok (.iadd, 1) := by decide +kernel
theorem dX4_move_57 : decode cX4_move 57 = .ok (.invokestatic 73, 3) := by decide +kernel
theorem dX4_move_60 : decode cX4_move 60 = .ok (.invokevirtual 59, 3) := by decide +kernel
theorem dX4_move_63 : decode cX4_move 63 = .ok (.aload_n 0, 1) := by decide +kernel
theorem dX4_move_64 : decode cX4_move 64 = .ok (.dup, 1) := by decide +kernel
theorem dX4_move_65 : decode cX4_move 65 = .ok (.getfield 26, 3) := by decide +kernel
theorem dX4_move_68 : decode cX4_move 68 = .ok (.iconst 1, 1) := by decide +kernel
theorem dX4_move_69 : decode cX4_move 69 = .ok (.iadd, 1) := by decide +kernel
theorem dX4_move_70 : decode cX4_move 70 = .ok (.putfield 26, 3) := by decide +kernel
theorem dX4_move_73 : decode cX4_move 73 = .ok (.iload 4, 2) := by decide +kernel
theorem dX4_move_75 : decode cX4_move 75 = .ok (.ireturn, 1) := by decide +kernel
theorem dX4_follow_0 : decode cX4_follow 0 = .ok (.iload_n 3, 1) := by decide +kernel
theorem dX4_follow_1 : decode cX4_follow 1 = .ok (.aload_n 2, 1) := by decide +kernel
theorem dX4_follow_2 : decode cX4_follow 2 = .ok (.getfield 78, 3) := by decide +kernel
theorem dX4_follow_5 : decode cX4_follow 5 = .ok (.invokestatic 73, 3) := by decide +kernel
theorem dX4_follow_8 : decode cX4_follow 8 = .ok (.istore 4, 2) := by decide +kernel
theorem dX4_follow_10 : decode cX4_follow 10 = .ok (.iconst 0, 1) := by decide +kernel
theorem dX4_follow_11 : decode cX4_follow 11 = .ok (.istore 5, 2) := by decide +kernel
theorem dX4_follow_13 : decode cX4_follow 13 = .ok (.iload 5, 2) := by decide +kernel
theorem dX4_follow_15 : decode cX4_follow 15 = .ok (.iload 4, 2) := by decide +kernel
theorem dX4_follow_17 : decode cX4_follow 17 = .ok (.if_icmp .ge 32, 3) := by decide +kernel
theorem dX4_follow_20 : decode cX4_follow 20 = .ok (.aload_n 1, 1) := by decide +kernel
theorem dX4_follow_21 : decode cX4_follow 21 = .ok (.ifnull 19, 3) := by decide +kernel
theorem dX4_follow_24 : decode cX4_follow 24 = .ok (.aload_n 0, 1) := by decide +kernel
theorem dX4_follow_25 : decode cX4_follow 25 = .ok (.aload_n 1, 1) := by decide +kernel
theorem dX4_follow_26 : decode cX4_follow 26 = .ok (.aload_n 2, 1) := by decide +kernel
theorem dX4_follow_27 : decode cX4_follow 27 = .ok (.iload 5, 2) := by decide +kernel
theorem dX4_follow_29 : decode cX4_follow 29 = .ok (.invokevirtual 83, 3) := by decide +kernel
theorem dX4_follow_32 : decode cX4_follow 32 = .ok (.invokevirtual 86, 3) := by decide +kernel
theorem dX4_follow_35 : decode cX4_follow 35 = .ok (.bipush (-9), 2) := by decide +kernel
theorem dX4_follow_37 : decode cX4_follow 37 = .ok (.if_icmp .ne 6, 3) := by decide +kernel
theorem dX4_follow_40 : decode cX4_follow 40 = .ok (.iload 5, 2) := by decide +kernel
theorem dX4_follow_42 : decode cX4_follow 42 = .ok (.ireturn, 1) := by decide +kernel
theorem dX4_follow_43 : decode cX4_follow 43 = .ok (.iinc 5 1, 3) := by decide +kernel
theorem dX4_follow_46 : decode cX4_follow 46 = .ok (.goto (-33), 3) := by decide +kernel
theorem dX4_follow_49 : decode cX4_follow 49 = .ok (.iload 4, 2) := by decide +kernel
theorem dX4_follow_51 : decode cX4_follow 51 = .ok (.ireturn, 1) := by decide +kernel
theorem dX4_isBlack_0 : decode cX4_isBlack 0 = .ok (.aload_n 0, 1) := by decide +kernel
theorem dX4_isBlack_1 : decode cX4_isBlack 1 = .ok (.iload_n 1, 1) := by decide +kernel
theorem dX4_isBlack_2 : decode cX4_isBlack 2 = .ok (.invokevirtual 55, 3) := by decide +kernel
theorem dX4_isBlack_5 : decode cX4_isBlack 5 = .ok (.iconst 3, 1) := by decide +kernel
theorem dX4_isBlack_6 : decode cX4_isBlack 6 = .ok (.if_icmp .lt 7, 3) := by decide +kernel
theorem dX4_isBlack_9 : decode cX4_isBlack 9 = .ok (.iconst 1, 1) := by decide +kernel
theorem dX4_isBlack_10 : decode cX4_isBlack 10 = .ok (.goto 4, 3) := by decide +kernel
theorem dX4_isBlack_13 : decode cX4_isBlack 13 = .ok (.iconst 0, 1) := by decide +kernel
theorem dX4_isBlack_14 : decode cX4_isBlack 14 = .ok (.ireturn, 1) := by decide +kernel
theorem dX4_inkOnAll_0 : decode cX4_inkOnAll 0 = .ok (.iconst 0, 1) := by decide +kernel
theorem dX4_inkOnAll_1 : decode cX4_inkOnAll 1 = .ok (.istore_n 1, 1) := by decide +kernel
theorem dX4_inkOnAll_2 : decode cX4_inkOnAll 2 = .ok (.iconst 0, 1) := by decide +kernel
theorem dX4_inkOnAll_3 : decode cX4_inkOnAll 3 = .ok (.istore_n 2, 1) := by decide +kernel
theorem dX4_inkOnAll_4 : decode cX4_inkOnAll 4 = .ok (.iload_n 2, 1) := by decide +kernel
theorem dX4_inkOnAll_5 : decode cX4_inkOnAll 5 = .ok (.bipush 25, 2) := by decide +kernel
theorem dX4_inkOnAll_7 : decode cX4_inkOnAll 7 = .ok (.if_icmp .ge 18, 3) := by decide +kernel
theorem dX4_inkOnAll_10 : decode cX4_inkOnAll 10 = .ok (.iload_n 1, 1) := by decide +kernel
theorem dX4_inkOnAll_11 : decode cX4_inkOnAll 11 = .ok (.aload_n 0, 1) := by decide +kernel
theorem dX4_inkOnAll_12 : decode cX4_inkOnAll 12 = .ok (.getfield 17, 3) := by decide +kernel
theorem dX4_inkOnAll_15 : decode cX4_inkOnAll 15 = .ok (.iload_n 2, 1) := by decide +kernel
theorem dX4_inkOnAll_16 : decode cX4_inkOnAll 16 = .ok (.iaload, 1) := by decide +kernel
theorem dX4_inkOnAll_17 : decode cX4_inkOnAll 17 = .ok (.iadd, 1) := by decide +kernel
theorem dX4_inkOnAll_18 : decode cX4_inkOnAll 18 = .ok (.istore_n 1, 1) := by decide +kernel
theorem dX4_inkOnAll_19 : decode cX4_inkOnAll 19 = .ok (.iinc 2 1, 3) := by decide +kernel
theorem dX4_inkOnAll_22 : decode cX4_inkOnAll 22 = .ok (.goto (-18), 3) := by decide +kernel
theorem dX4_inkOnAll_25 : decode cX4_inkOnAll 25 = .ok (.iload_n 1, 1) := by decide +kernel
theorem dX4_inkOnAll_26 : decode cX4_inkOnAll 26 = .ok (.ireturn, 1) := by decide +kernel
theorem dX4_blackBits_0 : decode cX4_blackBits 0 = .ok (.iconst 0, 1) := by decide +kernel
theorem dX4_blackBits_1 : decode cX4_blackBits 1 = .ok (.istore_n 1, 1) := by decide +kernel
theorem dX4_blackBits_2 : decode cX4_blackBits 2 = .ok (.iconst 0, 1) := by decide +kernel
theorem dX4_blackBits_3 : decode cX4_blackBits 3 = .ok (.istore_n 2, 1) := by decide +kernel
theorem dX4_blackBits_4 : decode cX4_blackBits 4 = .ok (.iload_n 2, 1) := by decide +kernel
theorem dX4_blackBits_5 : decode cX4_blackBits 5 = .ok (.bipush 25, 2) := by decide +kernel
theorem dX4_blackBits_7 : decode cX4_blackBits 7 = .ok (.if_icmp .ge 23, 3) := by decide +kernel
theorem dX4_blackBits_10 : decode cX4_blackBits 10 = .ok (.aload_n 0, 1) := by decide +kernel
theorem dX4_blackBits_11 : decode cX4_blackBits 11 = .ok (.iload_n 2, 1) := by decide +kernel
theorem dX4_blackBits_12 : decode cX4_blackBits 12 = .ok (.invokevirtual 90, 3) := by decide +kernel
theorem dX4_blackBits_15 : decode cX4_blackBits 15 = .ok (.ifCond .eq 9, 3) := by decide +kernel
theorem dX4_blackBits_18 : decode cX4_blackBits 18 = .ok (.iload_n 1, 1) := by decide +kernel
theorem dX4_blackBits_19 : decode cX4_blackBits 19 = .ok (.iconst 1, 1) := by decide +kernel
theorem dX4_blackBits_20 : decode cX4_blackBits 20 = .ok (.iload_n 2, 1) := by decide +kernel
theorem dX4_blackBits_21 : decode cX4_blackBits 21 = .ok (.ishl, 1) := by decide +kernel
theorem dX4_blackBits_22 : decode cX4_blackBits 22 = .ok (.ior, 1) := by decide +kernel
theorem dX4_blackBits_23 : decode cX4_blackBits 23 = .ok (.istore_n 1, 1) := by decide +kernel
theorem dX4_blackBits_24 : decode cX4_blackBits 24 = .ok (.iinc 2 1, 3) := by decide +kernel
theorem dX4_blackBits_27 : decode cX4_blackBits 27 = .ok (.goto (-23), 3) := by decide +kernel
theorem dX4_blackBits_30 : decode cX4_blackBits 30 = .ok (.iload_n 1, 1) := by decide +kernel
theorem dX4_blackBits_31 : decode cX4_blackBits 31 = .ok (.ireturn, 1) := by decide +kernel
theorem dX4_downBits_0 : decode cX4_downBits 0 = .ok (.iconst 0, 1) := by decide +kernel
theorem dX4_downBits_1 : decode cX4_downBits 1 = .ok (.istore_n 1, 1) := by decide +kernel
theorem dX4_downBits_2 : decode cX4_downBits 2 = .ok (.iconst 0, 1) := by decide +kernel
theorem dX4_downBits_3 : decode cX4_downBits 3 = .ok (.istore_n 2, 1) := by decide +kernel
theorem dX4_downBits_4 : decode cX4_downBits 4 = .ok (.iload_n 2, 1) := by decide +kernel
theorem dX4_downBits_5 : decode cX4_downBits 5 = .ok (.aload_n 0, 1) := by decide +kernel
theorem dX4_downBits_6 : decode cX4_downBits 6 = .ok (.getfield 22, 3) := by decide +kernel
theorem dX4_downBits_9 : decode cX4_downBits 9 = .ok (.if_icmp .ge 32, 3) := by decide +kernel
theorem dX4_downBits_12 : decode cX4_downBits 12 = .ok (.iload_n 2, 1) := by decide +kernel
theorem dX4_downBits_13 : decode cX4_downBits 13 = .ok (.iconst 4, 1) := by decide +kernel
theorem dX4_downBits_14 : decode cX4_downBits 14 = .ok (.if_icmp .ge 27, 3) := by decide +kernel
theorem dX4_downBits_17 : decode cX4_downBits 17 = .ok (.aload_n 0, 1) := by decide +kernel
theorem dX4_downBits_18 : decode cX4_downBits 18 = .ok (.getfield 11, 3) := by decide +kernel
theorem dX4_downBits_21 : decode cX4_downBits 21 = .ok (.iload_n 2, 1) := by decide +kernel
theorem dX4_downBits_22 : decode cX4_downBits 22 = .ok (.aaload, 1) := by decide +kernel
theorem dX4_downBits_23 : decode cX4_downBits 23 = .ok (.getfield 93, 3) := by decide +kernel
theorem dX4_downBits_26 : decode cX4_downBits 26 = .ok (.ifCond .eq 9, 3) := by decide +kernel
theorem dX4_downBits_29 : decode cX4_downBits 29 = .ok (.iload_n 1, 1) := by decide +kernel
theorem dX4_downBits_30 : decode cX4_downBits 30 = .ok (.iconst 1, 1) := by decide +kernel
theorem dX4_downBits_31 : decode cX4_downBits 31 = .ok (.iload_n 2, 1) := by decide +kernel
theorem dX4_downBits_32 : decode cX4_downBits 32 = .ok (.ishl, 1) := by decide +kernel
theorem dX4_downBits_33 : decode cX4_downBits 33 = .ok (.ior, 1) := by decide +kernel
theorem dX4_downBits_34 : decode cX4_downBits 34 = .ok (.istore_n 1, 1) := by decide +kernel
theorem dX4_downBits_35 : decode cX4_downBits 35 = .ok (.iinc 2 1, 3) := by decide +kernel
theorem dX4_downBits_38 : decode cX4_downBits 38 = .ok (.goto (-34), 3) := by decide +kernel
theorem dX4_downBits_41 : decode cX4_downBits 41 = .ok (.iload_n 1, 1) := by decide +kernel
theorem dX4_downBits_42 : decode cX4_downBits 42 = .ok (.ireturn, 1) := by decide +kernel
theorem dX4_fullBits_0 : decode cX4_fullBits 0 = .ok (.iconst 0, 1) := by decide +kernel
theorem dX4_fullBits_1 : decode cX4_fullBits 1 = .ok (.istore_n 1, 1) := by decide +kernel
theorem dX4_fullBits_2 : decode cX4_fullBits 2 = .ok (.iconst 0, 1) := by decide +kernel
theorem dX4_fullBits_3 : decode cX4_fullBits 3 = .ok (.istore_n 2, 1) := by decide +kernel
theorem dX4_fullBits_4 : decode cX4_fullBits 4 = .ok (.iload_n 2, 1) := by decide +kernel
theorem dX4_fullBits_5 : decode cX4_fullBits 5 = .ok (.aload_n 0, 1) := by decide +kernel
theorem dX4_fullBits_6 : decode cX4_fullBits 6 = .ok (.getfield 22, 3) := by decide +kernel
theorem dX4_fullBits_9 : decode cX4_fullBits 9 = .ok (.if_icmp .ge 32, 3) := by decide +kernel
theorem dX4_fullBits_12 : decode cX4_fullBits 12 = .ok (.iload_n 2, 1) := by decide +kernel
theorem dX4_fullBits_13 : decode cX4_fullBits 13 = .ok (.iconst 4, 1) := by decide +kernel
theorem dX4_fullBits_14 : decode cX4_fullBits 14 = .ok (.if_icmp .ge 27, 3) := by decide +kernel
theorem dX4_fullBits_17 : decode cX4_fullBits 17 = .ok (.aload_n 0, 1) := by decide +kernel
theorem dX4_fullBits_18 : decode cX4_fullBits 18 = .ok (.getfield 11, 3) := by decide +kernel
theorem dX4_fullBits_21 : decode cX4_fullBits 21 = .ok (.iload_n 2, 1) := by decide +kernel
theorem dX4_fullBits_22 : decode cX4_fullBits 22 = .ok (.aaload, 1) := by decide +kernel
theorem dX4_fullBits_23 : decode cX4_fullBits 23 = .ok (.invokevirtual 97, 3) := by decide +kernel
theorem dX4_fullBits_26 : decode cX4_fullBits 26 = .ok (.ifCond .eq 9, 3) := by decide +kernel
theorem dX4_fullBits_29 : decode cX4_fullBits 29 = .ok (.iload_n 1, 1) := by decide +kernel
theorem dX4_fullBits_30 : decode cX4_fullBits 30 = .ok (.iconst 1, 1) := by decide +kernel
theorem dX4_fullBits_31 : decode cX4_fullBits 31 = .ok (.iload_n 2, 1) := by decide +kernel
theorem dX4_fullBits_32 : decode cX4_fullBits 32 = .ok (.ishl, 1) := by decide +kernel
theorem dX4_fullBits_33 : decode cX4_fullBits 33 = .ok (.ior, 1) := by decide +kernel
theorem dX4_fullBits_34 : decode cX4_fullBits 34 = .ok (.istore_n 1, 1) := by decide +kernel
theorem dX4_fullBits_35 : decode cX4_fullBits 35 = .ok (.iinc 2 1, 3) := by decide +kernel
theorem dX4_fullBits_38 : decode cX4_fullBits 38 = .ok (.goto (-34), 3) := by decide +kernel
theorem dX4_fullBits_41 : decode cX4_fullBits 41 = .ok (.iload_n 1, 1) := by decide +kernel
theorem dX4_fullBits_42 : decode cX4_fullBits 42 = .ok (.ireturn, 1) := by decide +kernel
theorem dX5_init_0 : decode cX5_init 0 = .ok (.aload_n 0, 1) := by decide +kernel
theorem dX5_init_1 : decode cX5_init 1 = .ok (.invokespecial 1, 3) := by decide +kernel
theorem dX5_init_4 : decode cX5_init 4 = .ok (.aload_n 0, 1) := by decide +kernel
theorem dX5_init_5 : decode cX5_init 5 = .ok (.new 7, 3) := by decide +kernel
theorem dX5_init_8 : decode cX5_init 8 = .ok (.dup, 1) := by decide +kernel
theorem dX5_init_9 : decode cX5_init 9 = .ok (.invokespecial 9, 3) := by decide +kernel
theorem dX5_init_12 : decode cX5_init 12 = .ok (.putfield 10, 3) := by decide +kernel
theorem dX5_init_15 : decode cX5_init 15 = .ok (.return_, 1) := by decide +kernel
theorem dX6_init_0 : decode cX6_init 0 = .ok (.aload_n 0, 1) := by decide +kernel
theorem dX6_init_1 : decode cX6_init 1 = .ok (.invokespecial 3, 3) := by decide +kernel
theorem dX6_init_4 : decode cX6_init 4 = .ok (.aload_n 0, 1) := by decide +kernel
theorem dX6_init_5 : decode cX6_init 5 = .ok (.bipush 48, 2) := by decide +kernel
theorem dX6_init_7 : decode cX6_init 7 = .ok (.newarray .int, 2) := by decide +kernel
theorem dX6_init_9 : decode cX6_init 9 = .ok (.putfield 9, 3) := by decide +kernel
theorem dX6_init_12 : decode cX6_init 12 = .ok (.return_, 1) := by decide +kernel
theorem dX6_add_0 : decode cX6_add 0 = .ok (.aload_n 0, 1) := by decide +kernel
theorem dX6_add_1 : decode cX6_add 1 = .ok (.getfield 15, 3) := by decide +kernel
theorem dX6_add_4 : decode cX6_add 4 = .ok (.ifCond .lt 12, 3) := by decide +kernel
theorem dX6_add_7 : decode cX6_add 7 = .ok (.aload_n 0, 1) := by decide +kernel
theorem dX6_add_8 : decode cX6_add 8 = .ok (.getfield 15, 3) := by decide +kernel
theorem dX6_add_11 : decode cX6_add 11 = .ok (.bipush 48, 2) := by decide +kernel
theorem dX6_add_13 : decode cX6_add 13 = .ok (.if_icmp .lt 5, 3) := by decide +kernel
theorem dX6_add_16 : decode cX6_add 16 = .ok (.iconst 0, 1) := by decide +kernel
theorem dX6_add_17 : decode cX6_add 17 = .ok (.ireturn, 1) := by decide +kernel
theorem dX6_add_18 : decode cX6_add 18 = .ok (.aload_n 0, 1) := by decide +kernel
theorem dX6_add_19 : decode cX6_add 19 = .ok (.getfield 9, 3) := by decide +kernel
theorem dX6_add_22 : decode cX6_add 22 = .ok (.aload_n 0, 1) := by decide +kernel
theorem dX6_add_23 : decode cX6_add 23 = .ok (.getfield 15, 3) := by decide +kernel
theorem dX6_add_26 : decode cX6_add 26 = .ok (.iload_n 1, 1) := by decide +kernel
theorem dX6_add_27 : decode cX6_add 27 = .ok (.iastore, 1) := by decide +kernel
theorem dX6_add_28 : decode cX6_add 28 = .ok (.aload_n 0, 1) := by decide +kernel
theorem dX6_add_29 : decode cX6_add 29 = .ok (.dup, 1) := by decide +kernel
theorem dX6_add_30 : decode cX6_add 30 = .ok (.getfield 15, 3) := by decide +kernel
theorem dX6_add_33 : decode cX6_add 33 = .ok (.iconst 1, 1) := by decide +kernel
theorem dX6_add_34 : decode cX6_add 34 = .ok (.iadd, 1) := by decide +kernel
theorem dX6_add_35 : decode cX6_add 35 = .ok (.putfield 15, 3) := by decide +kernel
theorem dX6_add_38 : decode cX6_add 38 = .ok (.iconst 1, 1) := by decide +kernel
theorem dX6_add_39 : decode cX6_add 39 = .ok (.ireturn, 1) := by decide +kernel
theorem dX6_letterAt_0 : decode cX6_letterAt 0 = .ok (.iload_n 1, 1) := by decide +kernel
theorem dX6_letterAt_1 : decode cX6_letterAt 1 = .ok (.ifCond .lt 26, 3) := by decide +kernel
theorem dX6_letterAt_4 : decode cX6_letterAt 4 = .ok (.iload_n 1, 1) := by decide +kernel
theorem dX6_letterAt_5 : decode cX6_letterAt 5 = .ok (.aload_n 0, 1) := by decide +kernel
theorem dX6_letterAt_6 : decode cX6_letterAt 6 = .ok (.getfield 15, 3) := by decide +kernel
theorem dX6_letterAt_9 : decode cX6_letterAt 9 = .ok (.if_icmp .ge 18, 3) := by decide +kernel
theorem dX6_letterAt_12 : decode cX6_letterAt 12 = .ok (.iload_n 1, 1) := by decide +kernel
theorem dX6_letterAt_13 : decode cX6_letterAt 13 = .ok (.bipush 48, 2) := by decide +kernel
theorem dX6_letterAt_15 : decode cX6_letterAt 15 = .ok (.if_icmp .ge 12, 3) := by decide +kernel
theorem dX6_letterAt_18 : decode cX6_letterAt 18 = .ok (.aload_n 0, 1) := by decide +kernel
theorem dX6_letterAt_19 : decode cX6_letterAt 19 = .ok (.getfield 9, 3) := by decide +kernel
theorem dX6_letterAt_22 : decode cX6_letterAt 22 = .ok (.iload_n 1, 1) := by decide +kernel
theorem dX6_letterAt_23 : decode cX6_letterAt 23 = .ok (.iaload, 1) := by decide +kernel
theorem dX6_letterAt_24 : decode cX6_letterAt 24 = .ok (.goto 5, 3) := by decide +kernel
theorem dX6_letterAt_27 : decode cX6_letterAt 27 = .ok (.bipush (-9), 2) := by decide +kernel
theorem dX6_letterAt_29 : decode cX6_letterAt 29 = .ok (.ireturn, 1) := by decide +kernel
theorem dX6_figureAt_0 : decode cX6_figureAt 0 = .ok (.aload_n 0, 1) := by decide +kernel
theorem dX6_figureAt_1 : decode cX6_figureAt 1 = .ok (.iload_n 1, 1) := by decide +kernel
theorem dX6_figureAt_2 : decode cX6_figureAt 2 = .ok (.invokevirtual 19, 3) := by decide +kernel
theorem dX6_figureAt_5 : decode cX6_figureAt 5 = .ok (.bipush 48, 2) := by decide +kernel
theorem dX6_figureAt_7 : decode cX6_figureAt 7 = .ok (.isub, 1) := by decide +kernel
theorem dX6_figureAt_8 : decode cX6_figureAt 8 = .ok (.ireturn, 1) := by decide +kernel
theorem dX6_findFault_0 : decode cX6_findFault 0 = .ok (.aload_n 0, 1) := by decide +kernel
theorem dX6_findFault_1 : decode cX6_findFault 1 = .ok (.iconst 0, 1) := by decide +kernel
theorem dX6_findFault_2 : decode cX6_findFault 2 = .ok (.invokevirtual 19, 3) := by decide +kernel
theorem dX6_findFault_5 : decode cX6_findFault 5 = .ok (.bipush 78, 2) := by decide +kernel
theorem dX6_findFault_7 : decode cX6_findFault 7 = .ok (.if_icmp .eq 5, 3) := by decide +kernel
theorem dX6_findFault_10 : decode cX6_findFault 10 = .ok (.iconst 0, 1) := by decide +kernel
theorem dX6_findFault_11 : decode cX6_findFault 11 = .ok (.ireturn, 1) := by decide +kernel
theorem dX6_findFault_12 : decode cX6_findFault 12 = .ok (.iconst 0, 1) := by decide +kernel
theorem dX6_findFault_13 : decode cX6_findFault 13 = .ok (.istore_n 1, 1) := by decide +kernel
theorem dX6_findFault_14 : decode cX6_findFault 14 = .ok (.iconst 0, 1) := by decide +kernel
theorem dX6_findFault_15 : decode cX6_findFault 15 = .ok (.istore_n 2, 1) := by decide +kernel
theorem dX6_findFault_16 : decode cX6_findFault 16 = .ok (.iconst 1, 1) := by decide +kernel
theorem dX6_findFault_17 : decode cX6_findFault 17 = .ok (.istore_n 3, 1) := by decide +kernel
theorem dX6_findFault_18 : decode cX6_findFault 18 = .ok (.iload_n 3, 1) := by decide +kernel
theorem dX6_findFault_19 : decode cX6_findFault 19 = .ok (.aload_n 0, 1) := by decide +kernel
theorem dX6_findFault_20 : decode cX6_findFault 20 = .ok (.getfield 15, 3) := by decide +kernel
theorem dX6_findFault_23 : decode cX6_findFault 23 = .ok (.if_icmp .ge 96, 3) := by decide +kernel
theorem dX6_findFault_26 : decode cX6_findFault 26 = .ok (.aload_n 0, 1) := by decide +kernel
theorem dX6_findFault_27 : decode cX6_findFault 27 = .ok (.iload_n 3, 1) := by decide +kernel
theorem dX6_findFault_28 : decode cX6_findFault 28 = .ok (.invokevirtual 19, 3) := by decide +kernel
theorem dX6_findFault_31 : decode cX6_findFault 31 = .ok (.istore 4, 2) := by decide +kernel
theorem dX6_findFault_33 : decode cX6_findFault 33 = .ok (.iload 4, 2) := by decide +kernel
theorem dX6_findFault_35 : decode cX6_findFault 35 = .ok (.bipush 80, 2) := by decide +kernel
theorem dX6_findFault_37 : decode cX6_findFault 37 = .ok (.if_icmp .ne 9, 3) := by decide +kernel
theorem dX6_findFault_40 : decode cX6_findFault 40 = .ok (.getstatic 23, 3) := by decide +kernel
theorem dX6_findFault_43 : decode cX6_findFault 43 = .ok (.goto 6, 3) := by decide +kernel
theorem dX6_findFault_46 : decode cX6_findFault 46 = .ok (.getstatic 26, 3) := by decide +kernel
theorem dX6_findFault_49 : decode cX6_findFault 49 = .ok (.astore 5, 2) := by decide +kernel
theorem dX6_findFault_51 : decode cX6_findFault 51 = .ok (.iload 4, 2) := by decide +kernel
theorem dX6_findFault_53 : decode cX6_findFault 53 = .ok (.bipush 80, 2) := by decide +kernel
theorem dX6_findFault_55 : decode cX6_findFault 55 = .ok (.if_icmp .ne 14, 3) := by decide +kernel
theorem dX6_findFault_58 : decode cX6_findFault 58 = .ok (.iload_n 1, 1) := by decide +kernel
theorem dX6_findFault_59 : decode cX6_findFault 59 = .ok (.iconst 4, 1) := by decide +kernel
theorem dX6_findFault_60 : decode cX6_findFault 60 = .ok (.if_icmp .ge 9, 3) := by decide +kernel
theorem dX6_findFault_63 : decode cX6_findFault 63 = .ok (.iinc 1 1, 3) := by decide +kernel
theorem dX6_findFault_66 : decode cX6_findFault 66 = .ok (.goto 23, 3) := by decide +kernel
theorem dX6_findFault_69 : decode cX6_findFault 69 = .ok (.iload 4, 2) := by decide +kernel
theorem dX6_findFault_71 : decode cX6_findFault 71 = .ok (.bipush 83, 2) := by decide +kernel
theorem dX6_findFault_73 : decode cX6_findFault 73 = .ok (.if_icmp .ne 14, 3) := by decide +kernel
theorem dX6_findFault_76 : decode cX6_findFault 76 = .ok (.iload_n 2, 1) := by decide +kernel
theorem dX6_findFault_77 : decode cX6_findFault 77 = .ok (.iconst 4, 1) := by decide +kernel
theorem dX6_findFault_78 : decode cX6_findFault 78 = .ok (.if_icmp .ge 9, 3) := by decide +kernel
theorem dX6_findFault_81 : decode cX6_findFault 81 = .ok (.iinc 2 1, 3) := by decide +kernel
theorem dX6_findFault_84 : decode cX6_findFault 84 = .ok (.goto 5, 3) := by decide +kernel
theorem dX6_findFault_87 : decode cX6_findFault 87 = .ok (.iload_n 3, 1) := by decide +kernel
theorem dX6_findFault_88 : decode cX6_findFault 88 = .ok (.ireturn, 1) := by decide +kernel
theorem dX6_findFault_89 : decode cX6_findFault 89 = .ok (.aload_n 0, 1) := by decide +kernel
theorem dX6_findFault_90 : decode cX6_findFault 90 = .ok (.iload_n 3, 1) := by decide +kernel
theorem dX6_findFault_91 : decode cX6_findFault 91 = .ok (.aload 5, 2) := by decide +kernel
theorem dX6_findFault_93 : decode cX6_findFault 93 = .ok (.invokevirtual 29, 3) := by decide +kernel
theorem dX6_findFault_96 : decode cX6_findFault 96 = .ok (.istore 6, 2) := by decide +kernel
theorem dX6_findFault_98 : decode cX6_findFault 98 = .ok (.iload 6, 2) := by decide +kernel
theorem dX6_findFault_100 : decode cX6_findFault 100 = .ok (.bipush (-9), 2) := by decide +kernel
theorem dX6_findFault_102 : decode cX6_findFault 102 = .ok (.if_icmp .eq 6, 3) := by decide +kernel
theorem dX6_findFault_105 : decode cX6_findFault 105 = .ok (.iload 6, 2) := by decide +kernel
theorem dX6_findFault_107 : decode cX6_findFault 107 = .ok (.ireturn, 1) := by decide +kernel
theorem dX6_findFault_108 : decode cX6_findFault 108 = .ok (.iload_n 3, 1) := by decide +kernel
theorem dX6_findFault_109 : decode cX6_findFault 109 = .ok (.iconst 1, 1) := by decide +kernel
theorem dX6_findFault_110 : decode cX6_findFault 110 = .ok (.aload 5, 2) := by decide +kernel
theorem dX6_findFault_112 : decode cX6_findFault 112 = .ok (.arraylength, 1) := by decide +kernel
theorem dX6_findFault_113 : decode cX6_findFault 113 = .ok (.iadd, 1) := by decide +kernel
theorem dX6_findFault_114 : decode cX6_findFault 114 = .ok (.iadd, 1) := by decide +kernel
theorem dX6_findFault_115 : decode cX6_findFault 115 = .ok (.istore_n 3, 1) := by decide +kernel
theorem dX6_findFault_116 : decode cX6_findFault 116 = .ok (.goto (-98), 3) := by decide +kernel
theorem dX6_findFault_119 : decode cX6_findFault 119 = .ok (.bipush (-9), 2) := by decide +kernel
theorem dX6_findFault_121 : decode cX6_findFault 121 = .ok (.ireturn, 1) := by decide +kernel
theorem dX6_findFaultIn_0 : decode cX6_findFaultIn 0 = .ok (.iconst 0, 1) := by decide +kernel
theorem dX6_findFaultIn_1 : decode cX6_findFaultIn 1 = .ok (.istore_n 3, 1) := by decide +kernel
theorem dX6_findFaultIn_2 : decode cX6_findFaultIn 2 = .ok (.iload_n 3, 1) := by decide +kernel
theorem dX6_findFaultIn_3 : decode cX6_findFaultIn 3 = .ok (.aload_n 2, 1) := by decide +kernel
theorem dX6_findFaultIn_4 : decode cX6_findFaultIn 4 = .ok (.arraylength, 1) := by decide +kernel
theorem dX6_findFaultIn_5 : decode cX6_findFaultIn 5 = .ok (.if_icmp .ge 57, 3) := by decide +kernel
theorem dX6_findFaultIn_8 : decode cX6_findFaultIn 8 = .ok (.iload_n 1, 1) := by decide +kernel
theorem dX6_findFaultIn_9 : decode cX6_findFaultIn 9 = .ok (.iconst 1, 1) := by decide +kernel
theorem dX6_findFaultIn_10 : decode cX6_findFaultIn 10 = .ok (.iadd, 1) := by decide +kernel
theorem dX6_findFaultIn_11 : decode cX6_findFaultIn 11 = .ok (.iload_n 3, 1) := by decide +kernel
theorem dX6_findFaultIn_12 : decode cX6_findFaultIn 12 = .ok (.iadd, 1) := by decide +kernel
theorem dX6_findFaultIn_13 : decode cX6_findFaultIn 13 = .ok (.istore 4, 2) := by decide +kernel
theorem dX6_findFaultIn_15 : decode cX6_findFaultIn 15 = .ok (.iload 4, 2) := by decide +kernel
theorem dX6_findFaultIn_17 : decode cX6_findFaultIn 17 = .ok (.aload_n 0, 1) := by decide +kernel
theorem dX6_findFaultIn_18 : decode cX6_findFaultIn 18 = .ok (.getfield 15, 3) := by decide +kernel
theorem dX6_findFaultIn_21 : decode cX6_findFaultIn 21 = .ok (.if_icmp .lt 8, 3) := by decide +kernel
theorem dX6_findFaultIn_24 : decode cX6_findFaultIn 24 = .ok (.aload_n 0, 1) := by decide +kernel
theorem dX6_findFaultIn_25 : decode cX6_findFaultIn 25 = .ok (.getfield 15, 3) := by decide +kernel
theorem dX6_findFaultIn_28 : decode cX6_findFaultIn 28 = .ok (.ireturn, 1) := by decide +kernel
theorem dX6_findFaultIn_29 : decode cX6_findFaultIn 29 = .ok (.aload_n 0, 1) := by decide +kernel
theorem dX6_findFaultIn_30 : decode cX6_findFaultIn 30 = .ok (.iload 4, 2) := by decide +kernel
theorem dX6_findFaultIn_32 : decode cX6_findFaultIn 32 = .ok (.invokevirtual 33, 3) := by decide +kernel
theorem dX6_findFaultIn_35 : decode cX6_findFaultIn 35 = .ok (.aload_n 2, 1) := by decide +kernel
theorem dX6_findFaultIn_36 : decode cX6_findFaultIn 36 = .ok (.iload_n 3, 1) := by decide +kernel
theorem dX6_findFaultIn_37 : decode cX6_findFaultIn 37 = .ok (.iaload, 1) := by decide +kernel
theorem dX6_findFaultIn_38 : decode cX6_findFaultIn 38 = .ok (.invokestatic 36, 3) := by decide +kernel
theorem dX6_findFaultIn_41 : decode cX6_findFaultIn 41 = .ok (.ifCond .eq 12, 3) := by decide +kernel
theorem dX6_findFaultIn_44 : decode cX6_findFaultIn 44 = .ok (.aload_n 0, 1) := by decide +kernel
theorem dX6_findFaultIn_45 : decode cX6_findFaultIn 45 = .ok (.iload_n 1, 1) := by decide +kernel
theorem dX6_findFaultIn_46 : decode cX6_findFaultIn 46 = .ok (.iload_n 3, 1) := by decide +kernel
theorem dX6_findFaultIn_47 : decode cX6_findFaultIn 47 = .ok (.invokevirtual 40, 3) := by decide +kernel
theorem dX6_findFaultIn_50 : decode cX6_findFaultIn 50 = .ok (.ifCond .eq 6, 3) := by decide +kernel
theorem dX6_findFaultIn_53 : decode cX6_findFaultIn 53 = .ok (.iload 4, 2) := by decide +kernel
theorem dX6_findFaultIn_55 : decode cX6_findFaultIn 55 = .ok (.ireturn, 1) := by decide +kernel
theorem dX6_findFaultIn_56 : decode cX6_findFaultIn 56 = .ok (.iinc 3 1, 3) := by decide +kernel
theorem dX6_findFaultIn_59 : decode cX6_findFaultIn 59 = .ok (.goto (-57), 3) := by decide +kernel
theorem dX6_findFaultIn_62 : decode cX6_findFaultIn 62 = .ok (.bipush (-9), 2) := by decide +kernel
theorem dX6_findFaultIn_64 : decode cX6_findFaultIn 64 = .ok (.ireturn, 1) := by decide +kernel
theorem dX6_isNoNib_0 : decode cX6_isNoNib 0 = .ok (.aload_n 0, 1) := by decide +kernel
theorem dX6_isNoNib_1 : decode cX6_isNoNib 1 = .ok (.iload_n 1, 1) := by decide +kernel
theorem dX6_isNoNib_2 : decode cX6_isNoNib 2 = .ok (.invokevirtual 19, 3) := by decide +kernel
theorem dX6_isNoNib_5 : decode cX6_isNoNib 5 = .ok (.bipush 80, 2) := by decide +kernel
theorem dX6_isNoNib_7 : decode cX6_isNoNib 7 = .ok (.if_icmp .ne 38, 3) := by decide +kernel
theorem dX6_isNoNib_10 : decode cX6_isNoNib 10 = .ok (.iload_n 2, 1) := by decide +kernel
theorem dX6_isNoNib_11 : decode cX6_isNoNib 11 = .ok (.iconst 4, 1) := by decide +kernel
theorem dX6_isNoNib_12 : decode cX6_isNoNib 12 = .ok (.if_icmp .ne 33, 3) := by decide +kernel
theorem dX6_isNoNib_15 : decode cX6_isNoNib 15 = .ok (.aload_n 0, 1) := by decide +kernel
theorem dX6_isNoNib_16 : decode cX6_isNoNib 16 = .ok (.iload_n 1, 1) := by decide +kernel
theorem dX6_isNoNib_17 : decode cX6_isNoNib 17 = .ok (.iconst 1, 1) := by decide +kernel
theorem dX6_isNoNib_18 : decode cX6_isNoNib 18 = .ok (.iadd, 1) := by decide +kernel
theorem dX6_isNoNib_19 : decode cX6_isNoNib 19 = .ok (.iconst 3, 1) := by decide +kernel
theorem dX6_isNoNib_20 : decode cX6_isNoNib 20 = .ok (.iadd, 1) := by decide +kernel
theorem dX6_isNoNib_21 : decode cX6_isNoNib 21 = .ok (.invokevirtual 33, 3) := by decide +kernel
theorem dX6_isNoNib_24 : decode cX6_isNoNib 24 = .ok (.iconst 3, 1) := by decide +kernel
theorem dX6_isNoNib_25 : decode cX6_isNoNib 25 = .ok (.if_icmp .ne 20, 3) := by decide +kernel
theorem dX6_isNoNib_28 : decode cX6_isNoNib 28 = .ok (.aload_n 0, 1) := by decide +kernel
theorem dX6_isNoNib_29 : decode cX6_isNoNib 29 = .ok (.iload_n 1, 1) := by decide +kernel
theorem dX6_isNoNib_30 : decode cX6_isNoNib 30 = .ok (.iconst 1, 1) := by decide +kernel
theorem dX6_isNoNib_31 : decode cX6_isNoNib 31 = .ok (.iadd, 1) := by decide +kernel
theorem dX6_isNoNib_32 : decode cX6_isNoNib 32 = .ok (.iconst 4, 1) := by decide +kernel
theorem dX6_isNoNib_33 : decode cX6_isNoNib 33 = .ok (.iadd, 1) := by decide +kernel
theorem dX6_isNoNib_34 : decode cX6_isNoNib 34 = .ok (.invokevirtual 33, 3) := by decide +kernel
theorem dX6_isNoNib_37 : decode cX6_isNoNib 37 = .ok (.iconst 3, 1) := by decide +kernel
theorem dX6_isNoNib_38 : decode cX6_isNoNib 38 = .ok (.if_icmp .ne 7, 3) := by decide +kernel
theorem dX6_isNoNib_41 : decode cX6_isNoNib 41 = .ok (.iconst 1, 1) := by decide +kernel
theorem dX6_isNoNib_42 : decode cX6_isNoNib 42 = .ok (.goto 4, 3) := by decide +kernel
theorem dX6_isNoNib_45 : decode cX6_isNoNib 45 = .ok (.iconst 0, 1) := by decide +kernel
theorem dX6_isNoNib_46 : decode cX6_isNoNib 46 = .ok (.ireturn, 1) := by decide +kernel
theorem dX6_layOut_0 : decode cX6_layOut 0 = .ok (.aload_n 1, 1) := by decide +kernel
theorem dX6_layOut_1 : decode cX6_layOut 1 = .ok (.invokevirtual 43, 3) := by decide +kernel
theorem dX6_layOut_4 : decode cX6_layOut 4 = .ok (.iconst 1, 1) := by decide +kernel
theorem dX6_layOut_5 : decode cX6_layOut 5 = .ok (.istore_n 2, 1) := by decide +kernel
theorem dX6_layOut_6 : decode cX6_layOut 6 = .ok (.iload_n 2, 1) := by decide +kernel
theorem dX6_layOut_7 : decode cX6_layOut 7 = .ok (.aload_n 0, 1) := by decide +kernel
theorem dX6_layOut_8 : decode cX6_layOut 8 = .ok (.getfield 15, 3) := by decide +kernel
theorem dX6_layOut_11 : decode cX6_layOut 11 = .ok (.if_icmp .ge 71, 3) := by decide +kernel
theorem dX6_layOut_14 : decode cX6_layOut 14 = .ok (.aload_n 0, 1) := by decide +kernel
theorem dX6_layOut_15 : decode cX6_layOut 15 = .ok (.iload_n 2, 1) := by decide +kernel
theorem dX6_layOut_16 : decode cX6_layOut 16 = .ok (.invokevirtual 19, 3) := by decide +kernel
theorem dX6_layOut_19 : decode cX6_layOut 19 = .ok (.bipush 80, 2) := by decide +kernel
theorem dX6_layOut_21 : decode cX6_layOut 21 = .ok (.if_icmp .ne 21, 3) := by decide +kernel
theorem dX6_layOut_24 : decode cX6_layOut 24 = .ok (.aload_n 0, 1) := by decide +kernel
theorem dX6_layOut_25 : decode cX6_layOut 25 = .ok (.aload_n 1, 1) := by decide +kernel
theorem dX6_layOut_26 : decode cX6_layOut 26 = .ok (.iload_n 2, 1) := by decide +kernel
theorem dX6_layOut_27 : decode cX6_layOut 27 = .ok (.invokevirtual 48, 3) := by decide +kernel
theorem dX6_layOut_30 : decode cX6_layOut 30 = .ok (.iload_n 2, 1) := by decide +kernel
theorem dX6_layOut_31 : decode cX6_layOut 31 = .ok (.iconst 1, 1) := by decide +kernel
theorem dX6_layOut_32 : decode cX6_layOut 32 = .ok (.getstatic 23, 3) := by decide +kernel
theorem dX6_layOut_35 : decode cX6_layOut 35 = .ok (.arraylength, 1) := by decide +kernel
theorem dX6_layOut_36 : decode cX6_layOut 36 = .ok (.iadd, 1) := by decide +kernel
theorem dX6_layOut_37 : decode cX6_layOut 37 = .ok (.iadd, 1) := by decide +kernel
theorem dX6_layOut_38 : decode cX6_layOut 38 = .ok (.istore_n 2, 1) := by decide +kernel
theorem dX6_layOut_39 : decode cX6_layOut 39 = .ok (.goto (-33), 3) := by decide +kernel
theorem dX6_layOut_42 : decode cX6_layOut 42 = .ok (.aload_n 1, 1) := by decide +kernel
theorem dX6_layOut_43 : decode cX6_layOut 43 = .ok (.iconst 5, 1) := by decide +kernel
theorem dX6_layOut_44 : decode cX6_layOut 44 = .ok (.aload_n 0, 1) := by decide +kernel
theorem dX6_layOut_45 : decode cX6_layOut 45 = .ok (.iload_n 2, 1) := by decide +kernel
theorem dX6_layOut_46 : decode cX6_layOut 46 = .ok (.iconst 2, 1) := by decide +kernel
theorem dX6_layOut_47 : decode cX6_layOut 47 = .ok (.iadd, 1) := by decide +kernel
theorem dX6_layOut_48 : decode cX6_layOut 48 = .ok (.invokevirtual 33, 3) := by decide +kernel
theorem dX6_layOut_51 : decode cX6_layOut 51 = .ok (.imul, 1) := by decide +kernel
theorem dX6_layOut_52 : decode cX6_layOut 52 = .ok (.aload_n 0, 1) := by decide +kernel
theorem dX6_layOut_53 : decode cX6_layOut 53 = .ok (.iload_n 2, 1) := by decide +kernel
theorem dX6_layOut_54 : decode cX6_layOut 54 = .ok (.iconst 1, 1) := by decide +kernel
theorem dX6_layOut_55 : decode cX6_layOut 55 = .ok (.iadd, 1) := by decide +kernel
theorem dX6_layOut_56 : decode cX6_layOut 56 = .ok (.invokevirtual 33, 3) := by decide +kernel
theorem dX6_layOut_59 : decode cX6_layOut 59 = .ok (.iadd, 1) := by decide +kernel
theorem dX6_layOut_60 : decode cX6_layOut 60 = .ok (.aload_n 0, 1) := by decide +kernel
theorem dX6_layOut_61 : decode cX6_layOut 61 = .ok (.iload_n 2, 1) := by decide +kernel
theorem dX6_layOut_62 : decode cX6_layOut 62 = .ok (.iconst 3, 1) := by decide +kernel
theorem dX6_layOut_63 : decode cX6_layOut 63 = .ok (.iadd, 1) := by decide +kernel
theorem dX6_layOut_64 : decode cX6_layOut 64 = .ok (.invokevirtual 33, 3) := by decide +kernel
theorem dX6_layOut_67 : decode cX6_layOut 67 = .ok (.invokevirtual 52, 3) := by decide +kernel
theorem dX6_layOut_70 : decode cX6_layOut 70 = .ok (.iload_n 2, 1) := by decide +kernel
theorem dX6_layOut_71 : decode cX6_layOut 71 = .ok (.iconst 1, 1) := by decide +kernel
theorem dX6_layOut_72 : decode cX6_layOut 72 = .ok (.getstatic 26, 3) := by decide +kernel
theorem dX6_layOut_75 : decode cX6_layOut 75 = .ok (.arraylength, 1) := by decide +kernel
theorem dX6_layOut_76 : decode cX6_layOut 76 = .ok (.iadd, 1) := by decide +kernel
theorem dX6_layOut_77 : decode cX6_layOut 77 = .ok (.iadd, 1) := by decide +kernel
theorem dX6_layOut_78 : decode cX6_layOut 78 = .ok (.istore_n 2, 1) := by decide +kernel
theorem dX6_layOut_79 : decode cX6_layOut 79 = .ok (.goto (-73), 3) := by decide +kernel
theorem dX6_layOut_82 : decode cX6_layOut 82 = .ok (.return_, 1) := by decide +kernel
theorem dX6_layPen_0 : decode cX6_layPen 0 = .ok (.aload_n 1, 1) := by decide +kernel
theorem dX6_layPen_1 : decode cX6_layPen 1 = .ok (.invokevirtual 56, 3) := by decide +kernel
theorem dX6_layPen_4 : decode cX6_layPen 4 = .ok (.astore_n 3, 1) := by decide +kernel
theorem dX6_layPen_5 : decode cX6_layPen 5 = .ok (.aload_n 3, 1) := by decide +kernel
theorem dX6_layPen_6 : decode cX6_layPen 6 = .ok (.ifnonnull 4, 3) := by decide +kernel
theorem dX6_layPen_9 : decode cX6_layPen 9 = .ok (.return_, 1) := by decide +kernel
theorem dX6_layPen_10 : decode cX6_layPen 10 = .ok (.aload_n 3, 1) := by decide +kernel
theorem dX6_layPen_11 : decode cX6_layPen 11 = .ok (.iconst 5, 1) := by decide +kernel
theorem dX6_layPen_12 : decode cX6_layPen 12 = .ok (.aload_n 0, 1) := by decide +kernel
theorem dX6_layPen_13 : decode cX6_layPen 13 = .ok (.iload_n 2, 1) := by decide +kernel
theorem dX6_layPen_14 : decode cX6_layPen 14 = .ok (.iconst 2, 1) := by decide +kernel
theorem dX6_layPen_15 : decode cX6_layPen 15 = .ok (.iadd, 1) := by decide +kernel
theorem dX6_layPen_16 : decode cX6_layPen 16 = .ok (.invokevirtual 33, 3) := by decide +kernel
theorem dX6_layPen_19 : decode cX6_layPen 19 = .ok (.imul, 1) := by decide +kernel
theorem dX6_layPen_20 : decode cX6_layPen 20 = .ok (.aload_n 0, 1) := by decide +kernel
theorem dX6_layPen_21 : decode cX6_layPen 21 = .ok (.iload_n 2, 1) := by decide +kernel
theorem dX6_layPen_22 : decode cX6_layPen 22 = .ok (.iconst 1, 1) := by decide +kernel
theorem dX6_layPen_23 : decode cX6_layPen 23 = .ok (.iadd, 1) := by decide +kernel
theorem dX6_layPen_24 : decode cX6_layPen 24 = .ok (.invokevirtual 33, 3) := by decide +kernel
theorem dX6_layPen_27 : decode cX6_layPen 27 = .ok (.iadd, 1) := by decide +kernel
theorem dX6_layPen_28 : decode cX6_layPen 28 = .ok (.putfield 60, 3) := by decide +kernel
theorem dX6_layPen_31 : decode cX6_layPen 31 = .ok (.aload_n 3, 1) := by decide +kernel
theorem dX6_layPen_32 : decode cX6_layPen 32 = .ok (.aload_n 0, 1) := by decide +kernel
theorem dX6_layPen_33 : decode cX6_layPen 33 = .ok (.iload_n 2, 1) := by decide +kernel
theorem dX6_layPen_34 : decode cX6_layPen 34 = .ok (.iconst 3, 1) := by decide +kernel
theorem dX6_layPen_35 : decode cX6_layPen 35 = .ok (.iadd, 1) := by decide +kernel
theorem dX6_layPen_36 : decode cX6_layPen 36 = .ok (.invokevirtual 33, 3) := by decide +kernel
theorem dX6_layPen_39 : decode cX6_layPen 39 = .ok (.putfield 65, 3) := by decide +kernel
theorem dX6_layPen_42 : decode cX6_layPen 42 = .ok (.aload_n 3, 1) := by decide +kernel
theorem dX6_layPen_43 : decode cX6_layPen 43 = .ok (.aload_n 0, 1) := by decide +kernel
theorem dX6_layPen_44 : decode cX6_layPen 44 = .ok (.iload_n 2, 1) := by decide +kernel
theorem dX6_layPen_45 : decode cX6_layPen 45 = .ok (.iconst 4, 1) := by decide +kernel
theorem dX6_layPen_46 : decode cX6_layPen 46 = .ok (.iadd, 1) := by decide +kernel
theorem dX6_layPen_47 : decode cX6_layPen 47 = .ok (.invokevirtual 33, 3) := by decide +kernel
theorem dX6_layPen_50 : decode cX6_layPen 50 = .ok (.iconst 3, 1) := by decide +kernel
theorem dX6_layPen_51 : decode cX6_layPen 51 = .ok (.isub, 1) := by decide +kernel
theorem dX6_layPen_52 : decode cX6_layPen 52 = .ok (.putfield 68, 3) := by decide +kernel
theorem dX6_layPen_55 : decode cX6_layPen 55 = .ok (.aload_n 3, 1) := by decide +kernel
theorem dX6_layPen_56 : decode cX6_layPen 56 = .ok (.aload_n 0, 1) := by decide +kernel
theorem dX6_layPen_57 : decode cX6_layPen 57 = .ok (.iload_n 2, 1) := by decide +kernel
theorem dX6_layPen_58 : decode cX6_layPen 58 = .ok (.iconst 5, 1) := by decide +kernel
theorem dX6_layPen_59 : decode cX6_layPen 59 = .ok (.iadd, 1) := by decide +kernel
theorem dX6_layPen_60 : decode cX6_layPen 60 = .ok (.invokevirtual 33, 3) := by decide +kernel
theorem dX6_layPen_63 : decode cX6_layPen 63 = .ok (.iconst 3, 1) := by decide +kernel
theorem dX6_layPen_64 : decode cX6_layPen 64 = .ok (.isub, 1) := by decide +kernel
theorem dX6_layPen_65 : decode cX6_layPen 65 = .ok (.putfield 71, 3) := by decide +kernel
theorem dX6_layPen_68 : decode cX6_layPen 68 = .ok (.aload_n 3, 1) := by decide +kernel
theorem dX6_layPen_69 : decode cX6_layPen 69 = .ok (.iconst 5, 1) := by decide +kernel
theorem dX6_layPen_70 : decode cX6_layPen 70 = .ok (.aload_n 0, 1) := by decide +kernel
theorem dX6_layPen_71 : decode cX6_layPen 71 = .ok (.iload_n 2, 1) := by decide +kernel
theorem dX6_layPen_72 : decode cX6_layPen 72 = .ok (.bipush 6, 2) := by decide +kernel
theorem dX6_layPen_74 : decode cX6_layPen 74 = .ok (.iadd, 1) := by decide +kernel
theorem dX6_layPen_75 : decode cX6_layPen 75 = .ok (.invokevirtual 33, 3) := by decide +kernel
theorem dX6_layPen_78 : decode cX6_layPen 78 = .ok (.imul, 1) := by decide +kernel
theorem dX6_layPen_79 : decode cX6_layPen 79 = .ok (.putfield 74, 3) := by decide +kernel
theorem dX6_layPen_82 : decode cX6_layPen 82 = .ok (.aload_n 3, 1) := by decide +kernel
theorem dX6_layPen_83 : decode cX6_layPen 83 = .ok (.aload_n 3, 1) := by decide +kernel
theorem dX6_layPen_84 : decode cX6_layPen 84 = .ok (.getfield 74, 3) := by decide +kernel
theorem dX6_layPen_87 : decode cX6_layPen 87 = .ok (.putfield 77, 3) := by decide +kernel
theorem dX6_layPen_90 : decode cX6_layPen 90 = .ok (.aload_n 3, 1) := by decide +kernel
theorem dX6_layPen_91 : decode cX6_layPen 91 = .ok (.iconst 1, 1) := by decide +kernel
theorem dX6_layPen_92 : decode cX6_layPen 92 = .ok (.putfield 80, 3) := by decide +kernel
theorem dX6_layPen_95 : decode cX6_layPen 95 = .ok (.return_, 1) := by decide +kernel
theorem dX7_init_0 : decode cX7_init 0 = .ok (.aload_n 0, 1) := by decide +kernel
theorem dX7_init_1 : decode cX7_init 1 = .ok (.invokespecial 3, 3) := by decide +kernel
theorem dX7_init_4 : decode cX7_init 4 = .ok (.aload_n 0, 1) := by decide +kernel
theorem dX7_init_5 : decode cX7_init 5 = .ok (.bipush 8, 2) := by decide +kernel
theorem dX7_init_7 : decode cX7_init 7 = .ok (.newarray .int, 2) := by decide +kernel
theorem dX7_init_9 : decode cX7_init 9 = .ok (.putfield 9, 3) := by decide +kernel
theorem dX7_init_12 : decode cX7_init 12 = .ok (.aload_n 0, 1) := by decide +kernel
theorem dX7_init_13 : decode cX7_init 13 = .ok (.bipush 25, 2) := by decide +kernel
theorem dX7_init_15 : decode cX7_init 15 = .ok (.newarray .int, 2) := by decide +kernel
theorem dX7_init_17 : decode cX7_init 17 = .ok (.putfield 15, 3) := by decide +kernel
theorem dX7_init_20 : decode cX7_init 20 = .ok (.aload_n 0, 1) := by decide +kernel
theorem dX7_init_21 : decode cX7_init 21 = .ok (.bipush 25, 2) := by decide +kernel
theorem dX7_init_23 : decode cX7_init 23 = .ok (.newarray .int, 2) := by decide +kernel
theorem dX7_init_25 : decode cX7_init 25 = .ok (.putfield 18, 3) := by decide +kernel
theorem dX7_init_28 : decode cX7_init 28 = .ok (.aload_n 0, 1) := by decide +kernel
theorem dX7_init_29 : decode cX7_init 29 = .ok (.bipush 25, 2) := by decide +kernel
theorem dX7_init_31 : decode cX7_init 31 = .ok (.newarray .int, 2) := by decide +kernel
theorem dX7_init_33 : decode cX7_init 33 = .ok (.putfield 21, 3) := by decide +kernel
theorem dX7_init_36 : decode cX7_init 36 = .ok (.aload_n 0, 1) := by decide +kernel
theorem dX7_init_37 : decode cX7_init 37 = .ok (.bipush 25, 2) := by decide +kernel
theorem dX7_init_39 : decode cX7_init 39 = .ok (.newarray .int, 2) := by decide +kernel
theorem dX7_init_41 : decode cX7_init 41 = .ok (.putfield 24, 3) := by decide +kernel
theorem dX7_init_44 : decode cX7_init 44 = .ok (.aload_n 0, 1) := by decide +kernel
theorem dX7_init_45 : decode cX7_init 45 = .ok (.bipush 25, 2) := by decide +kernel
theorem dX7_init_47 : decode cX7_init 47 = .ok (.newarray .int, 2) := by decide +kernel
theorem dX7_init_49 : decode cX7_init 49 = .ok (.putfield 27, 3) := by decide +kernel
theorem dX7_init_52 : decode cX7_init 52 = .ok (.return_, 1) := by decide +kernel
theorem dX7_reckonTo_0 : decode cX7_reckonTo 0 = .ok (.iconst 0, 1) := by decide +kernel
theorem dX7_reckonTo_1 : decode cX7_reckonTo 1 = .ok (.istore_n 3, 1) := by decide +kernel
theorem dX7_reckonTo_2 : decode cX7_reckonTo 2 = .ok (.iload_n 3, 1) := by decide +kernel
theorem dX7_reckonTo_3 : decode cX7_reckonTo 3 = .ok (.bipush 8, 2) := by decide +kernel
theorem dX7_reckonTo_5 : decode cX7_reckonTo 5 = .ok (.if_icmp .ge 25, 3) := by decide +kernel
theorem dX7_reckonTo_8 : decode cX7_reckonTo 8 = .ok (.aload_n 0, 1) := by decide +kernel
theorem dX7_reckonTo_9 : decode cX7_reckonTo 9 = .ok (.getfield 9, 3) := by decide +kernel
theorem dX7_reckonTo_12 : decode cX7_reckonTo 12 = .ok (.iload_n 3, 1) := by decide +kernel
theorem dX7_reckonTo_13 : decode cX7_reckonTo 13 = .ok (.bipush 100, 2) := by decide +kernel
theorem dX7_reckonTo_15 : decode cX7_reckonTo 15 = .ok (.aload_n 2, 1) := by decide +kernel
theorem dX7_reckonTo_16 : decode cX7_reckonTo 16 = .ok (.iload_n 3, 1) := by decide +kernel
theorem dX7_reckonTo_17 : decode cX7_reckonTo 17 = .ok (.invokevirtual 30, 3) := by decide +kernel
theorem dX7_reckonTo_20 : decode cX7_reckonTo 20 = .ok (.imul, 1) := by decide +kernel
theorem dX7_reckonTo_21 : decode cX7_reckonTo 21 = .ok (.iconst 1, 1) := by decide +kernel
theorem dX7_reckonTo_22 : decode cX7_reckonTo 22 = .ok (.iadd, 1) := by decide +kernel
theorem dX7_reckonTo_23 : decode cX7_reckonTo 23 = .ok (.iastore, 1) := by decide +kernel
theorem dX7_reckonTo_24 : decode cX7_reckonTo 24 = .ok (.iinc 3 1, 3) := by decide +kernel
theorem dX7_reckonTo_27 : decode cX7_reckonTo 27 = .ok (.goto (-25), 3) := by decide +kernel
theorem dX7_reckonTo_30 : decode cX7_reckonTo 30 = .ok (.iconst 0, 1) := by decide +kernel
theorem dX7_reckonTo_31 : decode cX7_reckonTo 31 = .ok (.istore_n 3, 1) := by decide +kernel
theorem dX7_reckonTo_32 : decode cX7_reckonTo 32 = .ok (.iload_n 3, 1) := by decide +kernel
theorem dX7_reckonTo_33 : decode cX7_reckonTo 33 = .ok (.bipush 25, 2) := by decide +kernel
theorem dX7_reckonTo_35 : decode cX7_reckonTo 35 = .ok (.if_icmp .ge 26, 3) := by decide +kernel
theorem dX7_reckonTo_38 : decode cX7_reckonTo 38 = .ok (.aload_n 0, 1) := by decide +kernel
theorem dX7_reckonTo_39 : decode cX7_reckonTo 39 = .ok (.getfield 15, 3) := by decide +kernel
theorem dX7_reckonTo_42 : decode cX7_reckonTo 42 = .ok (.iload_n 3, 1) := by decide +kernel
theorem dX7_reckonTo_43 : decode cX7_reckonTo 43 = .ok (.iload_n 3, 1) := by decide +kernel
theorem dX7_reckonTo_44 : decode cX7_reckonTo 44 = .ok (.iload_n 1, 1) := by decide +kernel
theorem dX7_reckonTo_45 : decode cX7_reckonTo 45 = .ok (.if_icmp .ne 7, 3) := by decide +kernel
theorem dX7_reckonTo_48 : decode cX7_reckonTo 48 = .ok (.iconst 0, 1) := by decide +kernel
theorem dX7_reckonTo_49 : decode cX7_reckonTo 49 = .ok (.goto 5, 3) := by decide +kernel
theorem dX7_reckonTo_52 : decode cX7_reckonTo 52 = .ok (.ldc 36, 2) := by decide +kernel
theorem dX7_reckonTo_54 : decode cX7_reckonTo 54 = .ok (.iastore, 1) := by decide +kernel
theorem dX7_reckonTo_55 : decode cX7_reckonTo 55 = .ok (.iinc 3 1, 3) := by decide +kernel
theorem dX7_reckonTo_58 : decode cX7_reckonTo 58 = .ok (.goto (-26), 3) := by decide +kernel
theorem dX7_reckonTo_61 : decode cX7_reckonTo 61 = .ok (.iconst 1, 1) := by decide +kernel
theorem dX7_reckonTo_62 : decode cX7_reckonTo 62 = .ok (.istore_n 3, 1) := by decide +kernel
theorem dX7_reckonTo_63 : decode cX7_reckonTo 63 = .ok (.iconst 0, 1) := by decide +kernel
theorem dX7_reckonTo_64 : decode cX7_reckonTo 64 = .ok (.istore 4, 2) := by decide +kernel
theorem dX7_reckonTo_66 : decode cX7_reckonTo 66 = .ok (.iload 4, 2) := by decide +kernel
theorem dX7_reckonTo_68 : decode cX7_reckonTo 68 = .ok (.bipush 25, 2) := by decide +kernel
theorem dX7_reckonTo_70 : decode cX7_reckonTo 70 = .ok (.if_icmp .ge 18, 3) := by decide +kernel
theorem dX7_reckonTo_73 : decode cX7_reckonTo 73 = .ok (.iload_n 3, 1) := by decide +kernel
theorem dX7_reckonTo_74 : decode cX7_reckonTo 74 = .ok (.ifCond .eq 14, 3) := by decide +kernel
theorem dX7_reckonTo_77 : decode cX7_reckonTo 77 = .ok (.aload_n 0, 1) := by decide +kernel
theorem dX7_reckonTo_78 : decode cX7_reckonTo 78 = .ok (.invokevirtual 37, 3) := by decide +kernel
theorem dX7_reckonTo_81 : decode cX7_reckonTo 81 = .ok (.istore_n 3, 1) := by decide +kernel
theorem dX7_reckonTo_82 : decode cX7_reckonTo 82 = .ok (.iinc 4 1, 3) := by decide +kernel
theorem dX7_reckonTo_85 : decode cX7_reckonTo 85 = .ok (.goto (-19), 3) := by decide +kernel
theorem dX7_reckonTo_88 : decode cX7_reckonTo 88 = .ok (.return_, 1) := by decide +kernel
theorem dX7_isLowered_0 : decode cX7_isLowered 0 = .ok (.iconst 0, 1) := by decide +kernel
theorem dX7_isLowered_1 : decode cX7_isLowered 1 = .ok (.istore_n 1, 1) := by decide +kernel
theorem dX7_isLowered_2 : decode cX7_isLowered 2 = .ok (.iconst 0, 1) := by decide +kernel
theorem dX7_isLowered_3 : decode cX7_isLowered 3 = .ok (.istore_n 2, 1) := by decide +kernel
theorem dX7_isLowered_4 : decode cX7_isLowered 4 = .ok (.iload_n 2, 1) := by decide +kernel
theorem dX7_isLowered_5 : decode cX7_isLowered 5 = .ok (.bipush 25, 2) := by decide +kernel
theorem dX7_isLowered_7 : decode cX7_isLowered 7 = .ok (.if_icmp .ge 52, 3) := by decide +kernel
theorem dX7_isLowered_10 : decode cX7_isLowered 10 = .ok (.iconst 0, 1) := by decide +kernel
theorem dX7_isLowered_11 : decode cX7_isLowered 11 = .ok (.istore_n 3, 1) := by decide +kernel
theorem dX7_isLowered_12 : decode cX7_isLowered 12 = .ok (.iload_n 3, 1) := by decide +kernel
theorem dX7_isLowered_13 : decode cX7_isLowered 13 = .ok (.bipush 8, 2) := by decide +kernel
theorem dX7_isLowered_15 : decode cX7_isLowered 15 = .ok (.if_icmp .ge 38, 3) := by decide +kernel
theorem dX7_isLowered_18 : decode cX7_isLowered 18 = .ok (.aload_n 0, 1) := by decide +kernel
theorem dX7_isLowered_19 : decode cX7_isLowered 19 = .ok (.iload_n 2, 1) := by decide +kernel
theorem dX7_isLowered_20 : decode cX7_isLowered 20 = .ok (.iload_n 3, 1) := by decide +kernel
theorem dX7_isLowered_21 : decode cX7_isLowered 21 = .ok (.invokevirtual 41, 3) := by decide +kernel
theorem dX7_isLowered_24 : decode cX7_isLowered 24 = .ok (.istore 4, 2) := by decide +kernel
theorem dX7_isLowered_26 : decode cX7_isLowered 26 = .ok (.iload 4, 2) := by decide +kernel
theorem dX7_isLowered_28 : decode cX7_isLowered 28 = .ok (.aload_n 0, 1) := by decide +kernel
theorem dX7_isLowered_29 : decode cX7_isLowered 29 = .ok (.getfield 15, 3) := by decide +kernel
theorem dX7_isLowered_32 : decode cX7_isLowered 32 = .ok (.iload_n 2, 1) := by decide +kernel
theorem dX7_isLowered_33 : decode cX7_isLowered 33 = .ok (.iaload, 1) := by decide +kernel
theorem dX7_isLowered_34 : decode cX7_isLowered 34 = .ok (.if_icmp .ge 13, 3) := by decide +kernel
theorem dX7_isLowered_37 : decode cX7_isLowered 37 = .ok (.aload_n 0, 1) := by decide +kernel
theorem dX7_isLowered_38 : decode cX7_isLowered 38 = .ok (.getfield 15, 3) := by decide +kernel
theorem dX7_isLowered_41 : decode cX7_isLowered 41 = .ok (.iload_n 2, 1) := by decide +kernel
theorem dX7_isLowered_42 : decode cX7_isLowered 42 = .ok (.iload 4, 2) := by decide +kernel
theorem dX7_isLowered_44 : decode cX7_isLowered 44 = .ok (.iastore, 1) := by decide +kernel
theorem dX7_isLowered_45 : decode cX7_isLowered 45 = .ok (.iconst 1, 1) := by decide +kernel
theorem dX7_isLowered_46 : decode cX7_isLowered 46 = .ok (.istore_n 1, 1) := by decide +kernel
theorem dX7_isLowered_47 : decode cX7_isLowered 47 = .ok (.iinc 3 1, 3) := by decide +kernel
theorem dX7_isLowered_50 : decode cX7_isLowered 50 = .ok (.goto (-38), 3) := by decide +kernel
theorem dX7_isLowered_53 : decode cX7_isLowered 53 = .ok (.iinc 2 1, 3) := by decide +kernel
theorem dX7_isLowered_56 : decode cX7_isLowered 56 = .ok (.goto (-52), 3) := by decide +kernel
theorem dX7_isLowered_59 : decode cX7_isLowered 59 = .ok (.iload_n 1, 1) := by decide +kernel
theorem dX7_isLowered_60 : decode cX7_isLowered 60 = .ok (.ireturn, 1) := by decide +kernel
theorem dX7_costBy_0 : decode cX7_costBy 0 = .ok (.iload_n 1, 1) := by decide +kernel
theorem dX7_costBy_1 : decode cX7_costBy 1 = .ok (.iload_n 2, 1) := by decide +kernel
theorem dX7_costBy_2 : decode cX7_costBy 2 = .ok (.invokestatic 45, 3) := by decide +kernel
theorem dX7_costBy_5 : decode cX7_costBy 5 = .ok (.istore_n 3, 1) := by decide +kernel
theorem dX7_costBy_6 : decode cX7_costBy 6 = .ok (.iload_n 3, 1) := by decide +kernel
theorem dX7_costBy_7 : decode cX7_costBy 7 = .ok (.invokestatic 48, 3) := by decide +kernel
theorem dX7_costBy_10 : decode cX7_costBy 10 = .ok (.ifCond .eq 26, 3) := by decide +kernel
theorem dX7_costBy_13 : decode cX7_costBy 13 = .ok (.iload_n 2, 1) := by decide +kernel
theorem dX7_costBy_14 : decode cX7_costBy 14 = .ok (.invokestatic 52, 3) := by decide +kernel
theorem dX7_costBy_17 : decode cX7_costBy 17 = .ok (.ifCond .eq 19, 3) := by decide +kernel
theorem dX7_costBy_20 : decode cX7_costBy 20 = .ok (.aload_n 0, 1) := by decide +kernel
theorem dX7_costBy_21 : decode cX7_costBy 21 = .ok (.getfield 9, 3) := by decide +kernel
theorem dX7_costBy_24 : decode cX7_costBy 24 = .ok (.iload_n 2, 1) := by decide +kernel
theorem dX7_costBy_25 : decode cX7_costBy 25 = .ok (.iaload, 1) := by decide +kernel
theorem dX7_costBy_26 : decode cX7_costBy 26 = .ok (.aload_n 0, 1) := by decide +kernel
theorem dX7_costBy_27 : decode cX7_costBy 27 = .ok (.getfield 15, 3) := by decide +kernel
theorem dX7_costBy_30 : decode cX7_costBy 30 = .ok (.iload_n 3, 1) := by decide +kernel
theorem dX7_costBy_31 : decode cX7_costBy 31 = .ok (.iaload, 1) := by decide +kernel
theorem dX7_costBy_32 : decode cX7_costBy 32 = .ok (.iadd, 1) := by decide +kernel
theorem dX7_costBy_33 : decode cX7_costBy 33 = .ok (.goto 5, 3) := by decide +kernel
theorem dX7_costBy_36 : decode cX7_costBy 36 = .ok (.ldc 36, 2) := by decide +kernel
theorem dX7_costBy_38 : decode cX7_costBy 38 = .ok (.ireturn, 1) := by decide +kernel
theorem dX7_costFrom_0 : decode cX7_costFrom 0 = .ok (.iload_n 1, 1) := by decide +kernel
theorem dX7_costFrom_1 : decode cX7_costFrom 1 = .ok (.invokestatic 48, 3) := by decide +kernel
theorem dX7_costFrom_4 : decode cX7_costFrom 4 = .ok (.ifCond .eq 12, 3) := by decide +kernel
theorem dX7_costFrom_7 : decode cX7_costFrom 7 = .ok (.aload_n 0, 1) := by decide +kernel
theorem dX7_costFrom_8 : decode cX7_costFrom 8 = .ok (.getfield 15, 3) := by decide +kernel
theorem dX7_costFrom_11 : decode cX7_costFrom 11 = .ok (.iload_n 1, 1) := by decide +kernel
theorem dX7_costFrom_12 : decode cX7_costFrom 12 = .ok (.iaload, 1) := by decide +kernel
theorem dX7_costFrom_13 : decode cX7_costFrom 13 = .ok (.goto 4, 3) := by decide +kernel
theorem dX7_costFrom_16 : decode cX7_costFrom 16 = .ok (.iconst 0, 1) := by decide +kernel
theorem dX7_costFrom_17 : decode cX7_costFrom 17 = .ok (.ireturn, 1) := by decide +kernel
theorem dX7_inkFrom_0 : decode cX7_inkFrom 0 = .ok (.aload_n 0, 1) := by decide +kernel
theorem dX7_inkFrom_1 : decode cX7_inkFrom 1 = .ok (.iload_n 1, 1) := by decide +kernel
theorem dX7_inkFrom_2 : decode cX7_inkFrom 2 = .ok (.invokevirtual 55, 3) := by decide +kernel
theorem dX7_inkFrom_5 : decode cX7_inkFrom 5 = .ok (.bipush 100, 2) := by decide +kernel
theorem dX7_inkFrom_7 : decode cX7_inkFrom 7 = .ok (.idiv, 1) := by decide +kernel
theorem dX7_inkFrom_8 : decode cX7_inkFrom 8 = .ok (.ireturn, 1) := by decide +kernel
theorem dX7_stepsFrom_0 : decode cX7_stepsFrom 0 = .ok (.aload_n 0, 1) := by decide +kernel
theorem dX7_stepsFrom_1 : decode cX7_stepsFrom 1 = .ok (.iload_n 1, 1) := by decide +kernel
theorem dX7_stepsFrom_2 : decode cX7_stepsFrom 2 = .ok (.invokevirtual 55, 3) := by decide +kernel
theorem dX7_stepsFrom_5 : decode cX7_stepsFrom 5 = .ok (.bipush 100, 2) := by decide +kernel
theorem dX7_stepsFrom_7 : decode cX7_stepsFrom 7 = .ok (.irem, 1) := by decide +kernel
theorem dX7_stepsFrom_8 : decode cX7_stepsFrom 8 = .ok (.ireturn, 1) := by decide +kernel
theorem dX7_directionFrom_0 : decode cX7_directionFrom 0 = .ok (.aload_n 0, 1) := by decide +kernel
theorem dX7_directionFrom_1 : decode cX7_directionFrom 1 = .ok (.iload_n 1, 1) := by decide +kernel
theorem dX7_directionFrom_2 : decode cX7_directionFrom 2 = .ok (.invokevirtual 55, 3) := by decide +kernel
theorem dX7_directionFrom_5 : decode cX7_directionFrom 5 = .ok (.istore_n 2, 1) := by decide +kernel
theorem dX7_directionFrom_6 : decode cX7_directionFrom 6 = .ok (.iconst 0, 1) := by decide +kernel
theorem dX7_directionFrom_7 : decode cX7_directionFrom 7 = .ok (.istore_n 3, 1) := by decide +kernel
theorem dX7_directionFrom_8 : decode cX7_directionFrom 8 = .ok (.iload_n 3, 1) := by decide +kernel
theorem dX7_directionFrom_9 : decode cX7_directionFrom 9 = .ok (.bipush 8, 2) := by decide +kernel
theorem dX7_directionFrom_11 : decode cX7_directionFrom 11 = .ok (.if_icmp .ge 25, 3) := by decide +kernel
theorem dX7_directionFrom_14 : decode cX7_directionFrom 14 = .ok (.iload_n 2, 1) := by decide +kernel
theorem dX7_directionFrom_15 : decode cX7_directionFrom 15 = .ok (.ifCond .le 15, 3) := by decide +kernel
theorem dX7_directionFrom_18 : decode cX7_directionFrom 18 = .ok (.aload_n 0, 1) := by decide +kernel
theorem dX7_directionFrom_19 : decode cX7_directionFrom 19 = .ok (.iload_n 1, 1) := by decide +kernel
theorem dX7_directionFrom_20 : decode cX7_directionFrom 20 = .ok (.iload_n 3, 1) := by decide +kernel
theorem dX7_directionFrom_21 : decode cX7_directionFrom 21 = .ok (.invokevirtual 41, 3) := by decide +kernel
theorem dX7_directionFrom_24 : decode cX7_directionFrom 24 = .ok (.iload_n 2, 1) := by decide +kernel
theorem dX7_directionFrom_25 : decode cX7_directionFrom 25 = .ok (.if_icmp .ne 5, 3) := by decide +kernel
theorem dX7_directionFrom_28 : decode cX7_directionFrom 28 = .ok (.iload_n 3, 1) := by decide +kernel
theorem dX7_directionFrom_29 : decode cX7_directionFrom 29 = .ok (.ireturn, 1) := by decide +kernel
theorem dX7_directionFrom_30 : decode cX7_directionFrom 30 = .ok (.iinc 3 1, 3) := by decide +kernel
theorem dX7_directionFrom_33 : decode cX7_directionFrom 33 = .ok (.goto (-25), 3) := by decide +kernel
theorem dX7_directionFrom_36 : decode cX7_directionFrom 36 = .ok (.bipush (-9), 2) := by decide +kernel
theorem dX7_directionFrom_38 : decode cX7_directionFrom 38 = .ok (.ireturn, 1) := by decide +kernel
theorem dX7_walk_0 : decode cX7_walk 0 = .ok (.iconst 0, 1) := by decide +kernel
theorem dX7_walk_1 : decode cX7_walk 1 = .ok (.istore_n 3, 1) := by decide +kernel
theorem dX7_walk_2 : decode cX7_walk 2 = .ok (.iload_n 3, 1) := by decide +kernel
theorem dX7_walk_3 : decode cX7_walk 3 = .ok (.bipush 25, 2) := by decide +kernel
theorem dX7_walk_5 : decode cX7_walk 5 = .ok (.if_icmp .ge 48, 3) := by decide +kernel
theorem dX7_walk_8 : decode cX7_walk 8 = .ok (.aload_n 0, 1) := by decide +kernel
theorem dX7_walk_9 : decode cX7_walk 9 = .ok (.getfield 18, 3) := by decide +kernel
theorem dX7_walk_12 : decode cX7_walk 12 = .ok (.iload_n 3, 1) := by decide +kernel
theorem dX7_walk_13 : decode cX7_walk 13 = .ok (.iload_n 3, 1) := by decide +kernel
theorem dX7_walk_14 : decode cX7_walk 14 = .ok (.aload_n 1, 1) := by decide +kernel
theorem dX7_walk_15 : decode cX7_walk 15 = .ok (.getfield 58, 3) := by decide +kernel
theorem dX7_walk_18 : decode cX7_walk 18 = .ok (.if_icmp .ne 7, 3) := by decide +kernel
theorem dX7_walk_21 : decode cX7_walk 21 = .ok (.iconst 1, 1) := by decide +kernel
theorem dX7_walk_22 : decode cX7_walk 22 = .ok (.goto 4, 3) := by decide +kernel
theorem dX7_walk_25 : decode cX7_walk 25 = .ok (.iconst 0, 1) := by decide +kernel
theorem dX7_walk_26 : decode cX7_walk 26 = .ok (.iastore, 1) := by decide +kernel
theorem dX7_walk_27 : decode cX7_walk 27 = .ok (.aload_n 0, 1) := by decide +kernel
theorem dX7_walk_28 : decode cX7_walk 28 = .ok (.getfield 24, 3) := by decide +kernel
theorem dX7_walk_31 : decode cX7_walk 31 = .ok (.iload_n 3, 1) := by decide +kernel
theorem dX7_walk_32 : decode cX7_walk 32 = .ok (.iload_n 3, 1) := by decide +kernel
theorem dX7_walk_33 : decode cX7_walk 33 = .ok (.aload_n 1, 1) := by decide +kernel
theorem dX7_walk_34 : decode cX7_walk 34 = .ok (.getfield 58, 3) := by decide +kernel
theorem dX7_walk_37 : decode cX7_walk 37 = .ok (.if_icmp .ne 7, 3) := by decide +kernel
theorem dX7_walk_40 : decode cX7_walk 40 = .ok (.iconst 0, 1) := by decide +kernel
theorem dX7_walk_41 : decode cX7_walk 41 = .ok (.goto 5, 3) := by decide +kernel
theorem dX7_walk_44 : decode cX7_walk 44 = .ok (.ldc 36, 2) := by decide +kernel
theorem dX7_walk_46 : decode cX7_walk 46 = .ok (.iastore, 1) := by decide +kernel
theorem dX7_walk_47 : decode cX7_walk 47 = .ok (.iinc 3 1, 3) := by decide +kernel
theorem dX7_walk_50 : decode cX7_walk 50 = .ok (.goto (-48), 3) := by decide +kernel
theorem dX7_walk_53 : decode cX7_walk 53 = .ok (.iconst 0, 1) := by decide +kernel
theorem dX7_walk_54 : decode cX7_walk 54 = .ok (.istore_n 3, 1) := by decide +kernel
theorem dX7_walk_55 : decode cX7_walk 55 = .ok (.iload_n 3, 1) := by decide +kernel
theorem dX7_walk_56 : decode cX7_walk 56 = .ok (.iload_n 2, 1) := by decide +kernel
theorem dX7_walk_57 : decode cX7_walk 57 = .ok (.if_icmp .ge 14, 3) := by decide +kernel
theorem dX7_walk_60 : decode cX7_walk 60 = .ok (.aload_n 0, 1) := by decide +kernel
theorem dX7_walk_61 : decode cX7_walk 61 = .ok (.aload_n 1, 1) := by decide +kernel
theorem dX7_walk_62 : decode cX7_walk 62 = .ok (.invokevirtual 62, 3) := by decide +kernel
theorem dX7_walk_65 : decode cX7_walk 65 = .ok (.iinc 3 1, 3) := by decide +kernel
theorem dX7_walk_68 : decode cX7_walk 68 = .ok (.goto (-13), 3) := by decide +kernel
theorem dX7_walk_71 : decode cX7_walk 71 = .ok (.return_, 1) := by decide +kernel
theorem dX7_walkOne_0 : decode cX7_walkOne 0 = .ok (.aload_n 0, 1) := by decide +kernel
theorem dX7_walkOne_1 : decode cX7_walkOne 1 = .ok (.getfield 21, 3) := by decide +kernel
theorem dX7_walkOne_4 : decode cX7_walkOne 4 = .ok (.iconst 0, 1) := by decide +kernel
theorem dX7_walkOne_5 : decode cX7_walkOne 5 = .ok (.invokestatic 66, 3) := by decide +kernel
theorem dX7_walkOne_8 : decode cX7_walkOne 8 = .ok (.aload_n 0, 1) := by decide +kernel
theorem dX7_walkOne_9 : decode cX7_walkOne 9 = .ok (.getfield 27, 3) := by decide +kernel
theorem dX7_walkOne_12 : decode cX7_walkOne 12 = .ok (.ldc 36, 2) := by decide +kernel
theorem dX7_walkOne_14 : decode cX7_walkOne 14 = .ok (.invokestatic 66, 3) := by decide +kernel
theorem dX7_walkOne_17 : decode cX7_walkOne 17 = .ok (.iconst 0, 1) := by decide +kernel
theorem dX7_walkOne_18 : decode cX7_walkOne 18 = .ok (.istore_n 2, 1) := by decide +kernel
theorem dX7_walkOne_19 : decode cX7_walkOne 19 = .ok (.iload_n 2, 1) := by decide +kernel
theorem dX7_walkOne_20 : decode cX7_walkOne 20 = .ok (.bipush 8, 2) := by decide +kernel
theorem dX7_walkOne_22 : decode cX7_walkOne 22 = .ok (.if_icmp .ge 100, 3) := by decide +kernel
theorem dX7_walkOne_25 : decode cX7_walkOne 25 = .ok (.aload_n 1, 1) := by decide +kernel
theorem dX7_walkOne_26 : decode cX7_walkOne 26 = .ok (.iload_n 2, 1) := by decide +kernel
theorem dX7_walkOne_27 : decode cX7_walkOne 27 = .ok (.invokevirtual 30, 3) := by decide +kernel
theorem dX7_walkOne_30 : decode cX7_walkOne 30 = .ok (.istore_n 3, 1) := by decide +kernel
theorem dX7_walkOne_31 : decode cX7_walkOne 31 = .ok (.iconst 0, 1) := by decide +kernel
theorem dX7_walkOne_32 : decode cX7_walkOne 32 = .ok (.istore 4, 2) := by decide +kernel
theorem dX7_walkOne_34 : decode cX7_walkOne 34 = .ok (.iload 4, 2) := by decide +kernel
theorem dX7_walkOne_36 : decode cX7_walkOne 36 = .ok (.bipush 25, 2) := by decide +kernel
theorem dX7_walkOne_38 : decode cX7_walkOne 38 = .ok (.if_icmp .ge 78, 3) := by decide +kernel
theorem dX7_walkOne_41 : decode cX7_walkOne 41 = .ok (.iload 4, 2) := by decide +kernel
theorem dX7_walkOne_43 : decode cX7_walkOne 43 = .ok (.iload_n 2, 1) := by decide +kernel
theorem dX7_walkOne_44 : decode cX7_walkOne 44 = .ok (.invokestatic 45, 3) := by decide +kernel
theorem dX7_walkOne_47 : decode cX7_walkOne 47 = .ok (.istore 5, 2) := by decide +kernel
theorem dX7_walkOne_49 : decode cX7_walkOne 49 = .ok (.iload 5, 2) := by decide +kernel
theorem dX7_walkOne_51 : decode cX7_walkOne 51 = .ok (.invokestatic 48, 3) := by decide +kernel
theorem dX7_walkOne_54 : decode cX7_walkOne 54 = .ok (.ifCond .eq 56, 3) := by decide +kernel
theorem dX7_walkOne_57 : decode cX7_walkOne 57 = .ok (.aload_n 0, 1) := by decide +kernel
theorem dX7_walkOne_58 : decode cX7_walkOne 58 = .ok (.getfield 18, 3) := by decide +kernel
theorem dX7_walkOne_61 : decode cX7_walkOne 61 = .ok (.iload 4, 2) := by decide +kernel
theorem dX7_walkOne_63 : decode cX7_walkOne 63 = .ok (.iaload, 1) := by decide +kernel
theorem dX7_walkOne_64 : decode cX7_walkOne 64 = .ok (.ifCond .le 46, 3) := by decide +kernel
theorem dX7_walkOne_67 : decode cX7_walkOne 67 = .ok (.aload_n 0, 1) := by decide +kernel
theorem dX7_walkOne_68 : decode cX7_walkOne 68 = .ok (.getfield 21, 3) := by decide +kernel
theorem dX7_walkOne_71 : decode cX7_walkOne 71 = .ok (.iload 5, 2) := by decide +kernel
theorem dX7_walkOne_73 : decode cX7_walkOne 73 = .ok (.dup2, 1) := by decide +kernel
theorem dX7_walkOne_74 : decode cX7_walkOne 74 = .ok (.iaload, 1) := by decide +kernel
theorem dX7_walkOne_75 : decode cX7_walkOne 75 = .ok (.aload_n 0, 1) := by decide +kernel
theorem dX7_walkOne_76 : decode cX7_walkOne 76 = .ok (.getfield 18, 3) := by decide +kernel
theorem dX7_walkOne_79 : decode cX7_walkOne 79 = .ok (.iload 4, 2) := by decide +kernel
theorem dX7_walkOne_81 : decode cX7_walkOne 81 = .ok (.iaload, 1) := by decide +kernel
theorem dX7_walkOne_82 : decode cX7_walkOne 82 = .ok (.iadd, 1) := by decide +kernel
theorem dX7_walkOne_83 : decode cX7_walkOne 83 = .ok (.iastore, 1) := by decide +kernel
theorem dX7_walkOne_84 : decode cX7_walkOne 84 = .ok (.aload_n 0, 1) := by decide +kernel
theorem dX7_walkOne_85 : decode cX7_walkOne 85 = .ok (.getfield 27, 3) := by decide +kernel
theorem dX7_walkOne_88 : decode cX7_walkOne 88 = .ok (.iload 5, 2) := by decide +kernel
theorem dX7_walkOne_90 : decode cX7_walkOne 90 = .ok (.aload_n 0, 1) := by decide +kernel
theorem dX7_walkOne_91 : decode cX7_walkOne 91 = .ok (.getfield 27, 3) := by decide +kernel
theorem dX7_walkOne_94 : decode cX7_walkOne 94 = .ok (.iload 5, 2) := by decide +kernel
theorem dX7_walkOne_96 : decode cX7_walkOne 96 = .ok (.iaload, 1) := by decide +kernel
theorem dX7_walkOne_97 : decode cX7_walkOne 97 = .ok (.aload_n 0, 1) := by decide +kernel
theorem dX7_walkOne_98 : decode cX7_walkOne 98 = .ok (.getfield 24, 3) := by decide +kernel
theorem dX7_walkOne_101 : decode cX7_walkOne 101 = .ok (.iload 4, 2) := by decide +kernel
theorem dX7_walkOne_103 : decode cX7_walkOne 103 = .ok (.iaload, 1) := by decide +kernel
theorem dX7_walkOne_104 : decode cX7_walkOne 104 = .ok (.iload_n 3, 1) := by decide +kernel
theorem dX7_walkOne_105 : decode cX7_walkOne 105 = .ok (.iadd, 1) := by decide +kernel
theorem dX7_walkOne_106 : decode cX7_walkOne 106 = .ok (.invokestatic 72, 3) := by decide +kernel
theorem dX7_walkOne_109 : decode cX7_walkOne 109 = .ok (.iastore, 1) := by decide +kernel
theorem dX7_walkOne_110 : decode cX7_walkOne 110 = .ok (.iinc 4 1, 3) := by decide +kernel
theorem dX7_walkOne_113 : decode cX7_walkOne 113 = .ok (.goto (-79), 3) := by decide +kernel
theorem dX7_walkOne_116 : decode cX7_walkOne 116 = .ok (.iinc 2 1, 3) := by decide +kernel
theorem dX7_walkOne_119 : decode cX7_walkOne 119 = .ok (.goto (-100), 3) := by decide +kernel
theorem dX7_walkOne_122 : decode cX7_walkOne 122 = .ok (.aload_n 0, 1) := by decide +kernel
theorem dX7_walkOne_123 : decode cX7_walkOne 123 = .ok (.getfield 21, 3) := by decide +kernel
theorem dX7_walkOne_126 : decode cX7_walkOne 126 = .ok (.iconst 0, 1) := by decide +kernel
theorem dX7_walkOne_127 : decode cX7_walkOne 127 = .ok (.aload_n 0, 1) := by decide +kernel
theorem dX7_walkOne_128 : decode cX7_walkOne 128 = .ok (.getfield 18, 3) := by decide +kernel
theorem dX7_walkOne_131 : decode cX7_walkOne 131 = .ok (.iconst 0, 1) := by decide +kernel
theorem dX7_walkOne_132 : decode cX7_walkOne 132 = .ok (.bipush 25, 2) := by decide +kernel
theorem dX7_walkOne_134 : decode cX7_walkOne 134 = .ok (.invokestatic 77, 3) := by decide +kernel
theorem dX7_walkOne_137 : decode cX7_walkOne 137 = .ok (.aload_n 0, 1) := by decide +kernel
theorem dX7_walkOne_138 : decode cX7_walkOne 138 = .ok (.getfield 27, 3) := by decide +kernel
theorem dX7_walkOne_141 : decode cX7_walkOne 141 = .ok (.iconst 0, 1) := by decide +kernel
theorem dX7_walkOne_142 : decode cX7_walkOne 142 = .ok (.aload_n 0, 1) := by decide +kernel
theorem dX7_walkOne_143 : decode cX7_walkOne 143 = .ok (.getfield 24, 3) := by decide +kernel
theorem dX7_walkOne_146 : decode cX7_walkOne 146 = .ok (.iconst 0, 1) := by decide +kernel
theorem dX7_walkOne_147 : decode cX7_walkOne 147 = .ok (.bipush 25, 2) := by decide +kernel
theorem dX7_walkOne_149 : decode cX7_walkOne 149 = .ok (.invokestatic 77, 3) := by decide +kernel
theorem dX7_walkOne_152 : decode cX7_walkOne 152 = .ok (.return_, 1) := by decide +kernel
theorem dX7_rowsTo_0 : decode cX7_rowsTo 0 = .ok (.iload_n 1, 1) := by decide +kernel
theorem dX7_rowsTo_1 : decode cX7_rowsTo 1 = .ok (.invokestatic 48, 3) := by decide +kernel
theorem dX7_rowsTo_4 : decode cX7_rowsTo 4 = .ok (.ifCond .eq 12, 3) := by decide +kernel
theorem dX7_rowsTo_7 : decode cX7_rowsTo 7 = .ok (.aload_n 0, 1) := by decide +kernel
theorem dX7_rowsTo_8 : decode cX7_rowsTo 8 = .ok (.getfield 18, 3) := by decide +kernel
theorem dX7_rowsTo_11 : decode cX7_rowsTo 11 = .ok (.iload_n 1, 1) := by decide +kernel
theorem dX7_rowsTo_12 : decode cX7_rowsTo 12 = .ok (.iaload, 1) := by decide +kernel
theorem dX7_rowsTo_13 : decode cX7_rowsTo 13 = .ok (.goto 4, 3) := by decide +kernel
theorem dX7_rowsTo_16 : decode cX7_rowsTo 16 = .ok (.iconst 0, 1) := by decide +kernel
theorem dX7_rowsTo_17 : decode cX7_rowsTo 17 = .ok (.ireturn, 1) := by decide +kernel
theorem dX7_lowestTo_0 : decode cX7_lowestTo 0 = .ok (.iload_n 1, 1) := by decide +kernel
theorem dX7_lowestTo_1 : decode cX7_lowestTo 1 = .ok (.invokestatic 48, 3) := by decide +kernel
theorem dX7_lowestTo_4 : decode cX7_lowestTo 4 = .ok (.ifCond .eq 21, 3) := by decide +kernel
theorem dX7_lowestTo_7 : decode cX7_lowestTo 7 = .ok (.aload_n 0, 1) := by decide +kernel
theorem dX7_lowestTo_8 : decode cX7_lowestTo 8 = .ok (.getfield 18, 3) := by decide +kernel
theorem dX7_lowestTo_11 : decode cX7_lowestTo 11 = .ok (.iload_n 1, 1) := by decide +kernel
theorem dX7_lowestTo_12 : decode cX7_lowestTo 12 = .ok (.iaload, 1) := by decide +kernel
theorem dX7_lowestTo_13 : decode cX7_lowestTo 13 = .ok (.ifCond .le 12, 3) := by decide +kernel
theorem dX7_lowestTo_16 : decode cX7_lowestTo 16 = .ok (.aload_n 0, 1) := by decide +kernel
theorem dX7_lowestTo_17 : decode cX7_lowestTo 17 = .ok (.getfield 24, 3) := by decide +kernel
theorem dX7_lowestTo_20 : decode cX7_lowestTo 20 = .ok (.iload_n 1, 1) := by decide +kernel
theorem dX7_lowestTo_21 : decode cX7_lowestTo 21 = .ok (.iaload, 1) := by decide +kernel
theorem dX7_lowestTo_22 : decode cX7_lowestTo 22 = .ok (.goto 5, 3) := by decide +kernel
theorem dX7_lowestTo_25 : decode cX7_lowestTo 25 = .ok (.bipush (-9), 2) := by decide +kernel
theorem dX7_lowestTo_27 : decode cX7_lowestTo 27 = .ok (.ireturn, 1) := by decide +kernel
theorem dX8_init_0 : decode cX8_init 0 = .ok (.aload_n 0, 1) := by decide +kernel
theorem dX8_init_1 : decode cX8_init 1 = .ok (.invokespecial 3, 3) := by decide +kernel
theorem dX8_init_4 : decode cX8_init 4 = .ok (.aload_n 0, 1) := by decide +kernel
theorem dX8_init_5 : decode cX8_init 5 = .ok (.bipush 8, 2) := by decide +kernel
theorem dX8_init_7 : decode cX8_init 7 = .ok (.newarray .int, 2) := by decide +kernel
theorem dX8_init_9 : decode cX8_init 9 = .ok (.putfield 9, 3) := by decide +kernel
theorem dX8_init_12 : decode cX8_init 12 = .ok (.return_, 1) := by decide +kernel
theorem dX8_isOfDirections_0 : decode cX8_isOfDirections 0 = .ok (.iconst 0, 1) := by decide +kernel
theorem dX8_isOfDirections_1 : decode cX8_isOfDirections 1 = .ok (.istore_n 3, 1) := by decide +kernel
theorem dX8_isOfDirections_2 : decode cX8_isOfDirections 2 = .ok (.iload_n 3, 1) := by decide +kernel
theorem dX8_isOfDirections_3 : decode cX8_isOfDirections 3 = .ok (.iload_n 0, 1) := by decide +kernel
theorem dX8_isOfDirections_4 : decode cX8_isOfDirections 4 = .ok (.if_icmp .ge 22, 3) := by decide +kernel
theorem dX8_isOfDirections_7 : decode cX8_isOfDirections 7 = .ok (.lload_n 1, 1) := by decide +kernel
theorem dX8_isOfDirections_8 : decode cX8_isOfDirections 8 = .ok (.iload_n 3, 1) := by decide +kernel
theorem dX8_isOfDirections_9 : decode cX8_isOfDirections 9 = .ok (.invokestatic 15, 3) := by decide +kernel
theorem dX8_isOfDirections_12 : decode cX8_isOfDirections 12 = .ok (.invokestatic 19, 3) := by decide +kernel
theorem dX8_isOfDirections_15 : decode cX8_isOfDirections 15 = .ok (.ifCond .ne 5, 3) := by decide +kernel
theorem dX8_isOfDirections_18 : decode cX8_isOfDirections 18 = .ok (.iconst 0, 1) := by decide +kernel
theorem dX8_isOfDirections_19 : decode cX8_isOfDirections 19 = .ok (.ireturn, 1) := by decide +kernel
theorem dX8_isOfDirections_20 : decode cX8_isOfDirections 20 = .ok (.iinc 3 1, 3) := by decide +kernel
theorem dX8_isOfDirections_23 : decode cX8_isOfDirections 23 = .ok (.goto (-21), 3) := by decide +kernel
theorem dX8_isOfDirections_26 : decode cX8_isOfDirections 26 = .ok (.iconst 1, 1) := by decide +kernel
theorem dX8_isOfDirections_27 : decode cX8_isOfDirections 27 = .ok (.ireturn, 1) := by decide +kernel
theorem dX8_tell_0 : decode cX8_tell 0 = .ok (.aload_n 0, 1) := by decide +kernel
theorem dX8_tell_1 : decode cX8_tell 1 = .ok (.iload_n 1, 1) := by decide +kernel
theorem dX8_tell_2 : decode cX8_tell 2 = .ok (.bipush 8, 2) := by decide +kernel
theorem dX8_tell_4 : decode cX8_tell 4 = .ok (.invokestatic 23, 3) := by decide +kernel
theorem dX8_tell_7 : decode cX8_tell 7 = .ok (.putfield 29, 3) := by decide +kernel
theorem dX8_tell_10 : decode cX8_tell 10 = .ok (.iconst 0, 1) := by decide +kernel
theorem dX8_tell_11 : decode cX8_tell 11 = .ok (.istore 4, 2) := by decide +kernel
theorem dX8_tell_13 : decode cX8_tell 13 = .ok (.iload 4, 2) := by decide +kernel
theorem dX8_tell_15 : decode cX8_tell 15 = .ok (.aload_n 0, 1) := by decide +kernel
theorem dX8_tell_16 : decode cX8_tell 16 = .ok (.getfield 29, 3) := by decide +kernel
theorem dX8_tell_19 : decode cX8_tell 19 = .ok (.if_icmp .ge 29, 3) := by decide +kernel
theorem dX8_tell_22 : decode cX8_tell 22 = .ok (.aload_n 0, 1) := by decide +kernel
theorem dX8_tell_23 : decode cX8_tell 23 = .ok (.getfield 9, 3) := by decide +kernel
theorem dX8_tell_26 : decode cX8_tell 26 = .ok (.iload 4, 2) := by decide +kernel
theorem dX8_tell_28 : decode cX8_tell 28 = .ok (.lload_n 2, 1) := by decide +kernel
theorem dX8_tell_29 : decode cX8_tell 29 = .ok (.aload_n 0, 1) := by decide +kernel
theorem dX8_tell_30 : decode cX8_tell 30 = .ok (.getfield 29, 3) := by decide +kernel
theorem dX8_tell_33 : decode cX8_tell 33 = .ok (.iconst 1, 1) := by decide +kernel
theorem dX8_tell_34 : decode cX8_tell 34 = .ok (.isub, 1) := by decide +kernel
theorem dX8_tell_35 : decode cX8_tell 35 = .ok (.iload 4, 2) := by decide +kernel
theorem dX8_tell_37 : decode cX8_tell 37 = .ok (.isub, 1) := by decide +kernel
theorem dX8_tell_38 : decode cX8_tell 38 = .ok (.invokestatic 15, 3) := by decide +kernel
theorem dX8_tell_41 : decode cX8_tell 41 = .ok (.iastore, 1) := by decide +kernel
theorem dX8_tell_42 : decode cX8_tell 42 = .ok (.iinc 4 1, 3) := by decide +kernel
theorem dX8_tell_45 : decode cX8_tell 45 = .ok (.goto (-32), 3) := by decide +kernel
theorem dX8_tell_48 : decode cX8_tell 48 = .ok (.return_, 1) := by decide +kernel
theorem dX8_at_0 : decode cX8_at 0 = .ok (.iload_n 1, 1) := by decide +kernel
theorem dX8_at_1 : decode cX8_at 1 = .ok (.bipush 7, 2) := by decide +kernel
theorem dX8_at_3 : decode cX8_at 3 = .ok (.invokestatic 33, 3) := by decide +kernel
theorem dX8_at_6 : decode cX8_at 6 = .ok (.ifCond .eq 12, 3) := by decide +kernel
theorem dX8_at_9 : decode cX8_at 9 = .ok (.aload_n 0, 1) := by decide +kernel
theorem dX8_at_10 : decode cX8_at 10 = .ok (.getfield 9, 3) := by decide +kernel
theorem dX8_at_13 : decode cX8_at 13 = .ok (.iload_n 1, 1) := by decide +kernel
theorem dX8_at_14 : decode cX8_at 14 = .ok (.iaload, 1) := by decide +kernel
theorem dX8_at_15 : decode cX8_at 15 = .ok (.goto 5, 3) := by decide +kernel
theorem dX8_at_18 : decode cX8_at 18 = .ok (.bipush (-9), 2) := by decide +kernel
theorem dX8_at_20 : decode cX8_at 20 = .ok (.ireturn, 1) := by decide +kernel
theorem dX9_init_0 : decode cX9_init 0 = .ok (.aload_n 0, 1) := by decide +kernel
theorem dX9_init_1 : decode cX9_init 1 = .ok (.invokespecial 1, 3) := by decide +kernel
theorem dX9_init_4 : decode cX9_init 4 = .ok (.aload_n 0, 1) := by decide +kernel
theorem dX9_init_5 : decode cX9_init 5 = .ok (.new 7, 3) := by decide +kernel
theorem dX9_init_8 : decode cX9_init 8 = .ok (.dup, 1) := by decide +kernel
theorem dX9_init_9 : decode cX9_init 9 = .ok (.invokespecial 9, 3) := by decide +kernel
theorem dX9_init_12 : decode cX9_init 12 = .ok (.putfield 10, 3) := by decide +kernel
theorem dX9_init_15 : decode cX9_init 15 = .ok (.aload_n 0, 1) := by decide +kernel
theorem dX9_init_16 : decode cX9_init 16 = .ok (.new 16, 3) := by decide +kernel
theorem dX9_init_19 : decode cX9_init 19 = .ok (.dup, 1) := by decide +kernel
theorem dX9_init_20 : decode cX9_init 20 = .ok (.invokespecial 18, 3) := by decide +kernel
theorem dX9_init_23 : decode cX9_init 23 = .ok (.putfield 19, 3) := by decide +kernel
theorem dX9_init_26 : decode cX9_init 26 = .ok (.aload_n 0, 1) := by decide +kernel
theorem dX9_init_27 : decode cX9_init 27 = .ok (.new 23, 3) := by decide +kernel
theorem dX9_init_30 : decode cX9_init 30 = .ok (.dup, 1) := by decide +kernel
theorem dX9_init_31 : decode cX9_init 31 = .ok (.invokespecial 25, 3) := by decide +kernel
theorem dX9_init_34 : decode cX9_init 34 = .ok (.putfield 26, 3) := by decide +kernel
theorem dX9_init_37 : decode cX9_init 37 = .ok (.aload_n 0, 1) := by decide +kernel
theorem dX9_init_38 : decode cX9_init 38 = .ok (.new 23, 3) := by decide +kernel
theorem dX9_init_41 : decode cX9_init 41 = .ok (.dup, 1) := by decide +kernel
theorem dX9_init_42 : decode cX9_init 42 = .ok (.invokespecial 25, 3) := by decide +kernel
theorem dX9_init_45 : decode cX9_init 45 = .ok (.putfield 30, 3) := by decide +kernel
theorem dX9_init_48 : decode cX9_init 48 = .ok (.aload_n 0, 1) := by decide +kernel
theorem dX9_init_49 : decode cX9_init 49 = .ok (.new 33, 3) := by decide +kernel
theorem dX9_init_52 : decode cX9_init 52 = .ok (.dup, 1) := by decide +kernel
theorem dX9_init_53 : decode cX9_init 53 = .ok (.invokespecial 35, 3) := by decide +kernel
theorem dX9_init_56 : decode cX9_init 56 = .ok (.putfield 36, 3) := by decide +kernel
theorem dX9_init_59 : decode cX9_init 59 = .ok (.aload_n 0, 1) := by decide +kernel
theorem dX9_init_60 : decode cX9_init 60 = .ok (.new 40, 3) := by decide +kernel
theorem dX9_init_63 : decode cX9_init 63 = .ok (.dup, 1) := by decide +kernel
theorem dX9_init_64 : decode cX9_init 64 = .ok (.invokespecial 42, 3) := by decide +kernel
theorem dX9_init_67 : decode cX9_init 67 = .ok (.putfield 43, 3) := by decide +kernel
theorem dX9_init_70 : decode cX9_init 70 = .ok (.aload_n 0, 1) := by decide +kernel
theorem dX9_init_71 : decode cX9_init 71 = .ok (.new 47, 3) := by decide +kernel
theorem dX9_init_74 : decode cX9_init 74 = .ok (.dup, 1) := by decide +kernel
theorem dX9_init_75 : decode cX9_init 75 = .ok (.invokespecial 49, 3) := by decide +kernel
theorem dX9_init_78 : decode cX9_init 78 = .ok (.putfield 50, 3) := by decide +kernel
theorem dX9_init_81 : decode cX9_init 81 = .ok (.aload_n 0, 1) := by decide +kernel
theorem dX9_init_82 : decode cX9_init 82 = .ok (.iconst 2, 1) := by decide +kernel
theorem dX9_init_83 : decode cX9_init 83 = .ok (.anewarray 54, 3) := by decide +kernel
theorem dX9_init_86 : decode cX9_init 86 = .ok (.putfield 56, 3) := by decide +kernel
theorem dX9_init_89 : decode cX9_init 89 = .ok (.aload_n 0, 1) := by decide +kernel
theorem dX9_init_90 : decode cX9_init 90 = .ok (.iconst 4, 1) := by decide +kernel
theorem dX9_init_91 : decode cX9_init 91 = .ok (.newarray .int, 2) := by decide +kernel
theorem dX9_init_93 : decode cX9_init 93 = .ok (.putfield 60, 3) := by decide +kernel
theorem dX9_init_96 : decode cX9_init 96 = .ok (.aload_n 0, 1) := by decide +kernel
theorem dX9_init_97 : decode cX9_init 97 = .ok (.iconst 4, 1) := by decide +kernel
theorem dX9_init_98 : decode cX9_init 98 = .ok (.newarray .int, 2) := by decide +kernel
theorem dX9_init_100 : decode cX9_init 100 = .ok (.putfield 64, 3) := by decide +kernel
theorem dX9_init_103 : decode cX9_init 103 = .ok (.iconst 0, 1) := by decide +kernel
theorem dX9_init_104 : decode cX9_init 104 = .ok (.istore_n 1, 1) := by decide +kernel
theorem dX9_init_105 : decode cX9_init 105 = .ok (.iload_n 1, 1) := by decide +kernel
theorem dX9_init_106 : decode cX9_init 106 = .ok (.iconst 2, 1) := by decide +kernel
theorem dX9_init_107 : decode cX9_init 107 = .ok (.if_icmp .ge 22, 3) := by decide +kernel
theorem dX9_init_110 : decode cX9_init 110 = .ok (.aload_n 0, 1) := by decide +kernel
theorem dX9_init_111 : decode cX9_init 111 = .ok (.getfield 56, 3) := by decide +kernel
theorem dX9_init_114 : decode cX9_init 114 = .ok (.iload_n 1, 1) := by decide +kernel
theorem dX9_init_115 : decode cX9_init 115 = .ok (.new 54, 3) := by decide +kernel
theorem dX9_init_118 : decode cX9_init 118 = .ok (.dup, 1) := by decide +kernel
theorem dX9_init_119 : decode cX9_init 119 = .ok (.invokespecial 67, 3) := by decide +kernel
theorem dX9_init_122 : decode cX9_init 122 = .ok (.aastore, 1) := by decide +kernel
theorem dX9_init_123 : decode cX9_init 123 = .ok (.iinc 1 1, 3) := by decide +kernel
theorem dX9_init_126 : decode cX9_init 126 = .ok (.goto (-21), 3) := by decide +kernel
theorem dX9_init_129 : decode cX9_init 129 = .ok (.return_, 1) := by decide +kernel
theorem dX9_write_0 : decode cX9_write 0 = .ok (.iload_n 1, 1) := by decide +kernel
theorem dX9_write_1 : decode cX9_write 1 = .ok (.sipush 255, 3) := by decide +kernel
theorem dX9_write_4 : decode cX9_write 4 = .ok (.invokestatic 68, 3) := by decide +kernel
theorem dX9_write_7 : decode cX9_write 7 = .ok (.ifCond .ne 6, 3) := by decide +kernel
theorem dX9_write_10 : decode cX9_write 10 = .ok (.bipush (-2), 2) := by decide +kernel
theorem dX9_write_12 : decode cX9_write 12 = .ok (.ireturn, 1) := by decide +kernel
theorem dX9_write_13 : decode cX9_write 13 = .ok (.aload_n 0, 1) := by decide +kernel
theorem dX9_write_14 : decode cX9_write 14 = .ok (.getfield 10, 3) := by decide +kernel
theorem dX9_write_17 : decode cX9_write 17 = .ok (.iload_n 1, 1) := by decide +kernel
theorem dX9_write_18 : decode cX9_write 18 = .ok (.invokevirtual 72, 3) := by decide +kernel
theorem dX9_write_21 : decode cX9_write 21 = .ok (.ifCond .eq 13, 3) := by decide +kernel
theorem dX9_write_24 : decode cX9_write 24 = .ok (.aload_n 0, 1) := by decide +kernel
theorem dX9_write_25 : decode cX9_write 25 = .ok (.getfield 10, 3) := by decide +kernel
theorem dX9_write_28 : decode cX9_write 28 = .ok (.getfield 76, 3) := by decide +kernel
theorem dX9_write_31 : decode cX9_write 31 = .ok (.goto 5, 3) := by decide +kernel
theorem dX9_write_34 : decode cX9_write 34 = .ok (.bipush (-4), 2) := by decide +kernel
theorem dX9_write_36 : decode cX9_write 36 = .ok (.ireturn, 1) := by decide +kernel
theorem dX9_wipe_0 : decode cX9_wipe 0 = .ok (.aload_n 0, 1) := by decide +kernel
theorem dX9_wipe_1 : decode cX9_wipe 1 = .ok (.getfield 10, 3) := by decide +kernel
theorem dX9_wipe_4 : decode cX9_wipe 4 = .ok (.getfield 76, 3) := by decide +kernel
theorem dX9_wipe_7 : decode cX9_wipe 7 = .ok (.istore_n 1, 1) := by decide +kernel
theorem dX9_wipe_8 : decode cX9_wipe 8 = .ok (.aload_n 0, 1) := by decide +kernel
theorem dX9_wipe_9 : decode cX9_wipe 9 = .ok (.getfield 10, 3) := by decide +kernel
theorem dX9_wipe_12 : decode cX9_wipe 12 = .ok (.iconst 0, 1) := by decide +kernel
theorem dX9_wipe_13 : decode cX9_wipe 13 = .ok (.putfield 76, 3) := by decide +kernel
theorem dX9_wipe_16 : decode cX9_wipe 16 = .ok (.iload_n 1, 1) := by decide +kernel
theorem dX9_wipe_17 : decode cX9_wipe 17 = .ok (.ireturn, 1) := by decide +kernel
theorem dX9_fault_0 : decode cX9_fault 0 = .ok (.aload_n 0, 1) := by decide +kernel
theorem dX9_fault_1 : decode cX9_fault 1 = .ok (.getfield 10, 3) := by decide +kernel
theorem dX9_fault_4 : decode cX9_fault 4 = .ok (.invokevirtual 80, 3) := by decide +kernel
theorem dX9_fault_7 : decode cX9_fault 7 = .ok (.ireturn, 1) := by decide +kernel
theorem dX9_desk_0 : decode cX9_desk 0 = .ok (.aload_n 0, 1) := by decide +kernel
theorem dX9_desk_1 : decode cX9_desk 1 = .ok (.getfield 10, 3) := by decide +kernel
theorem dX9_desk_4 : decode cX9_desk 4 = .ok (.invokevirtual 80, 3) := by decide +kernel
theorem dX9_desk_7 : decode cX9_desk 7 = .ok (.bipush (-9), 2) := by decide +kernel
theorem dX9_desk_9 : decode cX9_desk 9 = .ok (.if_icmp .eq 6, 3) := by decide +kernel
theorem dX9_desk_12 : decode cX9_desk 12 = .ok (.bipush (-3), 2) := by decide +kernel
theorem dX9_desk_14 : decode cX9_desk 14 = .ok (.ireturn, 1) := by decide +kernel
theorem dX9_desk_15 : decode cX9_desk 15 = .ok (.aload_n 0, 1) := by decide +kernel
theorem dX9_desk_16 : decode cX9_desk 16 = .ok (.getfield 10, 3) := by decide +kernel
theorem dX9_desk_19 : decode cX9_desk 19 = .ok (.aload_n 0, 1) := by decide +kernel
theorem dX9_desk_20 : decode cX9_desk 20 = .ok (.getfield 26, 3) := by decide +kernel
theorem dX9_desk_23 : decode cX9_desk 23 = .ok (.invokevirtual 84, 3) := by decide +kernel
theorem dX9_desk_26 : decode cX9_desk 26 = .ok (.aload_n 0, 1) := by decide +kernel
theorem dX9_desk_27 : decode cX9_desk 27 = .ok (.getfield 36, 3) := by decide +kernel
theorem dX9_desk_30 : decode cX9_desk 30 = .ok (.invokevirtual 88, 3) := by decide +kernel
theorem dX9_desk_33 : decode cX9_desk 33 = .ok (.iconst 0, 1) := by decide +kernel
theorem dX9_desk_34 : decode cX9_desk 34 = .ok (.istore_n 1, 1) := by decide +kernel
theorem dX9_desk_35 : decode cX9_desk 35 = .ok (.iload_n 1, 1) := by decide +kernel
theorem dX9_desk_36 : decode cX9_desk 36 = .ok (.iconst 2, 1) := by decide +kernel
theorem dX9_desk_37 : decode cX9_desk 37 = .ok (.if_icmp .ge 19, 3) := by decide +kernel
theorem dX9_desk_40 : decode cX9_desk 40 = .ok (.aload_n 0, 1) := by decide +kernel
theorem dX9_desk_41 : decode cX9_desk 41 = .ok (.getfield 56, 3) := by decide +kernel
theorem dX9_desk_44 : decode cX9_desk 44 = .ok (.iload_n 1, 1) := by decide +kernel
theorem dX9_desk_45 : decode cX9_desk 45 = .ok (.aaload, 1) := by decide +kernel
theorem dX9_desk_46 : decode cX9_desk 46 = .ok (.iconst 0, 1) := by decide +kernel
theorem dX9_desk_47 : decode cX9_desk 47 = .ok (.putfield 91, 3) := by decide +kernel
theorem dX9_desk_50 : decode cX9_desk 50 = .ok (.iinc 1 1, 3) := by decide +kernel
theorem dX9_desk_53 : decode cX9_desk 53 = .ok (.goto (-18), 3) := by decide +kernel
theorem dX9_desk_56 : decode cX9_desk 56 = .ok (.aload_n 0, 1) := by decide +kernel
theorem dX9_desk_57 : decode cX9_desk 57 = .ok (.getfield 26, 3) := by decide +kernel
theorem dX9_desk_60 : decode cX9_desk 60 = .ok (.getfield 95, 3) := by decide +kernel
theorem dX9_desk_63 : decode cX9_desk 63 = .ok (.ireturn, 1) := by decide +kernel
theorem dX9_word_0 : decode cX9_word 0 = .ok (.iload_n 1, 1) := by decide +kernel
theorem dX9_word_1 : decode cX9_word 1 = .ok (.bipush 8, 2) := by decide +kernel
theorem dX9_word_3 : decode cX9_word 3 = .ok (.invokestatic 68, 3) := by decide +kernel
theorem dX9_word_6 : decode cX9_word 6 = .ok (.ifCond .eq 19, 3) := by decide +kernel
theorem dX9_word_9 : decode cX9_word 9 = .ok (.lload_n 2, 1) := by decide +kernel
theorem dX9_word_10 : decode cX9_word 10 = .ok (.iload_n 1, 1) := by decide +kernel
theorem dX9_word_11 : decode cX9_word 11 = .ok (.invokestatic 98, 3) := by decide +kernel
theorem dX9_word_14 : decode cX9_word 14 = .ok (.ifCond .eq 11, 3) := by decide +kernel
theorem dX9_word_17 : decode cX9_word 17 = .ok (.iload_n 1, 1) := by decide +kernel
theorem dX9_word_18 : decode cX9_word 18 = .ok (.lload_n 2, 1) := by decide +kernel
theorem dX9_word_19 : decode cX9_word 19 = .ok (.invokestatic 102, 3) := by decide +kernel
theorem dX9_word_22 : decode cX9_word 22 = .ok (.ifCond .ne 6, 3) := by decide +kernel
theorem dX9_word_25 : decode cX9_word 25 = .ok (.bipush (-2), 2) := by decide +kernel
theorem dX9_word_27 : decode cX9_word 27 = .ok (.ireturn, 1) := by decide +kernel
theorem dX9_word_28 : decode cX9_word 28 = .ok (.aload_n 0, 1) := by decide +kernel
theorem dX9_word_29 : decode cX9_word 29 = .ok (.getfield 19, 3) := by decide +kernel
theorem dX9_word_32 : decode cX9_word 32 = .ok (.getfield 106, 3) := by decide +kernel
theorem dX9_word_35 : decode cX9_word 35 = .ok (.istore 4, 2) := by decide +kernel
theorem dX9_word_37 : decode cX9_word 37 = .ok (.aload_n 0, 1) := by decide +kernel
theorem dX9_word_38 : decode cX9_word 38 = .ok (.getfield 19, 3) := by decide +kernel
theorem dX9_word_41 : decode cX9_word 41 = .ok (.iload_n 1, 1) := by decide +kernel
theorem dX9_word_42 : decode cX9_word 42 = .ok (.lload_n 2, 1) := by decide +kernel
theorem dX9_word_43 : decode cX9_word 43 = .ok (.invokevirtual 107, 3) := by decide +kernel
theorem dX9_word_46 : decode cX9_word 46 = .ok (.iload 4, 2) := by decide +kernel
theorem dX9_word_48 : decode cX9_word 48 = .ok (.ireturn, 1) := by decide +kernel
theorem dX9_pen_0 : decode cX9_pen 0 = .ok (.aload_n 0, 1) := by decide +kernel
theorem dX9_pen_1 : decode cX9_pen 1 = .ok (.getfield 26, 3) := by decide +kernel
theorem dX9_pen_4 : decode cX9_pen 4 = .ok (.iload_n 1, 1) := by decide +kernel
theorem dX9_pen_5 : decode cX9_pen 5 = .ok (.invokevirtual 111, 3) := by decide +kernel
theorem dX9_pen_8 : decode cX9_pen 8 = .ok (.astore_n 3, 1) := by decide +kernel
theorem dX9_pen_9 : decode cX9_pen 9 = .ok (.aload_n 3, 1) := by decide +kernel
theorem dX9_pen_10 : decode cX9_pen 10 = .ok (.ifnonnull 5, 3) := by decide +kernel
theorem dX9_pen_13 : decode cX9_pen 13 = .ok (.iconst (-1), 1) := by decide +kernel
theorem dX9_pen_14 : decode cX9_pen 14 = .ok (.ireturn, 1) := by decide +kernel
theorem dX9_pen_15 : decode cX9_pen 15 = .ok (.iload_n 2, 1) := by decide +kernel
theorem dX9_pen_16 : decode cX9_pen 16 = .ok (.tableswitch 88 0 6 #[44, 49, 54, 59, 64, 69, 82], 44) := by decide +kernel
theorem dX9_pen_60 : decode cX9_pen 60 = .ok (.aload_n 3, 1) := by decide +kernel
theorem dX9_pen_61 : decode cX9_pen 61 = .ok (.getfield 115, 3) := by decide +kernel
theorem dX9_pen_64 : decode cX9_pen 64 = .ok (.ireturn, 1) := by decide +kernel
theorem dX9_pen_65 : decode cX9_pen 65 = .ok (.aload_n 3, 1) := by decide +kernel
theorem dX9_pen_66 : decode cX9_pen 66 = .ok (.getfield 120, 3) := by decide +kernel
theorem dX9_pen_69 : decode cX9_pen 69 = .ok (.ireturn, 1) := by decide +kernel
theorem dX9_pen_70 : decode cX9_pen 70 = .ok (.aload_n 3, 1) := by decide +kernel
theorem dX9_pen_71 : decode cX9_pen 71 = .ok (.invokevirtual 123, 3) := by decide +kernel
theorem dX9_pen_74 : decode cX9_pen 74 = .ok (.ireturn, 1) := by decide +kernel
theorem dX9_pen_75 : decode cX9_pen 75 = .ok (.aload_n 3, 1) := by decide +kernel
theorem dX9_pen_76 : decode cX9_pen 76 = .ok (.getfield 126, 3) := by decide +kernel
theorem dX9_pen_79 : decode cX9_pen 79 = .ok (.ireturn, 1) := by decide +kernel
theorem dX9_pen_80 : decode cX9_pen 80 = .ok (.aload_n 3, 1) := by decide +kernel
theorem dX9_pen_81 : decode cX9_pen 81 = .ok (.getfield 129, 3) := by decide +kernel
theorem dX9_pen_84 : decode cX9_pen 84 = .ok (.ireturn, 1) := by decide +kernel
theorem dX9_pen_85 : decode cX9_pen 85 = .ok (.aload_n 3, 1) := by decide +kernel
theorem dX9_pen_86 : decode cX9_pen 86 = .ok (.getfield 132, 3) := by decide +kernel
theorem dX9_pen_89 : decode cX9_pen 89 = .ok (.ifCond .eq 7, 3) := by decide +kernel
theorem dX9_pen_92 : decode cX9_pen 92 = .ok (.iconst 1, 1) := by decide +kernel
theorem dX9_pen_93 : decode cX9_pen 93 = .ok (.goto 4, 3) := by decide +kernel
theorem dX9_pen_96 : decode cX9_pen 96 = .ok (.iconst 0, 1) := by decide +kernel
theorem dX9_pen_97 : decode cX9_pen 97 = .ok (.ireturn, 1) := by decide +kernel
theorem dX9_pen_98 : decode cX9_pen 98 = .ok (.aload_n 0, 1) := by decide +kernel
theorem dX9_pen_99 : decode cX9_pen 99 = .ok (.iload_n 1, 1) := by decide +kernel
theorem dX9_pen_100 : decode cX9_pen 100 = .ok (.invokevirtual 135, 3) := by decide +kernel
theorem dX9_pen_103 : decode cX9_pen 103 = .ok (.ireturn, 1) := by decide +kernel
theorem dX9_pen_104 : decode cX9_pen 104 = .ok (.bipush (-2), 2) := by decide +kernel
theorem dX9_pen_106 : decode cX9_pen 106 = .ok (.ireturn, 1) := by decide +kernel
theorem dX9_dot_0 : decode cX9_dot 0 = .ok (.iload_n 1, 1) := by decide +kernel
theorem dX9_dot_1 : decode cX9_dot 1 = .ok (.invokestatic 139, 3) := by decide +kernel
theorem dX9_dot_4 : decode cX9_dot 4 = .ok (.ifCond .eq 14, 3) := by decide +kernel
theorem dX9_dot_7 : decode cX9_dot 7 = .ok (.aload_n 0, 1) := by decide +kernel
theorem dX9_dot_8 : decode cX9_dot 8 = .ok (.getfield 26, 3) := by decide +kernel
theorem dX9_dot_11 : decode cX9_dot 11 = .ok (.iload_n 1, 1) := by decide +kernel
theorem dX9_dot_12 : decode cX9_dot 12 = .ok (.invokevirtual 142, 3) := by decide +kernel
theorem dX9_dot_15 : decode cX9_dot 15 = .ok (.goto 4, 3) := by decide +kernel
theorem dX9_dot_18 : decode cX9_dot 18 = .ok (.iconst (-1), 1) := by decide +kernel
theorem dX9_dot_19 : decode cX9_dot 19 = .ok (.ireturn, 1) := by decide +kernel
theorem dX9_thick_0 : decode cX9_thick 0 = .ok (.aload_n 0, 1) := by decide +kernel
theorem dX9_thick_1 : decode cX9_thick 1 = .ok (.getfield 26, 3) := by decide +kernel
theorem dX9_thick_4 : decode cX9_thick 4 = .ok (.iload_n 1, 1) := by decide +kernel
theorem dX9_thick_5 : decode cX9_thick 5 = .ok (.invokevirtual 111, 3) := by decide +kernel
theorem dX9_thick_8 : decode cX9_thick 8 = .ok (.astore_n 3, 1) := by decide +kernel
theorem dX9_thick_9 : decode cX9_thick 9 = .ok (.aload_n 3, 1) := by decide +kernel
theorem dX9_thick_10 : decode cX9_thick 10 = .ok (.ifnonnull 5, 3) := by decide +kernel
theorem dX9_thick_13 : decode cX9_thick 13 = .ok (.iconst (-1), 1) := by decide +kernel
theorem dX9_thick_14 : decode cX9_thick 14 = .ok (.ireturn, 1) := by decide +kernel
theorem dX9_thick_15 : decode cX9_thick 15 = .ok (.iload_n 2, 1) := by decide +kernel
theorem dX9_thick_16 : decode cX9_thick 16 = .ok (.invokestatic 145, 3) := by decide +kernel
theorem dX9_thick_19 : decode cX9_thick 19 = .ok (.ifCond .eq 11, 3) := by decide +kernel
theorem dX9_thick_22 : decode cX9_thick 22 = .ok (.aload_n 3, 1) := by decide +kernel
theorem dX9_thick_23 : decode cX9_thick 23 = .ok (.iload_n 2, 1) := by decide +kernel
theorem dX9_thick_24 : decode cX9_thick 24 = .ok (.invokevirtual 148, 3) := by decide +kernel
theorem dX9_thick_27 : decode cX9_thick 27 = .ok (.goto 5, 3) := by decide +kernel
theorem dX9_thick_30 : decode cX9_thick 30 = .ok (.bipush (-2), 2) := by decide +kernel
theorem dX9_thick_32 : decode cX9_thick 32 = .ok (.ireturn, 1) := by decide +kernel
theorem dX9_step_0 : decode cX9_step 0 = .ok (.aload_n 0, 1) := by decide +kernel
theorem dX9_step_1 : decode cX9_step 1 = .ok (.getfield 26, 3) := by decide +kernel
theorem dX9_step_4 : decode cX9_step 4 = .ok (.iload_n 1, 1) := by decide +kernel
theorem dX9_step_5 : decode cX9_step 5 = .ok (.invokevirtual 111, 3) := by decide +kernel
theorem dX9_step_8 : decode cX9_step 8 = .ok (.astore_n 3, 1) := by decide +kernel
theorem dX9_step_9 : decode cX9_step 9 = .ok (.aload_n 3, 1) := by decide +kernel
theorem dX9_step_10 : decode cX9_step 10 = .ok (.ifnonnull 5, 3) := by decide +kernel
theorem dX9_step_13 : decode cX9_step 13 = .ok (.iconst (-1), 1) := by decide +kernel
theorem dX9_step_14 : decode cX9_step 14 = .ok (.ireturn, 1) := by decide +kernel
theorem dX9_step_15 : decode cX9_step 15 = .ok (.iload_n 2, 1) := by decide +kernel
theorem dX9_step_16 : decode cX9_step 16 = .ok (.invokestatic 145, 3) := by decide +kernel
theorem dX9_step_19 : decode cX9_step 19 = .ok (.ifCond .ne 6, 3) := by decide +kernel
theorem dX9_step_22 : decode cX9_step 22 = .ok (.bipush (-2), 2) := by decide +kernel
theorem dX9_step_24 : decode cX9_step 24 = .ok (.ireturn, 1) := by decide +kernel
theorem dX9_step_25 : decode cX9_step 25 = .ok (.aload_n 3, 1) := by decide +kernel
theorem dX9_step_26 : decode cX9_step 26 = .ok (.getfield 115, 3) := by decide +kernel
theorem dX9_step_29 : decode cX9_step 29 = .ok (.iload_n 2, 1) := by decide +kernel
theorem dX9_step_30 : decode cX9_step 30 = .ok (.invokestatic 151, 3) := by decide +kernel
theorem dX9_step_33 : decode cX9_step 33 = .ok (.istore 4, 2) := by decide +kernel
theorem dX9_step_35 : decode cX9_step 35 = .ok (.iload 4, 2) := by decide +kernel
theorem dX9_step_37 : decode cX9_step 37 = .ok (.bipush (-9), 2) := by decide +kernel
theorem dX9_step_39 : decode cX9_step 39 = .ok (.if_icmp .ne 6, 3) := by decide +kernel
theorem dX9_step_42 : decode cX9_step 42 = .ok (.bipush (-3), 2) := by decide +kernel
theorem dX9_step_44 : decode cX9_step 44 = .ok (.ireturn, 1) := by decide +kernel
theorem dX9_step_45 : decode cX9_step 45 = .ok (.aload_n 0, 1) := by decide +kernel
theorem dX9_step_46 : decode cX9_step 46 = .ok (.getfield 36, 3) := by decide +kernel
theorem dX9_step_49 : decode cX9_step 49 = .ok (.aload_n 0, 1) := by decide +kernel
theorem dX9_step_50 : decode cX9_step 50 = .ok (.getfield 26, 3) := by decide +kernel
theorem dX9_step_53 : decode cX9_step 53 = .ok (.iload_n 1, 1) := by decide +kernel
theorem dX9_step_54 : decode cX9_step 54 = .ok (.iload 4, 2) := by decide +kernel
theorem dX9_step_56 : decode cX9_step 56 = .ok (.invokevirtual 155, 3) := by decide +kernel
theorem dX9_step_59 : decode cX9_step 59 = .ok (.aload_n 0, 1) := by decide +kernel
theorem dX9_step_60 : decode cX9_step 60 = .ok (.getfield 26, 3) := by decide +kernel
theorem dX9_step_63 : decode cX9_step 63 = .ok (.aload_n 3, 1) := by decide +kernel
theorem dX9_step_64 : decode cX9_step 64 = .ok (.iload_n 2, 1) := by decide +kernel
theorem dX9_step_65 : decode cX9_step 65 = .ok (.invokevirtual 159, 3) := by decide +kernel
theorem dX9_step_68 : decode cX9_step 68 = .ok (.ireturn, 1) := by decide +kernel
theorem dX9_put_0 : decode cX9_put 0 = .ok (.aload_n 0, 1) := by decide +kernel
theorem dX9_put_1 : decode cX9_put 1 = .ok (.getfield 26, 3) := by decide +kernel
theorem dX9_put_4 : decode cX9_put 4 = .ok (.iload_n 1, 1) := by decide +kernel
theorem dX9_put_5 : decode cX9_put 5 = .ok (.invokevirtual 111, 3) := by decide +kernel
theorem dX9_put_8 : decode cX9_put 8 = .ok (.astore_n 2, 1) := by decide +kernel
theorem dX9_put_9 : decode cX9_put 9 = .ok (.aload_n 2, 1) := by decide +kernel
theorem dX9_put_10 : decode cX9_put 10 = .ok (.ifnonnull 5, 3) := by decide +kernel
theorem dX9_put_13 : decode cX9_put 13 = .ok (.iconst (-1), 1) := by decide +kernel
theorem dX9_put_14 : decode cX9_put 14 = .ok (.ireturn, 1) := by decide +kernel
theorem dX9_put_15 : decode cX9_put 15 = .ok (.aload_n 0, 1) := by decide +kernel
theorem dX9_put_16 : decode cX9_put 16 = .ok (.getfield 36, 3) := by decide +kernel
theorem dX9_put_19 : decode cX9_put 19 = .ok (.aload_n 0, 1) := by decide +kernel
theorem dX9_put_20 : decode cX9_put 20 = .ok (.getfield 26, 3) := by decide +kernel
theorem dX9_put_23 : decode cX9_put 23 = .ok (.iload_n 1, 1) := by decide +kernel
theorem dX9_put_24 : decode cX9_put 24 = .ok (.bipush (-9), 2) := by decide +kernel
theorem dX9_put_26 : decode cX9_put 26 = .ok (.invokevirtual 155, 3) := by decide +kernel
theorem dX9_put_29 : decode cX9_put 29 = .ok (.aload_n 2, 1) := by decide +kernel
theorem dX9_put_30 : decode cX9_put 30 = .ok (.invokevirtual 163, 3) := by decide +kernel
theorem dX9_put_33 : decode cX9_put 33 = .ok (.aload_n 2, 1) := by decide +kernel
theorem dX9_put_34 : decode cX9_put 34 = .ok (.getfield 132, 3) := by decide +kernel
theorem dX9_put_37 : decode cX9_put 37 = .ok (.ifCond .eq 7, 3) := by decide +kernel
theorem dX9_put_40 : decode cX9_put 40 = .ok (.iconst 1, 1) := by decide +kernel
theorem dX9_put_41 : decode cX9_put 41 = .ok (.goto 4, 3) := by decide +kernel
theorem dX9_put_44 : decode cX9_put 44 = .ok (.iconst 0, 1) := by decide +kernel
theorem dX9_put_45 : decode cX9_put 45 = .ok (.ireturn, 1) := by decide +kernel
theorem dX9_dip_0 : decode cX9_dip 0 = .ok (.aload_n 0, 1) := by decide +kernel
theorem dX9_dip_1 : decode cX9_dip 1 = .ok (.getfield 26, 3) := by decide +kernel
theorem dX9_dip_4 : decode cX9_dip 4 = .ok (.iload_n 1, 1) := by decide +kernel
theorem dX9_dip_5 : decode cX9_dip 5 = .ok (.invokevirtual 111, 3) := by decide +kernel
theorem dX9_dip_8 : decode cX9_dip 8 = .ok (.astore_n 2, 1) := by decide +kernel
theorem dX9_dip_9 : decode cX9_dip 9 = .ok (.aload_n 2, 1) := by decide +kernel
theorem dX9_dip_10 : decode cX9_dip 10 = .ok (.ifnonnull 5, 3) := by decide +kernel
theorem dX9_dip_13 : decode cX9_dip 13 = .ok (.iconst (-1), 1) := by decide +kernel
theorem dX9_dip_14 : decode cX9_dip 14 = .ok (.ireturn, 1) := by decide +kernel
theorem dX9_dip_15 : decode cX9_dip 15 = .ok (.aload_n 2, 1) := by decide +kernel
theorem dX9_dip_16 : decode cX9_dip 16 = .ok (.invokevirtual 166, 3) := by decide +kernel
theorem dX9_dip_19 : decode cX9_dip 19 = .ok (.ifCond .eq 6, 3) := by decide +kernel
theorem dX9_dip_22 : decode cX9_dip 22 = .ok (.bipush (-3), 2) := by decide +kernel
theorem dX9_dip_24 : decode cX9_dip 24 = .ok (.ireturn, 1) := by decide +kernel
theorem dX9_dip_25 : decode cX9_dip 25 = .ok (.aload_n 0, 1) := by decide +kernel
theorem dX9_dip_26 : decode cX9_dip 26 = .ok (.getfield 36, 3) := by decide +kernel
theorem dX9_dip_29 : decode cX9_dip 29 = .ok (.aload_n 0, 1) := by decide +kernel
theorem dX9_dip_30 : decode cX9_dip 30 = .ok (.getfield 26, 3) := by decide +kernel
theorem dX9_dip_33 : decode cX9_dip 33 = .ok (.iload_n 1, 1) := by decide +kernel
theorem dX9_dip_34 : decode cX9_dip 34 = .ok (.bipush (-9), 2) := by decide +kernel
theorem dX9_dip_36 : decode cX9_dip 36 = .ok (.invokevirtual 155, 3) := by decide +kernel
theorem dX9_dip_39 : decode cX9_dip 39 = .ok (.aload_n 2, 1) := by decide +kernel
theorem dX9_dip_40 : decode cX9_dip 40 = .ok (.invokevirtual 170, 3) := by decide +kernel
theorem dX9_dip_43 : decode cX9_dip 43 = .ok (.ireturn, 1) := by decide +kernel
theorem dX9_turn_0 : decode cX9_turn 0 = .ok (.aload_n 0, 1) := by decide +kernel
theorem dX9_turn_1 : decode cX9_turn 1 = .ok (.getfield 26, 3) := by decide +kernel
theorem dX9_turn_4 : decode cX9_turn 4 = .ok (.iload_n 1, 1) := by decide +kernel
theorem dX9_turn_5 : decode cX9_turn 5 = .ok (.invokevirtual 111, 3) := by decide +kernel
theorem dX9_turn_8 : decode cX9_turn 8 = .ok (.astore_n 2, 1) := by decide +kernel
theorem dX9_turn_9 : decode cX9_turn 9 = .ok (.aload_n 2, 1) := by decide +kernel
theorem dX9_turn_10 : decode cX9_turn 10 = .ok (.ifnonnull 5, 3) := by decide +kernel
theorem dX9_turn_13 : decode cX9_turn 13 = .ok (.iconst (-1), 1) := by decide +kernel
theorem dX9_turn_14 : decode cX9_turn 14 = .ok (.ireturn, 1) := by decide +kernel
theorem dX9_turn_15 : decode cX9_turn 15 = .ok (.aload_n 0, 1) := by decide +kernel
theorem dX9_turn_16 : decode cX9_turn 16 = .ok (.getfield 36, 3) := by decide +kernel
theorem dX9_turn_19 : decode cX9_turn 19 = .ok (.aload_n 0, 1) := by decide +kernel
theorem dX9_turn_20 : decode cX9_turn 20 = .ok (.getfield 26, 3) := by decide +kernel
theorem dX9_turn_23 : decode cX9_turn 23 = .ok (.iload_n 1, 1) := by decide +kernel
theorem dX9_turn_24 : decode cX9_turn 24 = .ok (.bipush (-9), 2) := by decide +kernel
theorem dX9_turn_26 : decode cX9_turn 26 = .ok (.invokevirtual 155, 3) := by decide +kernel
theorem dX9_turn_29 : decode cX9_turn 29 = .ok (.aload_n 2, 1) := by decide +kernel
theorem dX9_turn_30 : decode cX9_turn 30 = .ok (.invokevirtual 173, 3) := by decide +kernel
theorem dX9_turn_33 : decode cX9_turn 33 = .ok (.aload_n 2, 1) := by decide +kernel
theorem dX9_turn_34 : decode cX9_turn 34 = .ok (.invokevirtual 123, 3) := by decide +kernel
theorem dX9_turn_37 : decode cX9_turn 37 = .ok (.ireturn, 1) := by decide +kernel
theorem dX9_blot_0 : decode cX9_blot 0 = .ok (.iload_n 1, 1) := by decide +kernel
theorem dX9_blot_1 : decode cX9_blot 1 = .ok (.invokestatic 139, 3) := by decide +kernel
theorem dX9_blot_4 : decode cX9_blot 4 = .ok (.ifCond .ne 5, 3) := by decide +kernel
theorem dX9_blot_7 : decode cX9_blot 7 = .ok (.iconst (-1), 1) := by decide +kernel
theorem dX9_blot_8 : decode cX9_blot 8 = .ok (.ireturn, 1) := by decide +kernel
theorem dX9_blot_9 : decode cX9_blot 9 = .ok (.aload_n 0, 1) := by decide +kernel
theorem dX9_blot_10 : decode cX9_blot 10 = .ok (.getfield 26, 3) := by decide +kernel
theorem dX9_blot_13 : decode cX9_blot 13 = .ok (.iload_n 1, 1) := by decide +kernel
theorem dX9_blot_14 : decode cX9_blot 14 = .ok (.invokevirtual 142, 3) := by decide +kernel
theorem dX9_blot_17 : decode cX9_blot 17 = .ok (.ifCond .ne 6, 3) := by decide +kernel
theorem dX9_blot_20 : decode cX9_blot 20 = .ok (.bipush (-3), 2) := by decide +kernel
theorem dX9_blot_22 : decode cX9_blot 22 = .ok (.ireturn, 1) := by decide +kernel
theorem dX9_blot_23 : decode cX9_blot 23 = .ok (.aload_n 0, 1) := by decide +kernel
theorem dX9_blot_24 : decode cX9_blot 24 = .ok (.getfield 36, 3) := by decide +kernel
theorem dX9_blot_27 : decode cX9_blot 27 = .ok (.aload_n 0, 1) := by decide +kernel
theorem dX9_blot_28 : decode cX9_blot 28 = .ok (.getfield 26, 3) := by decide +kernel
theorem dX9_blot_31 : decode cX9_blot 31 = .ok (.bipush (-9), 2) := by decide +kernel
theorem dX9_blot_33 : decode cX9_blot 33 = .ok (.iload_n 1, 1) := by decide +kernel
theorem dX9_blot_34 : decode cX9_blot 34 = .ok (.invokevirtual 155, 3) := by decide +kernel
theorem dX9_blot_37 : decode cX9_blot 37 = .ok (.aload_n 0, 1) := by decide +kernel
theorem dX9_blot_38 : decode cX9_blot 38 = .ok (.getfield 26, 3) := by decide +kernel
theorem dX9_blot_41 : decode cX9_blot 41 = .ok (.iload_n 1, 1) := by decide +kernel
theorem dX9_blot_42 : decode cX9_blot 42 = .ok (.invokevirtual 176, 3) := by decide +kernel
theorem dX9_blot_45 : decode cX9_blot 45 = .ok (.ireturn, 1) := by decide +kernel
theorem dX9_undo_0 : decode cX9_undo 0 = .ok (.aload_n 0, 1) := by decide +kernel
theorem dX9_undo_1 : decode cX9_undo 1 = .ok (.getfield 36, 3) := by decide +kernel
theorem dX9_undo_4 : decode cX9_undo 4 = .ok (.getfield 179, 3) := by decide +kernel
theorem dX9_undo_7 : decode cX9_undo 7 = .ok (.ifCond .ne 6, 3) := by decide +kernel
theorem dX9_undo_10 : decode cX9_undo 10 = .ok (.bipush (-3), 2) := by decide +kernel
theorem dX9_undo_12 : decode cX9_undo 12 = .ok (.ireturn, 1) := by decide +kernel
theorem dX9_undo_13 : decode cX9_undo 13 = .ok (.aload_n 0, 1) := by decide +kernel
theorem dX9_undo_14 : decode cX9_undo 14 = .ok (.getfield 36, 3) := by decide +kernel
theorem dX9_undo_17 : decode cX9_undo 17 = .ok (.aload_n 0, 1) := by decide +kernel
theorem dX9_undo_18 : decode cX9_undo 18 = .ok (.getfield 26, 3) := by decide +kernel
theorem dX9_undo_21 : decode cX9_undo 21 = .ok (.invokevirtual 182, 3) := by decide +kernel
theorem dX9_undo_24 : decode cX9_undo 24 = .ok (.aload_n 0, 1) := by decide +kernel
theorem dX9_undo_25 : decode cX9_undo 25 = .ok (.getfield 36, 3) := by decide +kernel
theorem dX9_undo_28 : decode cX9_undo 28 = .ok (.getfield 179, 3) := by decide +kernel
theorem dX9_undo_31 : decode cX9_undo 31 = .ok (.ireturn, 1) := by decide +kernel
theorem dX9_behind_0 : decode cX9_behind 0 = .ok (.aload_n 0, 1) := by decide +kernel
theorem dX9_behind_1 : decode cX9_behind 1 = .ok (.iload_n 1, 1) := by decide +kernel
theorem dX9_behind_2 : decode cX9_behind 2 = .ok (.invokevirtual 185, 3) := by decide +kernel
theorem dX9_behind_5 : decode cX9_behind 5 = .ok (.astore 4, 2) := by decide +kernel
theorem dX9_behind_7 : decode cX9_behind 7 = .ok (.aload 4, 2) := by decide +kernel
theorem dX9_behind_9 : decode cX9_behind 9 = .ok (.ifnonnull 5, 3) := by decide +kernel
theorem dX9_behind_12 : decode cX9_behind 12 = .ok (.iconst (-1), 1) := by decide +kernel
theorem dX9_behind_13 : decode cX9_behind 13 = .ok (.ireturn, 1) := by decide +kernel
theorem dX9_behind_14 : decode cX9_behind 14 = .ok (.iload_n 2, 1) := by decide +kernel
theorem dX9_behind_15 : decode cX9_behind 15 = .ok (.bipush 8, 2) := by decide +kernel
theorem dX9_behind_17 : decode cX9_behind 17 = .ok (.invokestatic 68, 3) := by decide +kernel
theorem dX9_behind_20 : decode cX9_behind 20 = .ok (.ifCond .eq 11, 3) := by decide +kernel
theorem dX9_behind_23 : decode cX9_behind 23 = .ok (.iload_n 3, 1) := by decide +kernel
theorem dX9_behind_24 : decode cX9_behind 24 = .ok (.iconst 2, 1) := by decide +kernel
theorem dX9_behind_25 : decode cX9_behind 25 = .ok (.invokestatic 68, 3) := by decide +kernel
theorem dX9_behind_28 : decode cX9_behind 28 = .ok (.ifCond .ne 6, 3) := by decide +kernel
theorem dX9_behind_31 : decode cX9_behind 31 = .ok (.bipush (-2), 2) := by decide +kernel
theorem dX9_behind_33 : decode cX9_behind 33 = .ok (.ireturn, 1) := by decide +kernel
theorem dX9_behind_34 : decode cX9_behind 34 = .ok (.aload 4, 2) := by decide +kernel
theorem dX9_behind_36 : decode cX9_behind 36 = .ok (.getfield 126, 3) := by decide +kernel
theorem dX9_behind_39 : decode cX9_behind 39 = .ok (.istore 5, 2) := by decide +kernel
theorem dX9_behind_41 : decode cX9_behind 41 = .ok (.aload_n 0, 1) := by decide +kernel
theorem dX9_behind_42 : decode cX9_behind 42 = .ok (.getfield 30, 3) := by decide +kernel
theorem dX9_behind_45 : decode cX9_behind 45 = .ok (.aload 4, 2) := by decide +kernel
theorem dX9_behind_47 : decode cX9_behind 47 = .ok (.aload_n 0, 1) := by decide +kernel
theorem dX9_behind_48 : decode cX9_behind 48 = .ok (.getfield 19, 3) := by decide +kernel
theorem dX9_behind_51 : decode cX9_behind 51 = .ok (.iload_n 2, 1) := by decide +kernel
theorem dX9_behind_52 : decode cX9_behind 52 = .ok (.invokevirtual 188, 3) := by decide +kernel
theorem dX9_behind_55 : decode cX9_behind 55 = .ok (.pop, 1) := by decide +kernel
theorem dX9_behind_56 : decode cX9_behind 56 = .ok (.iload_n 3, 1) := by decide +kernel
theorem dX9_behind_57 : decode cX9_behind 57 = .ok (.lookupswitch 39 #[(0, 27), (1, 33)], 27) := by decide +kernel
theorem dX9_behind_84 : decode cX9_behind 84 = .ok (.aload 4, 2) := by decide +kernel
theorem dX9_behind_86 : decode cX9_behind 86 = .ok (.getfield 115, 3) := by decide +kernel
theorem dX9_behind_89 : decode cX9_behind 89 = .ok (.ireturn, 1) := by decide +kernel
theorem dX9_behind_90 : decode cX9_behind 90 = .ok (.aload 4, 2) := by decide +kernel
theorem dX9_behind_92 : decode cX9_behind 92 = .ok (.getfield 126, 3) := by decide +kernel
theorem dX9_behind_95 : decode cX9_behind 95 = .ok (.ireturn, 1) := by decide +kernel
theorem dX9_behind_96 : decode cX9_behind 96 = .ok (.iload 5, 2) := by decide +kernel
theorem dX9_behind_98 : decode cX9_behind 98 = .ok (.aload 4, 2) := by decide +kernel
theorem dX9_behind_100 : decode cX9_behind 100 = .ok (.getfield 126, 3) := by decide +kernel
theorem dX9_behind_103 : decode cX9_behind 103 = .ok (.isub, 1) := by decide +kernel
theorem dX9_behind_104 : decode cX9_behind 104 = .ok (.ireturn, 1) := by decide +kernel
theorem dX9_least_0 : decode cX9_least 0 = .ok (.aload_n 0, 1) := by decide +kernel
theorem dX9_least_1 : decode cX9_least 1 = .ok (.getfield 26, 3) := by decide +kernel
theorem dX9_least_4 : decode cX9_least 4 = .ok (.iload_n 1, 1) := by decide +kernel
theorem dX9_least_5 : decode cX9_least 5 = .ok (.invokevirtual 111, 3) := by decide +kernel
theorem dX9_least_8 : decode cX9_least 8 = .ok (.astore 4, 2) := by decide +kernel
theorem dX9_least_10 : decode cX9_least 10 = .ok (.aload 4, 2) := by decide +kernel
theorem dX9_least_12 : decode cX9_least 12 = .ok (.ifnull 10, 3) := by decide +kernel
theorem dX9_least_15 : decode cX9_least 15 = .ok (.iload_n 2, 1) := by decide +kernel
theorem dX9_least_16 : decode cX9_least 16 = .ok (.invokestatic 139, 3) := by decide +kernel
theorem dX9_least_19 : decode cX9_least 19 = .ok (.ifCond .ne 5, 3) := by decide +kernel
theorem dX9_least_22 : decode cX9_least 22 = .ok (.iconst (-1), 1) := by decide +kernel
theorem dX9_least_23 : decode cX9_least 23 = .ok (.ireturn, 1) := by decide +kernel
theorem dX9_least_24 : decode cX9_least 24 = .ok (.iload_n 3, 1) := by decide +kernel
theorem dX9_least_25 : decode cX9_least 25 = .ok (.iconst 2, 1) := by decide +kernel
theorem dX9_least_26 : decode cX9_least 26 = .ok (.invokestatic 68, 3) := by decide +kernel
theorem dX9_least_29 : decode cX9_least 29 = .ok (.ifCond .ne 6, 3) := by decide +kernel
theorem dX9_least_32 : decode cX9_least 32 = .ok (.bipush (-2), 2) := by decide +kernel
theorem dX9_least_34 : decode cX9_least 34 = .ok (.ireturn, 1) := by decide +kernel
theorem dX9_least_35 : decode cX9_least 35 = .ok (.aload_n 0, 1) := by decide +kernel
theorem dX9_least_36 : decode cX9_least 36 = .ok (.getfield 50, 3) := by decide +kernel
theorem dX9_least_39 : decode cX9_least 39 = .ok (.iload_n 2, 1) := by decide +kernel
theorem dX9_least_40 : decode cX9_least 40 = .ok (.aload 4, 2) := by decide +kernel
theorem dX9_least_42 : decode cX9_least 42 = .ok (.invokevirtual 192, 3) := by decide +kernel
theorem dX9_least_45 : decode cX9_least 45 = .ok (.iload_n 3, 1) := by decide +kernel
theorem dX9_least_46 : decode cX9_least 46 = .ok (.lookupswitch 52 #[(0, 26), (1, 39)], 26) := by decide +kernel
theorem dX9_least_72 : decode cX9_least 72 = .ok (.aload_n 0, 1) := by decide +kernel
theorem dX9_least_73 : decode cX9_least 73 = .ok (.getfield 50, 3) := by decide +kernel
theorem dX9_least_76 : decode cX9_least 76 = .ok (.aload 4, 2) := by decide +kernel
theorem dX9_least_78 : decode cX9_least 78 = .ok (.getfield 115, 3) := by decide +kernel
theorem dX9_least_81 : decode cX9_least 81 = .ok (.invokevirtual 196, 3) := by decide +kernel
theorem dX9_least_84 : decode cX9_least 84 = .ok (.ireturn, 1) := by decide +kernel
theorem dX9_least_85 : decode cX9_least 85 = .ok (.aload_n 0, 1) := by decide +kernel
theorem dX9_least_86 : decode cX9_least 86 = .ok (.getfield 50, 3) := by decide +kernel
theorem dX9_least_89 : decode cX9_least 89 = .ok (.aload 4, 2) := by decide +kernel
theorem dX9_least_91 : decode cX9_least 91 = .ok (.getfield 115, 3) := by decide +kernel
theorem dX9_least_94 : decode cX9_least 94 = .ok (.invokevirtual 199, 3) := by decide +kernel
theorem dX9_least_97 : decode cX9_least 97 = .ok (.ireturn, 1) := by decide +kernel
theorem dX9_least_98 : decode cX9_least 98 = .ok (.aload_n 0, 1) := by decide +kernel
theorem dX9_least_99 : decode cX9_least 99 = .ok (.getfield 50, 3) := by decide +kernel
theorem dX9_least_102 : decode cX9_least 102 = .ok (.aload 4, 2) := by decide +kernel
theorem dX9_least_104 : decode cX9_least 104 = .ok (.getfield 115, 3) := by decide +kernel
theorem dX9_least_107 : decode cX9_least 107 = .ok (.invokevirtual 202, 3) := by decide +kernel
theorem dX9_least_110 : decode cX9_least 110 = .ok (.ireturn, 1) := by decide +kernel
theorem dX9_rings_0 : decode cX9_rings 0 = .ok (.aload_n 0, 1) := by decide +kernel
theorem dX9_rings_1 : decode cX9_rings 1 = .ok (.getfield 26, 3) := by decide +kernel
theorem dX9_rings_4 : decode cX9_rings 4 = .ok (.iload_n 1, 1) := by decide +kernel
theorem dX9_rings_5 : decode cX9_rings 5 = .ok (.invokevirtual 111, 3) := by decide +kernel
theorem dX9_rings_8 : decode cX9_rings 8 = .ok (.astore 4, 2) := by decide +kernel
theorem dX9_rings_10 : decode cX9_rings 10 = .ok (.aload 4, 2) := by decide +kernel
theorem dX9_rings_12 : decode cX9_rings 12 = .ok (.ifnonnull 5, 3) := by decide +kernel
theorem dX9_rings_15 : decode cX9_rings 15 = .ok (.iconst (-1), 1) := by decide +kernel
theorem dX9_rings_16 : decode cX9_rings 16 = .ok (.ireturn, 1) := by decide +kernel
theorem dX9_rings_17 : decode cX9_rings 17 = .ok (.iload_n 2, 1) := by decide +kernel
theorem dX9_rings_18 : decode cX9_rings 18 = .ok (.iconst 1, 1) := by decide +kernel
theorem dX9_rings_19 : decode cX9_rings 19 = .ok (.if_icmp .lt 16, 3) := by decide +kernel
theorem dX9_rings_22 : decode cX9_rings 22 = .ok (.iload_n 2, 1) := by decide +kernel
theorem dX9_rings_23 : decode cX9_rings 23 = .ok (.iconst 4, 1) := by decide +kernel
theorem dX9_rings_24 : decode cX9_rings 24 = .ok (.if_icmp .gt 11, 3) := by decide +kernel
theorem dX9_rings_27 : decode cX9_rings 27 = .ok (.iload_n 3, 1) := by decide +kernel
theorem dX9_rings_28 : decode cX9_rings 28 = .ok (.iconst 1, 1) := by decide +kernel
theorem dX9_rings_29 : decode cX9_rings 29 = .ok (.invokestatic 68, 3) := by decide +kernel
theorem dX9_rings_32 : decode cX9_rings 32 = .ok (.ifCond .ne 6, 3) := by decide +kernel
theorem dX9_rings_35 : decode cX9_rings 35 = .ok (.bipush (-2), 2) := by decide +kernel
theorem dX9_rings_37 : decode cX9_rings 37 = .ok (.ireturn, 1) := by decide +kernel
theorem dX9_rings_38 : decode cX9_rings 38 = .ok (.aload_n 0, 1) := by decide +kernel
theorem dX9_rings_39 : decode cX9_rings 39 = .ok (.getfield 50, 3) := by decide +kernel
theorem dX9_rings_42 : decode cX9_rings 42 = .ok (.aload 4, 2) := by decide +kernel
theorem dX9_rings_44 : decode cX9_rings 44 = .ok (.iload_n 2, 1) := by decide +kernel
theorem dX9_rings_45 : decode cX9_rings 45 = .ok (.invokevirtual 205, 3) := by decide +kernel
theorem dX9_rings_48 : decode cX9_rings 48 = .ok (.iload_n 3, 1) := by decide +kernel
theorem dX9_rings_49 : decode cX9_rings 49 = .ok (.ifCond .ne 18, 3) := by decide +kernel
theorem dX9_rings_52 : decode cX9_rings 52 = .ok (.aload_n 0, 1) := by decide +kernel
theorem dX9_rings_53 : decode cX9_rings 53 = .ok (.getfield 50, 3) := by decide +kernel
theorem dX9_rings_56 : decode cX9_rings 56 = .ok (.aload 4, 2) := by decide +kernel
theorem dX9_rings_58 : decode cX9_rings 58 = .ok (.getfield 115, 3) := by decide +kernel
theorem dX9_rings_61 : decode cX9_rings 61 = .ok (.invokevirtual 209, 3) := by decide +kernel
theorem dX9_rings_64 : decode cX9_rings 64 = .ok (.goto 15, 3) := by decide +kernel
theorem dX9_rings_67 : decode cX9_rings 67 = .ok (.aload_n 0, 1) := by decide +kernel
theorem dX9_rings_68 : decode cX9_rings 68 = .ok (.getfield 50, 3) := by decide +kernel
theorem dX9_rings_71 : decode cX9_rings 71 = .ok (.aload 4, 2) := by decide +kernel
theorem dX9_rings_73 : decode cX9_rings 73 = .ok (.getfield 115, 3) := by decide +kernel
theorem dX9_rings_76 : decode cX9_rings 76 = .ok (.invokevirtual 212, 3) := by decide +kernel
theorem dX9_rings_79 : decode cX9_rings 79 = .ok (.ireturn, 1) := by decide +kernel
theorem dX9_judge_0 : decode cX9_judge 0 = .ok (.iload_n 1, 1) := by decide +kernel
theorem dX9_judge_1 : decode cX9_judge 1 = .ok (.iconst 1, 1) := by decide +kernel
theorem dX9_judge_2 : decode cX9_judge 2 = .ok (.if_icmp .lt 18, 3) := by decide +kernel
theorem dX9_judge_5 : decode cX9_judge 5 = .ok (.iload_n 1, 1) := by decide +kernel
theorem dX9_judge_6 : decode cX9_judge 6 = .ok (.iconst 4, 1) := by decide +kernel
theorem dX9_judge_7 : decode cX9_judge 7 = .ok (.if_icmp .gt 13, 3) := by decide +kernel
theorem dX9_judge_10 : decode cX9_judge 10 = .ok (.lload_n 2, 1) := by decide +kernel
theorem dX9_judge_11 : decode cX9_judge 11 = .ok (.iconst 3, 1) := by decide +kernel
theorem dX9_judge_12 : decode cX9_judge 12 = .ok (.iload_n 1, 1) := by decide +kernel
theorem dX9_judge_13 : decode cX9_judge 13 = .ok (.imul, 1) := by decide +kernel
theorem dX9_judge_14 : decode cX9_judge 14 = .ok (.invokestatic 98, 3) := by decide +kernel
theorem dX9_judge_17 : decode cX9_judge 17 = .ok (.ifCond .ne 6, 3) := by decide +kernel
theorem dX9_judge_20 : decode cX9_judge 20 = .ok (.bipush (-2), 2) := by decide +kernel
theorem dX9_judge_22 : decode cX9_judge 22 = .ok (.ireturn, 1) := by decide +kernel
theorem dX9_judge_23 : decode cX9_judge 23 = .ok (.aload_n 0, 1) := by decide +kernel
theorem dX9_judge_24 : decode cX9_judge 24 = .ok (.getfield 30, 3) := by decide +kernel
theorem dX9_judge_27 : decode cX9_judge 27 = .ok (.aload_n 0, 1) := by decide +kernel
theorem dX9_judge_28 : decode cX9_judge 28 = .ok (.getfield 26, 3) := by decide +kernel
theorem dX9_judge_31 : decode cX9_judge 31 = .ok (.invokevirtual 215, 3) := by decide +kernel
theorem dX9_judge_34 : decode cX9_judge 34 = .ok (.iconst 0, 1) := by decide +kernel
theorem dX9_judge_35 : decode cX9_judge 35 = .ok (.istore 4, 2) := by decide +kernel
theorem dX9_judge_37 : decode cX9_judge 37 = .ok (.iload 4, 2) := by decide +kernel
theorem dX9_judge_39 : decode cX9_judge 39 = .ok (.iload_n 1, 1) := by decide +kernel
theorem dX9_judge_40 : decode cX9_judge 40 = .ok (.if_icmp .ge 51, 3) := by decide +kernel
theorem dX9_judge_43 : decode cX9_judge 43 = .ok (.iconst 3, 1) := by decide +kernel
theorem dX9_judge_44 : decode cX9_judge 44 = .ok (.iload_n 1, 1) := by decide +kernel
theorem dX9_judge_45 : decode cX9_judge 45 = .ok (.iconst 1, 1) := by decide +kernel
theorem dX9_judge_46 : decode cX9_judge 46 = .ok (.isub, 1) := by decide +kernel
theorem dX9_judge_47 : decode cX9_judge 47 = .ok (.iload 4, 2) := by decide +kernel
theorem dX9_judge_49 : decode cX9_judge 49 = .ok (.isub, 1) := by decide +kernel
theorem dX9_judge_50 : decode cX9_judge 50 = .ok (.imul, 1) := by decide +kernel
theorem dX9_judge_51 : decode cX9_judge 51 = .ok (.istore 5, 2) := by decide +kernel
theorem dX9_judge_53 : decode cX9_judge 53 = .ok (.aload_n 0, 1) := by decide +kernel
theorem dX9_judge_54 : decode cX9_judge 54 = .ok (.lload_n 2, 1) := by decide +kernel
theorem dX9_judge_55 : decode cX9_judge 55 = .ok (.iload 5, 2) := by decide +kernel
theorem dX9_judge_57 : decode cX9_judge 57 = .ok (.iconst 2, 1) := by decide +kernel
theorem dX9_judge_58 : decode cX9_judge 58 = .ok (.iadd, 1) := by decide +kernel
theorem dX9_judge_59 : decode cX9_judge 59 = .ok (.invokestatic 218, 3) := by decide +kernel
theorem dX9_judge_62 : decode cX9_judge 62 = .ok (.lload_n 2, 1) := by decide +kernel
theorem dX9_judge_63 : decode cX9_judge 63 = .ok (.iload 5, 2) := by decide +kernel
theorem dX9_judge_65 : decode cX9_judge 65 = .ok (.iconst 1, 1) := by decide +kernel
theorem dX9_judge_66 : decode cX9_judge 66 = .ok (.iadd, 1) := by decide +kernel
theorem dX9_judge_67 : decode cX9_judge 67 = .ok (.invokestatic 218, 3) := by decide +kernel
theorem dX9_judge_70 : decode cX9_judge 70 = .ok (.lload_n 2, 1) := by decide +kernel
theorem dX9_judge_71 : decode cX9_judge 71 = .ok (.iload 5, 2) := by decide +kernel
theorem dX9_judge_73 : decode cX9_judge 73 = .ok (.invokestatic 218, 3) := by decide +kernel
theorem dX9_judge_76 : decode cX9_judge 76 = .ok (.invokevirtual 222, 3) := by decide +kernel
theorem dX9_judge_79 : decode cX9_judge 79 = .ok (.ifCond .ne 6, 3) := by decide +kernel
theorem dX9_judge_82 : decode cX9_judge 82 = .ok (.iload 4, 2) := by decide +kernel
theorem dX9_judge_84 : decode cX9_judge 84 = .ok (.ireturn, 1) := by decide +kernel
theorem dX9_judge_85 : decode cX9_judge 85 = .ok (.iinc 4 1, 3) := by decide +kernel
theorem dX9_judge_88 : decode cX9_judge 88 = .ok (.goto (-51), 3) := by decide +kernel
theorem dX9_judge_91 : decode cX9_judge 91 = .ok (.bipush (-9), 2) := by decide +kernel
theorem dX9_judge_93 : decode cX9_judge 93 = .ok (.ireturn, 1) := by decide +kernel
theorem dX9_see_0 : decode cX9_see 0 = .ok (.iload_n 1, 1) := by decide +kernel
theorem dX9_see_1 : decode cX9_see 1 = .ok (.invokestatic 145, 3) := by decide +kernel
theorem dX9_see_4 : decode cX9_see 4 = .ok (.ifCond .eq 12, 3) := by decide +kernel
theorem dX9_see_7 : decode cX9_see 7 = .ok (.iload_n 2, 1) := by decide +kernel
theorem dX9_see_8 : decode cX9_see 8 = .ok (.bipush 6, 2) := by decide +kernel
theorem dX9_see_10 : decode cX9_see 10 = .ok (.invokestatic 68, 3) := by decide +kernel
theorem dX9_see_13 : decode cX9_see 13 = .ok (.ifCond .ne 6, 3) := by decide +kernel
theorem dX9_see_16 : decode cX9_see 16 = .ok (.bipush (-2), 2) := by decide +kernel
theorem dX9_see_18 : decode cX9_see 18 = .ok (.ireturn, 1) := by decide +kernel
theorem dX9_see_19 : decode cX9_see 19 = .ok (.aload_n 0, 1) := by decide +kernel
theorem dX9_see_20 : decode cX9_see 20 = .ok (.getfield 43, 3) := by decide +kernel
theorem dX9_see_23 : decode cX9_see 23 = .ok (.iload_n 1, 1) := by decide +kernel
theorem dX9_see_24 : decode cX9_see 24 = .ok (.iload_n 2, 1) := by decide +kernel
theorem dX9_see_25 : decode cX9_see 25 = .ok (.invokevirtual 226, 3) := by decide +kernel
theorem dX9_see_28 : decode cX9_see 28 = .ok (.ifCond .eq 13, 3) := by decide +kernel
theorem dX9_see_31 : decode cX9_see 31 = .ok (.aload_n 0, 1) := by decide +kernel
theorem dX9_see_32 : decode cX9_see 32 = .ok (.getfield 43, 3) := by decide +kernel
theorem dX9_see_35 : decode cX9_see 35 = .ok (.getfield 228, 3) := by decide +kernel
theorem dX9_see_38 : decode cX9_see 38 = .ok (.goto 5, 3) := by decide +kernel
theorem dX9_see_41 : decode cX9_see 41 = .ok (.bipush (-4), 2) := by decide +kernel
theorem dX9_see_43 : decode cX9_see 43 = .ok (.ireturn, 1) := by decide +kernel
theorem dX9_unsee_0 : decode cX9_unsee 0 = .ok (.aload_n 0, 1) := by decide +kernel
theorem dX9_unsee_1 : decode cX9_unsee 1 = .ok (.getfield 43, 3) := by decide +kernel
theorem dX9_unsee_4 : decode cX9_unsee 4 = .ok (.getfield 228, 3) := by decide +kernel
theorem dX9_unsee_7 : decode cX9_unsee 7 = .ok (.istore_n 1, 1) := by decide +kernel
theorem dX9_unsee_8 : decode cX9_unsee 8 = .ok (.aload_n 0, 1) := by decide +kernel
theorem dX9_unsee_9 : decode cX9_unsee 9 = .ok (.getfield 43, 3) := by decide +kernel
theorem dX9_unsee_12 : decode cX9_unsee 12 = .ok (.iconst 0, 1) := by decide +kernel
theorem dX9_unsee_13 : decode cX9_unsee 13 = .ok (.putfield 228, 3) := by decide +kernel
theorem dX9_unsee_16 : decode cX9_unsee 16 = .ok (.iload_n 1, 1) := by decide +kernel
theorem dX9_unsee_17 : decode cX9_unsee 17 = .ok (.ireturn, 1) := by decide +kernel
theorem dX9_nibs_0 : decode cX9_nibs 0 = .ok (.iload_n 1, 1) := by decide +kernel
theorem dX9_nibs_1 : decode cX9_nibs 1 = .ok (.lookupswitch 43 #[(0, 27), (1, 35)], 27) := by decide +kernel
theorem dX9_nibs_28 : decode cX9_nibs 28 = .ok (.aload_n 0, 1) := by decide +kernel
theorem dX9_nibs_29 : decode cX9_nibs 29 = .ok (.getfield 43, 3) := by decide +kernel
theorem dX9_nibs_32 : decode cX9_nibs 32 = .ok (.invokevirtual 229, 3) := by decide +kernel
theorem dX9_nibs_35 : decode cX9_nibs 35 = .ok (.ireturn, 1) := by decide +kernel
theorem dX9_nibs_36 : decode cX9_nibs 36 = .ok (.aload_n 0, 1) := by decide +kernel
theorem dX9_nibs_37 : decode cX9_nibs 37 = .ok (.getfield 43, 3) := by decide +kernel
theorem dX9_nibs_40 : decode cX9_nibs 40 = .ok (.invokevirtual 232, 3) := by decide +kernel
theorem dX9_nibs_43 : decode cX9_nibs 43 = .ok (.ireturn, 1) := by decide +kernel
theorem dX9_nibs_44 : decode cX9_nibs 44 = .ok (.bipush (-2), 2) := by decide +kernel
theorem dX9_nibs_46 : decode cX9_nibs 46 = .ok (.ireturn, 1) := by decide +kernel
theorem dX9_share_0 : decode cX9_share 0 = .ok (.aload_n 0, 1) := by decide +kernel
theorem dX9_share_1 : decode cX9_share 1 = .ok (.getfield 26, 3) := by decide +kernel
theorem dX9_share_4 : decode cX9_share 4 = .ok (.iload_n 1, 1) := by decide +kernel
theorem dX9_share_5 : decode cX9_share 5 = .ok (.invokevirtual 111, 3) := by decide +kernel
theorem dX9_share_8 : decode cX9_share 8 = .ok (.ifnonnull 5, 3) := by decide +kernel
theorem dX9_share_11 : decode cX9_share 11 = .ok (.iconst (-1), 1) := by decide +kernel
theorem dX9_share_12 : decode cX9_share 12 = .ok (.ireturn, 1) := by decide +kernel
theorem dX9_share_13 : decode cX9_share 13 = .ok (.iconst 0, 1) := by decide +kernel
theorem dX9_share_14 : decode cX9_share 14 = .ok (.istore_n 3, 1) := by decide +kernel
theorem dX9_share_15 : decode cX9_share 15 = .ok (.iconst 0, 1) := by decide +kernel
theorem dX9_share_16 : decode cX9_share 16 = .ok (.istore 4, 2) := by decide +kernel
theorem dX9_share_18 : decode cX9_share 18 = .ok (.iload 4, 2) := by decide +kernel
theorem dX9_share_20 : decode cX9_share 20 = .ok (.iconst 1, 1) := by decide +kernel
theorem dX9_share_21 : decode cX9_share 21 = .ok (.aload_n 0, 1) := by decide +kernel
theorem dX9_share_22 : decode cX9_share 22 = .ok (.getfield 26, 3) := by decide +kernel
theorem dX9_share_25 : decode cX9_share 25 = .ok (.getfield 95, 3) := by decide +kernel
theorem dX9_share_28 : decode cX9_share 28 = .ok (.ishl, 1) := by decide +kernel
theorem dX9_share_29 : decode cX9_share 29 = .ok (.if_icmp .ge 61, 3) := by decide +kernel
theorem dX9_share_32 : decode cX9_share 32 = .ok (.iload 4, 2) := by decide +kernel
theorem dX9_share_34 : decode cX9_share 34 = .ok (.iload_n 1, 1) := by decide +kernel
theorem dX9_share_35 : decode cX9_share 35 = .ok (.ishr, 1) := by decide +kernel
theorem dX9_share_36 : decode cX9_share 36 = .ok (.iconst 1, 1) := by decide +kernel
theorem dX9_share_37 : decode cX9_share 37 = .ok (.iand, 1) := by decide +kernel
theorem dX9_share_38 : decode cX9_share 38 = .ok (.ifCond .ne 46, 3) := by decide +kernel
theorem dX9_share_41 : decode cX9_share 41 = .ok (.iload 4, 2) := by decide +kernel
theorem dX9_share_43 : decode cX9_share 43 = .ok (.invokestatic 235, 3) := by decide +kernel
theorem dX9_share_46 : decode cX9_share 46 = .ok (.istore 5, 2) := by decide +kernel
theorem dX9_share_48 : decode cX9_share 48 = .ok (.iload 5, 2) := by decide +kernel
theorem dX9_share_50 : decode cX9_share 50 = .ok (.invokestatic 240, 3) := by decide +kernel
theorem dX9_share_53 : decode cX9_share 53 = .ok (.aload_n 0, 1) := by decide +kernel
theorem dX9_share_54 : decode cX9_share 54 = .ok (.getfield 26, 3) := by decide +kernel
theorem dX9_share_57 : decode cX9_share 57 = .ok (.getfield 95, 3) := by decide +kernel
theorem dX9_share_60 : decode cX9_share 60 = .ok (.iconst 1, 1) := by decide +kernel
theorem dX9_share_61 : decode cX9_share 61 = .ok (.isub, 1) := by decide +kernel
theorem dX9_share_62 : decode cX9_share 62 = .ok (.iload 5, 2) := by decide +kernel
theorem dX9_share_64 : decode cX9_share 64 = .ok (.isub, 1) := by decide +kernel
theorem dX9_share_65 : decode cX9_share 65 = .ok (.invokestatic 240, 3) := by decide +kernel
theorem dX9_share_68 : decode cX9_share 68 = .ok (.imul, 1) := by decide +kernel
theorem dX9_share_69 : decode cX9_share 69 = .ok (.istore 6, 2) := by decide +kernel
theorem dX9_share_71 : decode cX9_share 71 = .ok (.iload_n 3, 1) := by decide +kernel
theorem dX9_share_72 : decode cX9_share 72 = .ok (.iload 6, 2) := by decide +kernel
theorem dX9_share_74 : decode cX9_share 74 = .ok (.aload_n 0, 1) := by decide +kernel
theorem dX9_share_75 : decode cX9_share 75 = .ok (.iload 4, 2) := by decide +kernel
theorem dX9_share_77 : decode cX9_share 77 = .ok (.iload_n 1, 1) := by decide +kernel
theorem dX9_share_78 : decode cX9_share 78 = .ok (.invokevirtual 243, 3) := by decide +kernel
theorem dX9_share_81 : decode cX9_share 81 = .ok (.imul, 1) := by decide +kernel
theorem dX9_share_82 : decode cX9_share 82 = .ok (.iadd, 1) := by decide +kernel
theorem dX9_share_83 : decode cX9_share 83 = .ok (.istore_n 3, 1) := by decide +kernel
theorem dX9_share_84 : decode cX9_share 84 = .ok (.iinc 4 1, 3) := by decide +kernel
theorem dX9_share_87 : decode cX9_share 87 = .ok (.goto (-69), 3) := by decide +kernel
theorem dX9_share_90 : decode cX9_share 90 = .ok (.iload_n 3, 1) := by decide +kernel
theorem dX9_share_91 : decode cX9_share 91 = .ok (.i2l, 1) := by decide +kernel
theorem dX9_share_92 : decode cX9_share 92 = .ok (.aload_n 0, 1) := by decide +kernel
theorem dX9_share_93 : decode cX9_share 93 = .ok (.getfield 26, 3) := by decide +kernel
theorem dX9_share_96 : decode cX9_share 96 = .ok (.getfield 95, 3) := by decide +kernel
theorem dX9_share_99 : decode cX9_share 99 = .ok (.invokestatic 240, 3) := by decide +kernel
theorem dX9_share_102 : decode cX9_share 102 = .ok (.i2l, 1) := by decide +kernel
theorem dX9_share_103 : decode cX9_share 103 = .ok (.iload_n 2, 1) := by decide +kernel
theorem dX9_share_104 : decode cX9_share 104 = .ok (.invokestatic 246, 3) := by decide +kernel
theorem dX9_share_107 : decode cX9_share 107 = .ok (.ireturn, 1) := by decide +kernel
theorem dX9_rests_0 : decode cX9_rests 0 = .ok (.aload_n 0, 1) := by decide +kernel
theorem dX9_rests_1 : decode cX9_rests 1 = .ok (.getfield 26, 3) := by decide +kernel
theorem dX9_rests_4 : decode cX9_rests 4 = .ok (.iload_n 1, 1) := by decide +kernel
theorem dX9_rests_5 : decode cX9_rests 5 = .ok (.invokevirtual 111, 3) := by decide +kernel
theorem dX9_rests_8 : decode cX9_rests 8 = .ok (.ifnull 14, 3) := by decide +kernel
theorem dX9_rests_11 : decode cX9_rests 11 = .ok (.aload_n 0, 1) := by decide +kernel
theorem dX9_rests_12 : decode cX9_rests 12 = .ok (.getfield 26, 3) := by decide +kernel
theorem dX9_rests_15 : decode cX9_rests 15 = .ok (.iload_n 2, 1) := by decide +kernel
theorem dX9_rests_16 : decode cX9_rests 16 = .ok (.invokevirtual 111, 3) := by decide +kernel
theorem dX9_rests_19 : decode cX9_rests 19 = .ok (.ifnonnull 5, 3) := by decide +kernel
theorem dX9_rests_22 : decode cX9_rests 22 = .ok (.iconst (-1), 1) := by decide +kernel
theorem dX9_rests_23 : decode cX9_rests 23 = .ok (.ireturn, 1) := by decide +kernel
theorem dX9_rests_24 : decode cX9_rests 24 = .ok (.iload_n 1, 1) := by decide +kernel
theorem dX9_rests_25 : decode cX9_rests 25 = .ok (.iload_n 2, 1) := by decide +kernel
theorem dX9_rests_26 : decode cX9_rests 26 = .ok (.if_icmp .eq 11, 3) := by decide +kernel
theorem dX9_rests_29 : decode cX9_rests 29 = .ok (.iload_n 3, 1) := by decide +kernel
theorem dX9_rests_30 : decode cX9_rests 30 = .ok (.iconst 1, 1) := by decide +kernel
theorem dX9_rests_31 : decode cX9_rests 31 = .ok (.invokestatic 68, 3) := by decide +kernel
theorem dX9_rests_34 : decode cX9_rests 34 = .ok (.ifCond .ne 6, 3) := by decide +kernel
theorem dX9_rests_37 : decode cX9_rests 37 = .ok (.bipush (-2), 2) := by decide +kernel
theorem dX9_rests_39 : decode cX9_rests 39 = .ok (.ireturn, 1) := by decide +kernel
theorem dX9_rests_40 : decode cX9_rests 40 = .ok (.iconst 0, 1) := by decide +kernel
theorem dX9_rests_41 : decode cX9_rests 41 = .ok (.istore 4, 2) := by decide +kernel
theorem dX9_rests_43 : decode cX9_rests 43 = .ok (.iload 4, 2) := by decide +kernel
theorem dX9_rests_45 : decode cX9_rests 45 = .ok (.iconst 4, 1) := by decide +kernel
theorem dX9_rests_46 : decode cX9_rests 46 = .ok (.if_icmp .ge 17, 3) := by decide +kernel
theorem dX9_rests_49 : decode cX9_rests 49 = .ok (.aload_n 0, 1) := by decide +kernel
theorem dX9_rests_50 : decode cX9_rests 50 = .ok (.iload_n 1, 1) := by decide +kernel
theorem dX9_rests_51 : decode cX9_rests 51 = .ok (.iload_n 2, 1) := by decide +kernel
theorem dX9_rests_52 : decode cX9_rests 52 = .ok (.iload 4, 2) := by decide +kernel
theorem dX9_rests_54 : decode cX9_rests 54 = .ok (.invokevirtual 250, 3) := by decide +kernel
theorem dX9_rests_57 : decode cX9_rests 57 = .ok (.iinc 4 1, 3) := by decide +kernel
theorem dX9_rests_60 : decode cX9_rests 60 = .ok (.goto (-17), 3) := by decide +kernel
theorem dX9_rests_63 : decode cX9_rests 63 = .ok (.iconst 0, 1) := by decide +kernel
theorem dX9_rests_64 : decode cX9_rests 64 = .ok (.istore 4, 2) := by decide +kernel
theorem dX9_rests_66 : decode cX9_rests 66 = .ok (.bipush (-9), 2) := by decide +kernel
theorem dX9_rests_68 : decode cX9_rests 68 = .ok (.istore 5, 2) := by decide +kernel
theorem dX9_rests_70 : decode cX9_rests 70 = .ok (.iconst 3, 1) := by decide +kernel
theorem dX9_rests_71 : decode cX9_rests 71 = .ok (.istore 6, 2) := by decide +kernel
theorem dX9_rests_73 : decode cX9_rests 73 = .ok (.iload 6, 2) := by decide +kernel
theorem dX9_rests_75 : decode cX9_rests 75 = .ok (.ifCond .lt 35, 3) := by decide +kernel
theorem dX9_rests_78 : decode cX9_rests 78 = .ok (.aload_n 0, 1) := by decide +kernel
theorem dX9_rests_79 : decode cX9_rests 79 = .ok (.iload 6, 2) := by decide +kernel
theorem dX9_rests_81 : decode cX9_rests 81 = .ok (.invokevirtual 254, 3) := by decide +kernel
theorem dX9_rests_84 : decode cX9_rests 84 = .ok (.ifCond .eq 20, 3) := by decide +kernel
theorem dX9_rests_87 : decode cX9_rests 87 = .ok (.iinc 4 1, 3) := by decide +kernel
theorem dX9_rests_90 : decode cX9_rests 90 = .ok (.bipush 10, 2) := by decide +kernel
theorem dX9_rests_92 : decode cX9_rests 92 = .ok (.iload 6, 2) := by decide +kernel
theorem dX9_rests_94 : decode cX9_rests 94 = .ok (.iconst 1, 1) := by decide +kernel
theorem dX9_rests_95 : decode cX9_rests 95 = .ok (.ishr, 1) := by decide +kernel
theorem dX9_rests_96 : decode cX9_rests 96 = .ok (.imul, 1) := by decide +kernel
theorem dX9_rests_97 : decode cX9_rests 97 = .ok (.iload 6, 2) := by decide +kernel
theorem dX9_rests_99 : decode cX9_rests 99 = .ok (.iconst 1, 1) := by decide +kernel
theorem dX9_rests_100 : decode cX9_rests 100 = .ok (.iand, 1) := by decide +kernel
theorem dX9_rests_101 : decode cX9_rests 101 = .ok (.iadd, 1) := by decide +kernel
theorem dX9_rests_102 : decode cX9_rests 102 = .ok (.istore 5, 2) := by decide +kernel
theorem dX9_rests_104 : decode cX9_rests 104 = .ok (.iinc 6 (-1), 3) := by decide +kernel
theorem dX9_rests_107 : decode cX9_rests 107 = .ok (.goto (-34), 3) := by decide +kernel
theorem dX9_rests_110 : decode cX9_rests 110 = .ok (.iload_n 3, 1) := by decide +kernel
theorem dX9_rests_111 : decode cX9_rests 111 = .ok (.ifCond .ne 8, 3) := by decide +kernel
theorem dX9_rests_114 : decode cX9_rests 114 = .ok (.iload 4, 2) := by decide +kernel
theorem dX9_rests_116 : decode cX9_rests 116 = .ok (.goto 5, 3) := by decide +kernel
theorem dX9_rests_119 : decode cX9_rests 119 = .ok (.iload 5, 2) := by decide +kernel
theorem dX9_rests_121 : decode cX9_rests 121 = .ok (.ireturn, 1) := by decide +kernel
theorem dX9_skipped_0 : decode cX9_skipped 0 = .ok (.aload_n 0, 1) := by decide +kernel
theorem dX9_skipped_1 : decode cX9_skipped 1 = .ok (.getfield 26, 3) := by decide +kernel
theorem dX9_skipped_4 : decode cX9_skipped 4 = .ok (.iload_n 1, 1) := by decide +kernel
theorem dX9_skipped_5 : decode cX9_skipped 5 = .ok (.invokevirtual 111, 3) := by decide +kernel
theorem dX9_skipped_8 : decode cX9_skipped 8 = .ok (.astore 5, 2) := by decide +kernel
theorem dX9_skipped_10 : decode cX9_skipped 10 = .ok (.aload 5, 2) := by decide +kernel
theorem dX9_skipped_12 : decode cX9_skipped 12 = .ok (.ifnonnull 5, 3) := by decide +kernel
theorem dX9_skipped_15 : decode cX9_skipped 15 = .ok (.iconst (-1), 1) := by decide +kernel
theorem dX9_skipped_16 : decode cX9_skipped 16 = .ok (.ireturn, 1) := by decide +kernel
theorem dX9_skipped_17 : decode cX9_skipped 17 = .ok (.iload_n 2, 1) := by decide +kernel
theorem dX9_skipped_18 : decode cX9_skipped 18 = .ok (.bipush 99, 2) := by decide +kernel
theorem dX9_skipped_20 : decode cX9_skipped 20 = .ok (.invokestatic 68, 3) := by decide +kernel
theorem dX9_skipped_23 : decode cX9_skipped 23 = .ok (.ifCond .eq 12, 3) := by decide +kernel
theorem dX9_skipped_26 : decode cX9_skipped 26 = .ok (.iload_n 3, 1) := by decide +kernel
theorem dX9_skipped_27 : decode cX9_skipped 27 = .ok (.bipush 10, 2) := by decide +kernel
theorem dX9_skipped_29 : decode cX9_skipped 29 = .ok (.invokestatic 68, 3) := by decide +kernel
theorem dX9_skipped_32 : decode cX9_skipped 32 = .ok (.ifCond .ne 6, 3) := by decide +kernel
theorem dX9_skipped_35 : decode cX9_skipped 35 = .ok (.bipush (-2), 2) := by decide +kernel
theorem dX9_skipped_37 : decode cX9_skipped 37 = .ok (.ireturn, 1) := by decide +kernel
theorem dX9_skipped_38 : decode cX9_skipped 38 = .ok (.aload 5, 2) := by decide +kernel
theorem dX9_skipped_40 : decode cX9_skipped 40 = .ok (.aload_n 0, 1) := by decide +kernel
theorem dX9_skipped_41 : decode cX9_skipped 41 = .ok (.getfield 19, 3) := by decide +kernel
theorem dX9_skipped_44 : decode cX9_skipped 44 = .ok (.iconst 0, 1) := by decide +kernel
theorem dX9_skipped_45 : decode cX9_skipped 45 = .ok (.aload 5, 2) := by decide +kernel
theorem dX9_skipped_47 : decode cX9_skipped 47 = .ok (.getfield 115, 3) := by decide +kernel
theorem dX9_skipped_50 : decode cX9_skipped 50 = .ok (.iconst 0, 1) := by decide +kernel
theorem dX9_skipped_51 : decode cX9_skipped 51 = .ok (.iload_n 2, 1) := by decide +kernel
theorem dX9_skipped_52 : decode cX9_skipped 52 = .ok (.iload_n 3, 1) := by decide +kernel
theorem dX9_skipped_53 : decode cX9_skipped 53 = .ok (.invokestatic 257, 3) := by decide +kernel
theorem dX9_skipped_56 : decode cX9_skipped 56 = .ok (.aload_n 0, 1) := by decide +kernel
theorem dX9_skipped_57 : decode cX9_skipped 57 = .ok (.getfield 19, 3) := by decide +kernel
theorem dX9_skipped_60 : decode cX9_skipped 60 = .ok (.getfield 106, 3) := by decide +kernel
theorem dX9_skipped_63 : decode cX9_skipped 63 = .ok (.invokestatic 261, 3) := by decide +kernel
theorem dX9_skipped_66 : decode cX9_skipped 66 = .ok (.iload 4, 2) := by decide +kernel
theorem dX9_skipped_68 : decode cX9_skipped 68 = .ok (.invokestatic 246, 3) := by decide +kernel
theorem dX9_skipped_71 : decode cX9_skipped 71 = .ok (.ireturn, 1) := by decide +kernel
theorem dX9_seed_0 : decode cX9_seed 0 = .ok (.aload_n 0, 1) := by decide +kernel
theorem dX9_seed_1 : decode cX9_seed 1 = .ok (.getfield 265, 3) := by decide +kernel
theorem dX9_seed_4 : decode cX9_seed 4 = .ok (.lstore_n 3, 1) := by decide +kernel
theorem dX9_seed_5 : decode cX9_seed 5 = .ok (.aload_n 0, 1) := by decide +kernel
theorem dX9_seed_6 : decode cX9_seed 6 = .ok (.lload_n 1, 1) := by decide +kernel
theorem dX9_seed_7 : decode cX9_seed 7 = .ok (.putfield 265, 3) := by decide +kernel
theorem dX9_seed_10 : decode cX9_seed 10 = .ok (.lload_n 3, 1) := by decide +kernel
theorem dX9_seed_11 : decode cX9_seed 11 = .ok (.lreturn, 1) := by decide +kernel
theorem dX9_years_0 : decode cX9_years 0 = .ok (.iload_n 1, 1) := by decide +kernel
theorem dX9_years_1 : decode cX9_years 1 = .ok (.iconst 1, 1) := by decide +kernel
theorem dX9_years_2 : decode cX9_years 2 = .ok (.if_icmp .lt 9, 3) := by decide +kernel
theorem dX9_years_5 : decode cX9_years 5 = .ok (.iload_n 1, 1) := by decide +kernel
theorem dX9_years_6 : decode cX9_years 6 = .ok (.bipush 30, 2) := by decide +kernel
theorem dX9_years_8 : decode cX9_years 8 = .ok (.if_icmp .le 6, 3) := by decide +kernel
theorem dX9_years_11 : decode cX9_years 11 = .ok (.bipush (-2), 2) := by decide +kernel
theorem dX9_years_13 : decode cX9_years 13 = .ok (.ireturn, 1) := by decide +kernel
theorem dX9_years_14 : decode cX9_years 14 = .ok (.aload_n 0, 1) := by decide +kernel
theorem dX9_years_15 : decode cX9_years 15 = .ok (.getfield 30, 3) := by decide +kernel
theorem dX9_years_18 : decode cX9_years 18 = .ok (.aload_n 0, 1) := by decide +kernel
theorem dX9_years_19 : decode cX9_years 19 = .ok (.getfield 26, 3) := by decide +kernel
theorem dX9_years_22 : decode cX9_years 22 = .ok (.invokevirtual 215, 3) := by decide +kernel
theorem dX9_years_25 : decode cX9_years 25 = .ok (.iconst 0, 1) := by decide +kernel
theorem dX9_years_26 : decode cX9_years 26 = .ok (.istore_n 2, 1) := by decide +kernel
theorem dX9_years_27 : decode cX9_years 27 = .ok (.iconst 0, 1) := by decide +kernel
theorem dX9_years_28 : decode cX9_years 28 = .ok (.istore_n 3, 1) := by decide +kernel
theorem dX9_years_29 : decode cX9_years 29 = .ok (.iload_n 3, 1) := by decide +kernel
theorem dX9_years_30 : decode cX9_years 30 = .ok (.iload_n 1, 1) := by decide +kernel
theorem dX9_years_31 : decode cX9_years 31 = .ok (.if_icmp .ge 51, 3) := by decide +kernel
theorem dX9_years_34 : decode cX9_years 34 = .ok (.aload_n 0, 1) := by decide +kernel
theorem dX9_years_35 : decode cX9_years 35 = .ok (.aload_n 0, 1) := by decide +kernel
theorem dX9_years_36 : decode cX9_years 36 = .ok (.getfield 265, 3) := by decide +kernel
theorem dX9_years_39 : decode cX9_years 39 = .ok (.ldc2_w 269, 3) := by decide +kernel
theorem dX9_years_42 : decode cX9_years 42 = .ok (.lmul, 1) := by decide +kernel
theorem dX9_years_43 : decode cX9_years 43 = .ok (.ldc2_w 271, 3) := by decide +kernel
theorem dX9_years_46 : decode cX9_years 46 = .ok (.ladd, 1) := by decide +kernel
theorem dX9_years_47 : decode cX9_years 47 = .ok (.putfield 265, 3) := by decide +kernel
theorem dX9_years_50 : decode cX9_years 50 = .ok (.aload_n 0, 1) := by decide +kernel
theorem dX9_years_51 : decode cX9_years 51 = .ok (.aload_n 0, 1) := by decide +kernel
theorem dX9_years_52 : decode cX9_years 52 = .ok (.getfield 265, 3) := by decide +kernel
theorem dX9_years_55 : decode cX9_years 55 = .ok (.bipush 33, 2) := by decide +kernel
theorem dX9_years_57 : decode cX9_years 57 = .ok (.lushr, 1) := by decide +kernel
theorem dX9_years_58 : decode cX9_years 58 = .ok (.ldc2_w 273, 3) := by decide +kernel
theorem dX9_years_61 : decode cX9_years 61 = .ok (.lrem, 1) := by decide +kernel
theorem dX9_years_62 : decode cX9_years 62 = .ok (.l2i, 1) := by decide +kernel
theorem dX9_years_63 : decode cX9_years 63 = .ok (.invokevirtual 275, 3) := by decide +kernel
theorem dX9_years_66 : decode cX9_years 66 = .ok (.iload_n 2, 1) := by decide +kernel
theorem dX9_years_67 : decode cX9_years 67 = .ok (.aload_n 0, 1) := by decide +kernel
theorem dX9_years_68 : decode cX9_years 68 = .ok (.getfield 30, 3) := by decide +kernel
theorem dX9_years_71 : decode cX9_years 71 = .ok (.invokevirtual 279, 3) := by decide +kernel
theorem dX9_years_74 : decode cX9_years 74 = .ok (.iadd, 1) := by decide +kernel
theorem dX9_years_75 : decode cX9_years 75 = .ok (.istore_n 2, 1) := by decide +kernel
theorem dX9_years_76 : decode cX9_years 76 = .ok (.iinc 3 1, 3) := by decide +kernel
theorem dX9_years_79 : decode cX9_years 79 = .ok (.goto (-50), 3) := by decide +kernel
theorem dX9_years_82 : decode cX9_years 82 = .ok (.iload_n 2, 1) := by decide +kernel
theorem dX9_years_83 : decode cX9_years 83 = .ok (.ireturn, 1) := by decide +kernel
theorem dX9_keep_0 : decode cX9_keep 0 = .ok (.iload_n 1, 1) := by decide +kernel
theorem dX9_keep_1 : decode cX9_keep 1 = .ok (.iconst 1, 1) := by decide +kernel
theorem dX9_keep_2 : decode cX9_keep 2 = .ok (.invokestatic 68, 3) := by decide +kernel
theorem dX9_keep_5 : decode cX9_keep 5 = .ok (.ifCond .ne 5, 3) := by decide +kernel
theorem dX9_keep_8 : decode cX9_keep 8 = .ok (.iconst (-1), 1) := by decide +kernel
theorem dX9_keep_9 : decode cX9_keep 9 = .ok (.ireturn, 1) := by decide +kernel
theorem dX9_keep_10 : decode cX9_keep 10 = .ok (.aload_n 0, 1) := by decide +kernel
theorem dX9_keep_11 : decode cX9_keep 11 = .ok (.getfield 56, 3) := by decide +kernel
theorem dX9_keep_14 : decode cX9_keep 14 = .ok (.iload_n 1, 1) := by decide +kernel
theorem dX9_keep_15 : decode cX9_keep 15 = .ok (.aaload, 1) := by decide +kernel
theorem dX9_keep_16 : decode cX9_keep 16 = .ok (.getfield 282, 3) := by decide +kernel
theorem dX9_keep_19 : decode cX9_keep 19 = .ok (.aload_n 0, 1) := by decide +kernel
theorem dX9_keep_20 : decode cX9_keep 20 = .ok (.getfield 26, 3) := by decide +kernel
theorem dX9_keep_23 : decode cX9_keep 23 = .ok (.invokevirtual 215, 3) := by decide +kernel
theorem dX9_keep_26 : decode cX9_keep 26 = .ok (.aload_n 0, 1) := by decide +kernel
theorem dX9_keep_27 : decode cX9_keep 27 = .ok (.getfield 56, 3) := by decide +kernel
theorem dX9_keep_30 : decode cX9_keep 30 = .ok (.iload_n 1, 1) := by decide +kernel
theorem dX9_keep_31 : decode cX9_keep 31 = .ok (.aaload, 1) := by decide +kernel
theorem dX9_keep_32 : decode cX9_keep 32 = .ok (.iconst 1, 1) := by decide +kernel
theorem dX9_keep_33 : decode cX9_keep 33 = .ok (.putfield 91, 3) := by decide +kernel
theorem dX9_keep_36 : decode cX9_keep 36 = .ok (.aload_n 0, 1) := by decide +kernel
theorem dX9_keep_37 : decode cX9_keep 37 = .ok (.getfield 26, 3) := by decide +kernel
theorem dX9_keep_40 : decode cX9_keep 40 = .ok (.getfield 285, 3) := by decide +kernel
theorem dX9_keep_43 : decode cX9_keep 43 = .ok (.ireturn, 1) := by decide +kernel
theorem dX9_again_0 : decode cX9_again 0 = .ok (.iload_n 1, 1) := by decide +kernel
theorem dX9_again_1 : decode cX9_again 1 = .ok (.iconst 1, 1) := by decide +kernel
theorem dX9_again_2 : decode cX9_again 2 = .ok (.invokestatic 68, 3) := by decide +kernel
theorem dX9_again_5 : decode cX9_again 5 = .ok (.ifCond .ne 5, 3) := by decide +kernel
theorem dX9_again_8 : decode cX9_again 8 = .ok (.iconst (-1), 1) := by decide +kernel
theorem dX9_again_9 : decode cX9_again 9 = .ok (.ireturn, 1) := by decide +kernel
theorem dX9_again_10 : decode cX9_again 10 = .ok (.aload_n 0, 1) := by decide +kernel
theorem dX9_again_11 : decode cX9_again 11 = .ok (.getfield 56, 3) := by decide +kernel
theorem dX9_again_14 : decode cX9_again 14 = .ok (.iload_n 1, 1) := by decide +kernel
theorem dX9_again_15 : decode cX9_again 15 = .ok (.aaload, 1) := by decide +kernel
theorem dX9_again_16 : decode cX9_again 16 = .ok (.getfield 91, 3) := by decide +kernel
theorem dX9_again_19 : decode cX9_again 19 = .ok (.ifCond .ne 6, 3) := by decide +kernel
theorem dX9_again_22 : decode cX9_again 22 = .ok (.bipush (-3), 2) := by decide +kernel
theorem dX9_again_24 : decode cX9_again 24 = .ok (.ireturn, 1) := by decide +kernel
theorem dX9_again_25 : decode cX9_again 25 = .ok (.aload_n 0, 1) := by decide +kernel
theorem dX9_again_26 : decode cX9_again 26 = .ok (.getfield 26, 3) := by decide +kernel
theorem dX9_again_29 : decode cX9_again 29 = .ok (.aload_n 0, 1) := by decide +kernel
theorem dX9_again_30 : decode cX9_again 30 = .ok (.getfield 56, 3) := by decide +kernel
theorem dX9_again_33 : decode cX9_again 33 = .ok (.iload_n 1, 1) := by decide +kernel
theorem dX9_again_34 : decode cX9_again 34 = .ok (.aaload, 1) := by decide +kernel
theorem dX9_again_35 : decode cX9_again 35 = .ok (.getfield 282, 3) := by decide +kernel
theorem dX9_again_38 : decode cX9_again 38 = .ok (.invokevirtual 215, 3) := by decide +kernel
theorem dX9_again_41 : decode cX9_again 41 = .ok (.aload_n 0, 1) := by decide +kernel
theorem dX9_again_42 : decode cX9_again 42 = .ok (.getfield 36, 3) := by decide +kernel
theorem dX9_again_45 : decode cX9_again 45 = .ok (.invokevirtual 88, 3) := by decide +kernel
theorem dX9_again_48 : decode cX9_again 48 = .ok (.aload_n 0, 1) := by decide +kernel
theorem dX9_again_49 : decode cX9_again 49 = .ok (.getfield 26, 3) := by decide +kernel
theorem dX9_again_52 : decode cX9_again 52 = .ok (.getfield 285, 3) := by decide +kernel
theorem dX9_again_55 : decode cX9_again 55 = .ok (.ireturn, 1) := by decide +kernel
theorem dX9_count_0 : decode cX9_count 0 = .ok (.iload_n 1, 1) := by decide +kernel
theorem dX9_count_1 : decode cX9_count 1 = .ok (.tableswitch 135 0 9 #[55, 63, 71, 79, 87, 95, 103, 111, 119, 127], 55) := by decide +kernel
theorem dX9_count_56 : decode cX9_count 56 = .ok (.aload_n 0, 1) := by decide +kernel
theorem dX9_count_57 : decode cX9_count 57 = .ok (.getfield 10, 3) := by decide +kernel
theorem dX9_count_60 : decode cX9_count 60 = .ok (.getfield 76, 3) := by decide +kernel
theorem dX9_count_63 : decode cX9_count 63 = .ok (.ireturn, 1) := by decide +kernel
theorem dX9_count_64 : decode cX9_count 64 = .ok (.aload_n 0, 1) := by decide +kernel
theorem dX9_count_65 : decode cX9_count 65 = .ok (.getfield 26, 3) := by decide +kernel
theorem dX9_count_68 : decode cX9_count 68 = .ok (.getfield 95, 3) := by decide +kernel
theorem dX9_count_71 : decode cX9_count 71 = .ok (.ireturn, 1) := by decide +kernel
theorem dX9_count_72 : decode cX9_count 72 = .ok (.aload_n 0, 1) := by decide +kernel
theorem dX9_count_73 : decode cX9_count 73 = .ok (.getfield 26, 3) := by decide +kernel
theorem dX9_count_76 : decode cX9_count 76 = .ok (.getfield 285, 3) := by decide +kernel
theorem dX9_count_79 : decode cX9_count 79 = .ok (.ireturn, 1) := by decide +kernel
theorem dX9_count_80 : decode cX9_count 80 = .ok (.aload_n 0, 1) := by decide +kernel
theorem dX9_count_81 : decode cX9_count 81 = .ok (.getfield 26, 3) := by decide +kernel
theorem dX9_count_84 : decode cX9_count 84 = .ok (.invokevirtual 279, 3) := by decide +kernel
theorem dX9_count_87 : decode cX9_count 87 = .ok (.ireturn, 1) := by decide +kernel
theorem dX9_count_88 : decode cX9_count 88 = .ok (.aload_n 0, 1) := by decide +kernel
theorem dX9_count_89 : decode cX9_count 89 = .ok (.getfield 26, 3) := by decide +kernel
theorem dX9_count_92 : decode cX9_count 92 = .ok (.invokevirtual 288, 3) := by decide +kernel
theorem dX9_count_95 : decode cX9_count 95 = .ok (.ireturn, 1) := by decide +kernel
theorem dX9_count_96 : decode cX9_count 96 = .ok (.aload_n 0, 1) := by decide +kernel
theorem dX9_count_97 : decode cX9_count 97 = .ok (.getfield 26, 3) := by decide +kernel
theorem dX9_count_100 : decode cX9_count 100 = .ok (.invokevirtual 291, 3) := by decide +kernel
theorem dX9_count_103 : decode cX9_count 103 = .ok (.ireturn, 1) := by decide +kernel
theorem dX9_count_104 : decode cX9_count 104 = .ok (.aload_n 0, 1) := by decide +kernel
theorem dX9_count_105 : decode cX9_count 105 = .ok (.getfield 26, 3) := by decide +kernel
theorem dX9_count_108 : decode cX9_count 108 = .ok (.invokevirtual 294, 3) := by decide +kernel
theorem dX9_count_111 : decode cX9_count 111 = .ok (.ireturn, 1) := by decide +kernel
theorem dX9_count_112 : decode cX9_count 112 = .ok (.aload_n 0, 1) := by decide +kernel
theorem dX9_count_113 : decode cX9_count 113 = .ok (.getfield 19, 3) := by decide +kernel
theorem dX9_count_116 : decode cX9_count 116 = .ok (.getfield 106, 3) := by decide +kernel
theorem dX9_count_119 : decode cX9_count 119 = .ok (.ireturn, 1) := by decide +kernel
theorem dX9_count_120 : decode cX9_count 120 = .ok (.aload_n 0, 1) := by decide +kernel
theorem dX9_count_121 : decode cX9_count 121 = .ok (.getfield 36, 3) := by decide +kernel
theorem dX9_count_124 : decode cX9_count 124 = .ok (.getfield 179, 3) := by decide +kernel
theorem dX9_count_127 : decode cX9_count 127 = .ok (.ireturn, 1) := by decide +kernel
theorem dX9_count_128 : decode cX9_count 128 = .ok (.aload_n 0, 1) := by decide +kernel
theorem dX9_count_129 : decode cX9_count 129 = .ok (.getfield 43, 3) := by decide +kernel
theorem dX9_count_132 : decode cX9_count 132 = .ok (.getfield 228, 3) := by decide +kernel
theorem dX9_count_135 : decode cX9_count 135 = .ok (.ireturn, 1) := by decide +kernel
theorem dX9_count_136 : decode cX9_count 136 = .ok (.bipush (-2), 2) := by decide +kernel
theorem dX9_count_138 : decode cX9_count 138 = .ok (.ireturn, 1) := by decide +kernel
theorem dX9_tried_0 : decode cX9_tried 0 = .ok (.aload_n 0, 1) := by decide +kernel
theorem dX9_tried_1 : decode cX9_tried 1 = .ok (.getfield 30, 3) := by decide +kernel
theorem dX9_tried_4 : decode cX9_tried 4 = .ok (.aload_n 0, 1) := by decide +kernel
theorem dX9_tried_5 : decode cX9_tried 5 = .ok (.getfield 26, 3) := by decide +kernel
theorem dX9_tried_8 : decode cX9_tried 8 = .ok (.invokevirtual 215, 3) := by decide +kernel
theorem dX9_tried_11 : decode cX9_tried 11 = .ok (.aload_n 0, 1) := by decide +kernel
theorem dX9_tried_12 : decode cX9_tried 12 = .ok (.getfield 30, 3) := by decide +kernel
theorem dX9_tried_15 : decode cX9_tried 15 = .ok (.iload_n 1, 1) := by decide +kernel
theorem dX9_tried_16 : decode cX9_tried 16 = .ok (.invokevirtual 111, 3) := by decide +kernel
theorem dX9_tried_19 : decode cX9_tried 19 = .ok (.areturn, 1) := by decide +kernel
theorem dX9_placeOfStop_0 : decode cX9_placeOfStop 0 = .ok (.aload_n 0, 1) := by decide +kernel
theorem dX9_placeOfStop_1 : decode cX9_placeOfStop 1 = .ok (.iload_n 1, 1) := by decide +kernel
theorem dX9_placeOfStop_2 : decode cX9_placeOfStop 2 = .ok (.invokevirtual 185, 3) := by decide +kernel
theorem dX9_placeOfStop_5 : decode cX9_placeOfStop 5 = .ok (.astore_n 2, 1) := by decide +kernel
theorem dX9_placeOfStop_6 : decode cX9_placeOfStop 6 = .ok (.aload_n 2, 1) := by decide +kernel
theorem dX9_placeOfStop_7 : decode cX9_placeOfStop 7 = .ok (.ifnonnull 6, 3) := by decide +kernel
theorem dX9_placeOfStop_10 : decode cX9_placeOfStop 10 = .ok (.bipush (-9), 2) := by decide +kernel
theorem dX9_placeOfStop_12 : decode cX9_placeOfStop 12 = .ok (.ireturn, 1) := by decide +kernel
theorem dX9_placeOfStop_13 : decode cX9_placeOfStop 13 = .ok (.aload_n 0, 1) := by decide +kernel
theorem dX9_placeOfStop_14 : decode cX9_placeOfStop 14 = .ok (.getfield 30, 3) := by decide +kernel
theorem dX9_placeOfStop_17 : decode cX9_placeOfStop 17 = .ok (.aload_n 2, 1) := by decide +kernel
theorem dX9_placeOfStop_18 : decode cX9_placeOfStop 18 = .ok (.aload_n 0, 1) := by decide +kernel
theorem dX9_placeOfStop_19 : decode cX9_placeOfStop 19 = .ok (.getfield 19, 3) := by decide +kernel
theorem dX9_placeOfStop_22 : decode cX9_placeOfStop 22 = .ok (.aload_n 0, 1) := by decide +kernel
theorem dX9_placeOfStop_23 : decode cX9_placeOfStop 23 = .ok (.getfield 19, 3) := by decide +kernel
theorem dX9_placeOfStop_26 : decode cX9_placeOfStop 26 = .ok (.getfield 106, 3) := by decide +kernel
theorem dX9_placeOfStop_29 : decode cX9_placeOfStop 29 = .ok (.invokevirtual 188, 3) := by decide +kernel
theorem dX9_placeOfStop_32 : decode cX9_placeOfStop 32 = .ok (.istore_n 3, 1) := by decide +kernel
theorem dX9_placeOfStop_33 : decode cX9_placeOfStop 33 = .ok (.iload_n 3, 1) := by decide +kernel
theorem dX9_placeOfStop_34 : decode cX9_placeOfStop 34 = .ok (.aload_n 0, 1) := by decide +kernel
theorem dX9_placeOfStop_35 : decode cX9_placeOfStop 35 = .ok (.getfield 19, 3) := by decide +kernel
theorem dX9_placeOfStop_38 : decode cX9_placeOfStop 38 = .ok (.getfield 106, 3) := by decide +kernel
theorem dX9_placeOfStop_41 : decode cX9_placeOfStop 41 = .ok (.if_icmp .ge 7, 3) := by decide +kernel
theorem dX9_placeOfStop_44 : decode cX9_placeOfStop 44 = .ok (.iload_n 3, 1) := by decide +kernel
theorem dX9_placeOfStop_45 : decode cX9_placeOfStop 45 = .ok (.goto 5, 3) := by decide +kernel
theorem dX9_placeOfStop_48 : decode cX9_placeOfStop 48 = .ok (.bipush (-9), 2) := by decide +kernel
theorem dX9_placeOfStop_50 : decode cX9_placeOfStop 50 = .ok (.ireturn, 1) := by decide +kernel
theorem dX9_isDone_0 : decode cX9_isDone 0 = .ok (.iload_n 1, 1) := by decide +kernel
theorem dX9_isDone_1 : decode cX9_isDone 1 = .ok (.iconst 5, 1) := by decide +kernel
theorem dX9_isDone_2 : decode cX9_isDone 2 = .ok (.if_icmp .ne 34, 3) := by decide +kernel
theorem dX9_isDone_5 : decode cX9_isDone 5 = .ok (.iload_n 2, 1) := by decide +kernel
theorem dX9_isDone_6 : decode cX9_isDone 6 = .ok (.iconst 5, 1) := by decide +kernel
theorem dX9_isDone_7 : decode cX9_isDone 7 = .ok (.if_icmp .ge 27, 3) := by decide +kernel
theorem dX9_isDone_10 : decode cX9_isDone 10 = .ok (.iload_n 3, 1) := by decide +kernel
theorem dX9_isDone_11 : decode cX9_isDone 11 = .ok (.iconst 5, 1) := by decide +kernel
theorem dX9_isDone_12 : decode cX9_isDone 12 = .ok (.if_icmp .ge 22, 3) := by decide +kernel
theorem dX9_isDone_15 : decode cX9_isDone 15 = .ok (.aload_n 0, 1) := by decide +kernel
theorem dX9_isDone_16 : decode cX9_isDone 16 = .ok (.getfield 30, 3) := by decide +kernel
theorem dX9_isDone_19 : decode cX9_isDone 19 = .ok (.iconst 5, 1) := by decide +kernel
theorem dX9_isDone_20 : decode cX9_isDone 20 = .ok (.iload_n 3, 1) := by decide +kernel
theorem dX9_isDone_21 : decode cX9_isDone 21 = .ok (.imul, 1) := by decide +kernel
theorem dX9_isDone_22 : decode cX9_isDone 22 = .ok (.iload_n 2, 1) := by decide +kernel
theorem dX9_isDone_23 : decode cX9_isDone 23 = .ok (.iadd, 1) := by decide +kernel
theorem dX9_isDone_24 : decode cX9_isDone 24 = .ok (.invokevirtual 297, 3) := by decide +kernel
theorem dX9_isDone_27 : decode cX9_isDone 27 = .ok (.ifCond .eq 7, 3) := by decide +kernel
theorem dX9_isDone_30 : decode cX9_isDone 30 = .ok (.iconst 1, 1) := by decide +kernel
theorem dX9_isDone_31 : decode cX9_isDone 31 = .ok (.goto 4, 3) := by decide +kernel
theorem dX9_isDone_34 : decode cX9_isDone 34 = .ok (.iconst 0, 1) := by decide +kernel
theorem dX9_isDone_35 : decode cX9_isDone 35 = .ok (.ireturn, 1) := by decide +kernel
theorem dX9_isDone_36 : decode cX9_isDone 36 = .ok (.iload_n 1, 1) := by decide +kernel
theorem dX9_isDone_37 : decode cX9_isDone 37 = .ok (.iconst 1, 1) := by decide +kernel
theorem dX9_isDone_38 : decode cX9_isDone 38 = .ok (.if_icmp .eq 15, 3) := by decide +kernel
theorem dX9_isDone_41 : decode cX9_isDone 41 = .ok (.iload_n 1, 1) := by decide +kernel
theorem dX9_isDone_42 : decode cX9_isDone 42 = .ok (.bipush 6, 2) := by decide +kernel
theorem dX9_isDone_44 : decode cX9_isDone 44 = .ok (.if_icmp .eq 9, 3) := by decide +kernel
theorem dX9_isDone_47 : decode cX9_isDone 47 = .ok (.iload_n 1, 1) := by decide +kernel
theorem dX9_isDone_48 : decode cX9_isDone 48 = .ok (.bipush 7, 2) := by decide +kernel
theorem dX9_isDone_50 : decode cX9_isDone 50 = .ok (.if_icmp .ne 7, 3) := by decide +kernel
theorem dX9_isDone_53 : decode cX9_isDone 53 = .ok (.iconst 1, 1) := by decide +kernel
theorem dX9_isDone_54 : decode cX9_isDone 54 = .ok (.goto 4, 3) := by decide +kernel
theorem dX9_isDone_57 : decode cX9_isDone 57 = .ok (.iconst 0, 1) := by decide +kernel
theorem dX9_isDone_58 : decode cX9_isDone 58 = .ok (.istore 4, 2) := by decide +kernel
theorem dX9_isDone_60 : decode cX9_isDone 60 = .ok (.aload_n 0, 1) := by decide +kernel
theorem dX9_isDone_61 : decode cX9_isDone 61 = .ok (.getfield 30, 3) := by decide +kernel
theorem dX9_isDone_64 : decode cX9_isDone 64 = .ok (.iload 4, 2) := by decide +kernel
theorem dX9_isDone_66 : decode cX9_isDone 66 = .ok (.ifCond .eq 7, 3) := by decide +kernel
theorem dX9_isDone_69 : decode cX9_isDone 69 = .ok (.iload_n 2, 1) := by decide +kernel
theorem dX9_isDone_70 : decode cX9_isDone 70 = .ok (.goto 4, 3) := by decide +kernel
theorem dX9_isDone_73 : decode cX9_isDone 73 = .ok (.iload_n 3, 1) := by decide +kernel
theorem dX9_isDone_74 : decode cX9_isDone 74 = .ok (.invokevirtual 111, 3) := by decide +kernel
theorem dX9_isDone_77 : decode cX9_isDone 77 = .ok (.astore 5, 2) := by decide +kernel
theorem dX9_isDone_79 : decode cX9_isDone 79 = .ok (.aload 5, 2) := by decide +kernel
theorem dX9_isDone_81 : decode cX9_isDone 81 = .ok (.ifnull 12, 3) := by decide +kernel
theorem dX9_isDone_84 : decode cX9_isDone 84 = .ok (.iload 4, 2) := by decide +kernel
theorem dX9_isDone_86 : decode cX9_isDone 86 = .ok (.ifCond .ne 9, 3) := by decide +kernel
theorem dX9_isDone_89 : decode cX9_isDone 89 = .ok (.iload_n 2, 1) := by decide +kernel
theorem dX9_isDone_90 : decode cX9_isDone 90 = .ok (.ifCond .eq 5, 3) := by decide +kernel
theorem dX9_isDone_93 : decode cX9_isDone 93 = .ok (.iconst 0, 1) := by decide +kernel
theorem dX9_isDone_94 : decode cX9_isDone 94 = .ok (.ireturn, 1) := by decide +kernel
theorem dX9_isDone_95 : decode cX9_isDone 95 = .ok (.iload_n 1, 1) := by decide +kernel
theorem dX9_isDone_96 : decode cX9_isDone 96 = .ok (.tableswitch 148 1 7 #[44, 65, 72, 86, 148, 93, 108], 44) := by decide +kernel
theorem dX9_isDone_140 : decode cX9_isDone 140 = .ok (.aload_n 0, 1) := by decide +kernel
theorem dX9_isDone_141 : decode cX9_isDone 141 = .ok (.getfield 30, 3) := by decide +kernel
theorem dX9_isDone_144 : decode cX9_isDone 144 = .ok (.aload 5, 2) := by decide +kernel
theorem dX9_isDone_146 : decode cX9_isDone 146 = .ok (.iload_n 3, 1) := by decide +kernel
theorem dX9_isDone_147 : decode cX9_isDone 147 = .ok (.invokevirtual 159, 3) := by decide +kernel
theorem dX9_isDone_150 : decode cX9_isDone 150 = .ok (.bipush (-9), 2) := by decide +kernel
theorem dX9_isDone_152 : decode cX9_isDone 152 = .ok (.if_icmp .eq 7, 3) := by decide +kernel
theorem dX9_isDone_155 : decode cX9_isDone 155 = .ok (.iconst 1, 1) := by decide +kernel
theorem dX9_isDone_156 : decode cX9_isDone 156 = .ok (.goto 4, 3) := by decide +kernel
theorem dX9_isDone_159 : decode cX9_isDone 159 = .ok (.iconst 0, 1) := by decide +kernel
theorem dX9_isDone_160 : decode cX9_isDone 160 = .ok (.ireturn, 1) := by decide +kernel
theorem dX9_isDone_161 : decode cX9_isDone 161 = .ok (.aload 5, 2) := by decide +kernel
theorem dX9_isDone_163 : decode cX9_isDone 163 = .ok (.invokevirtual 163, 3) := by decide +kernel
theorem dX9_isDone_166 : decode cX9_isDone 166 = .ok (.iconst 1, 1) := by decide +kernel
theorem dX9_isDone_167 : decode cX9_isDone 167 = .ok (.ireturn, 1) := by decide +kernel
theorem dX9_isDone_168 : decode cX9_isDone 168 = .ok (.aload 5, 2) := by decide +kernel
theorem dX9_isDone_170 : decode cX9_isDone 170 = .ok (.invokevirtual 170, 3) := by decide +kernel
theorem dX9_isDone_173 : decode cX9_isDone 173 = .ok (.ifCond .le 7, 3) := by decide +kernel
theorem dX9_isDone_176 : decode cX9_isDone 176 = .ok (.iconst 1, 1) := by decide +kernel
theorem dX9_isDone_177 : decode cX9_isDone 177 = .ok (.goto 4, 3) := by decide +kernel
theorem dX9_isDone_180 : decode cX9_isDone 180 = .ok (.iconst 0, 1) := by decide +kernel
theorem dX9_isDone_181 : decode cX9_isDone 181 = .ok (.ireturn, 1) := by decide +kernel
theorem dX9_isDone_182 : decode cX9_isDone 182 = .ok (.aload 5, 2) := by decide +kernel
theorem dX9_isDone_184 : decode cX9_isDone 184 = .ok (.invokevirtual 173, 3) := by decide +kernel
theorem dX9_isDone_187 : decode cX9_isDone 187 = .ok (.iconst 1, 1) := by decide +kernel
theorem dX9_isDone_188 : decode cX9_isDone 188 = .ok (.ireturn, 1) := by decide +kernel
theorem dX9_isDone_189 : decode cX9_isDone 189 = .ok (.aload 5, 2) := by decide +kernel
theorem dX9_isDone_191 : decode cX9_isDone 191 = .ok (.getfield 126, 3) := by decide +kernel
theorem dX9_isDone_194 : decode cX9_isDone 194 = .ok (.iload_n 3, 1) := by decide +kernel
theorem dX9_isDone_195 : decode cX9_isDone 195 = .ok (.if_icmp .lt 7, 3) := by decide +kernel
theorem dX9_isDone_198 : decode cX9_isDone 198 = .ok (.iconst 1, 1) := by decide +kernel
theorem dX9_isDone_199 : decode cX9_isDone 199 = .ok (.goto 4, 3) := by decide +kernel
theorem dX9_isDone_202 : decode cX9_isDone 202 = .ok (.iconst 0, 1) := by decide +kernel
theorem dX9_isDone_203 : decode cX9_isDone 203 = .ok (.ireturn, 1) := by decide +kernel
theorem dX9_isDone_204 : decode cX9_isDone 204 = .ok (.iload_n 3, 1) := by decide +kernel
theorem dX9_isDone_205 : decode cX9_isDone 205 = .ok (.ifCond .ne 37, 3) := by decide +kernel
theorem dX9_isDone_208 : decode cX9_isDone 208 = .ok (.aload_n 0, 1) := by decide +kernel
theorem dX9_isDone_209 : decode cX9_isDone 209 = .ok (.getfield 30, 3) := by decide +kernel
theorem dX9_isDone_212 : decode cX9_isDone 212 = .ok (.aload 5, 2) := by decide +kernel
theorem dX9_isDone_214 : decode cX9_isDone 214 = .ok (.aload_n 0, 1) := by decide +kernel
theorem dX9_isDone_215 : decode cX9_isDone 215 = .ok (.getfield 19, 3) := by decide +kernel
theorem dX9_isDone_218 : decode cX9_isDone 218 = .ok (.aload_n 0, 1) := by decide +kernel
theorem dX9_isDone_219 : decode cX9_isDone 219 = .ok (.getfield 19, 3) := by decide +kernel
theorem dX9_isDone_222 : decode cX9_isDone 222 = .ok (.getfield 106, 3) := by decide +kernel
theorem dX9_isDone_225 : decode cX9_isDone 225 = .ok (.invokevirtual 188, 3) := by decide +kernel
theorem dX9_isDone_228 : decode cX9_isDone 228 = .ok (.aload_n 0, 1) := by decide +kernel
theorem dX9_isDone_229 : decode cX9_isDone 229 = .ok (.getfield 19, 3) := by decide +kernel
theorem dX9_isDone_232 : decode cX9_isDone 232 = .ok (.getfield 106, 3) := by decide +kernel
theorem dX9_isDone_235 : decode cX9_isDone 235 = .ok (.if_icmp .ne 7, 3) := by decide +kernel
theorem dX9_isDone_238 : decode cX9_isDone 238 = .ok (.iconst 1, 1) := by decide +kernel
theorem dX9_isDone_239 : decode cX9_isDone 239 = .ok (.goto 4, 3) := by decide +kernel
theorem dX9_isDone_242 : decode cX9_isDone 242 = .ok (.iconst 0, 1) := by decide +kernel
theorem dX9_isDone_243 : decode cX9_isDone 243 = .ok (.ireturn, 1) := by decide +kernel
theorem dX9_isDone_244 : decode cX9_isDone 244 = .ok (.iconst 0, 1) := by decide +kernel
theorem dX9_isDone_245 : decode cX9_isDone 245 = .ok (.ireturn, 1) := by decide +kernel
theorem dX9_blackerBehind_0 : decode cX9_blackerBehind 0 = .ok (.aload_n 0, 1) := by decide +kernel
theorem dX9_blackerBehind_1 : decode cX9_blackerBehind 1 = .ok (.getfield 30, 3) := by decide +kernel
theorem dX9_blackerBehind_4 : decode cX9_blackerBehind 4 = .ok (.aload_n 0, 1) := by decide +kernel
theorem dX9_blackerBehind_5 : decode cX9_blackerBehind 5 = .ok (.getfield 26, 3) := by decide +kernel
theorem dX9_blackerBehind_8 : decode cX9_blackerBehind 8 = .ok (.invokevirtual 215, 3) := by decide +kernel
theorem dX9_blackerBehind_11 : decode cX9_blackerBehind 11 = .ok (.iconst 0, 1) := by decide +kernel
theorem dX9_blackerBehind_12 : decode cX9_blackerBehind 12 = .ok (.istore_n 3, 1) := by decide +kernel
theorem dX9_blackerBehind_13 : decode cX9_blackerBehind 13 = .ok (.iload_n 3, 1) := by decide +kernel
theorem dX9_blackerBehind_14 : decode cX9_blackerBehind 14 = .ok (.aload_n 0, 1) := by decide +kernel
theorem dX9_blackerBehind_15 : decode cX9_blackerBehind 15 = .ok (.getfield 26, 3) := by decide +kernel
theorem dX9_blackerBehind_18 : decode cX9_blackerBehind 18 = .ok (.getfield 95, 3) := by decide +kernel
theorem dX9_blackerBehind_21 : decode cX9_blackerBehind 21 = .ok (.if_icmp .ge 45, 3) := by decide +kernel
theorem dX9_blackerBehind_24 : decode cX9_blackerBehind 24 = .ok (.iload_n 1, 1) := by decide +kernel
theorem dX9_blackerBehind_25 : decode cX9_blackerBehind 25 = .ok (.iload_n 3, 1) := by decide +kernel
theorem dX9_blackerBehind_26 : decode cX9_blackerBehind 26 = .ok (.ishr, 1) := by decide +kernel
theorem dX9_blackerBehind_27 : decode cX9_blackerBehind 27 = .ok (.iconst 1, 1) := by decide +kernel
theorem dX9_blackerBehind_28 : decode cX9_blackerBehind 28 = .ok (.iand, 1) := by decide +kernel
theorem dX9_blackerBehind_29 : decode cX9_blackerBehind 29 = .ok (.iconst 1, 1) := by decide +kernel
theorem dX9_blackerBehind_30 : decode cX9_blackerBehind 30 = .ok (.if_icmp .ne 30, 3) := by decide +kernel
theorem dX9_blackerBehind_33 : decode cX9_blackerBehind 33 = .ok (.aload_n 0, 1) := by decide +kernel
theorem dX9_blackerBehind_34 : decode cX9_blackerBehind 34 = .ok (.getfield 30, 3) := by decide +kernel
theorem dX9_blackerBehind_37 : decode cX9_blackerBehind 37 = .ok (.aload_n 0, 1) := by decide +kernel
theorem dX9_blackerBehind_38 : decode cX9_blackerBehind 38 = .ok (.getfield 30, 3) := by decide +kernel
theorem dX9_blackerBehind_41 : decode cX9_blackerBehind 41 = .ok (.iload_n 3, 1) := by decide +kernel
theorem dX9_blackerBehind_42 : decode cX9_blackerBehind 42 = .ok (.invokevirtual 111, 3) := by decide +kernel
theorem dX9_blackerBehind_45 : decode cX9_blackerBehind 45 = .ok (.aload_n 0, 1) := by decide +kernel
theorem dX9_blackerBehind_46 : decode cX9_blackerBehind 46 = .ok (.getfield 19, 3) := by decide +kernel
theorem dX9_blackerBehind_49 : decode cX9_blackerBehind 49 = .ok (.aload_n 0, 1) := by decide +kernel
theorem dX9_blackerBehind_50 : decode cX9_blackerBehind 50 = .ok (.getfield 19, 3) := by decide +kernel
theorem dX9_blackerBehind_53 : decode cX9_blackerBehind 53 = .ok (.getfield 106, 3) := by decide +kernel
theorem dX9_blackerBehind_56 : decode cX9_blackerBehind 56 = .ok (.invokevirtual 188, 3) := by decide +kernel
theorem dX9_blackerBehind_59 : decode cX9_blackerBehind 59 = .ok (.pop, 1) := by decide +kernel
theorem dX9_blackerBehind_60 : decode cX9_blackerBehind 60 = .ok (.iinc 3 1, 3) := by decide +kernel
theorem dX9_blackerBehind_63 : decode cX9_blackerBehind 63 = .ok (.goto (-50), 3) := by decide +kernel
theorem dX9_blackerBehind_66 : decode cX9_blackerBehind 66 = .ok (.aload_n 0, 1) := by decide +kernel
theorem dX9_blackerBehind_67 : decode cX9_blackerBehind 67 = .ok (.getfield 30, 3) := by decide +kernel
theorem dX9_blackerBehind_70 : decode cX9_blackerBehind 70 = .ok (.invokevirtual 288, 3) := by decide +kernel
theorem dX9_blackerBehind_73 : decode cX9_blackerBehind 73 = .ok (.invokestatic 235, 3) := by decide +kernel
theorem dX9_blackerBehind_76 : decode cX9_blackerBehind 76 = .ok (.istore_n 3, 1) := by decide +kernel
theorem dX9_blackerBehind_77 : decode cX9_blackerBehind 77 = .ok (.aload_n 0, 1) := by decide +kernel
theorem dX9_blackerBehind_78 : decode cX9_blackerBehind 78 = .ok (.getfield 30, 3) := by decide +kernel
theorem dX9_blackerBehind_81 : decode cX9_blackerBehind 81 = .ok (.aload_n 0, 1) := by decide +kernel
theorem dX9_blackerBehind_82 : decode cX9_blackerBehind 82 = .ok (.getfield 30, 3) := by decide +kernel
theorem dX9_blackerBehind_85 : decode cX9_blackerBehind 85 = .ok (.iload_n 2, 1) := by decide +kernel
theorem dX9_blackerBehind_86 : decode cX9_blackerBehind 86 = .ok (.invokevirtual 111, 3) := by decide +kernel
theorem dX9_blackerBehind_89 : decode cX9_blackerBehind 89 = .ok (.aload_n 0, 1) := by decide +kernel
theorem dX9_blackerBehind_90 : decode cX9_blackerBehind 90 = .ok (.getfield 19, 3) := by decide +kernel
theorem dX9_blackerBehind_93 : decode cX9_blackerBehind 93 = .ok (.aload_n 0, 1) := by decide +kernel
theorem dX9_blackerBehind_94 : decode cX9_blackerBehind 94 = .ok (.getfield 19, 3) := by decide +kernel
theorem dX9_blackerBehind_97 : decode cX9_blackerBehind 97 = .ok (.getfield 106, 3) := by decide +kernel
theorem dX9_blackerBehind_100 : decode cX9_blackerBehind 100 = .ok (.invokevirtual 188, 3) := by decide +kernel
theorem dX9_blackerBehind_103 : decode cX9_blackerBehind 103 = .ok (.pop, 1) := by decide +kernel
theorem dX9_blackerBehind_104 : decode cX9_blackerBehind 104 = .ok (.aload_n 0, 1) := by decide +kernel
theorem dX9_blackerBehind_105 : decode cX9_blackerBehind 105 = .ok (.getfield 30, 3) := by decide +kernel
theorem dX9_blackerBehind_108 : decode cX9_blackerBehind 108 = .ok (.invokevirtual 288, 3) := by decide +kernel
theorem dX9_blackerBehind_111 : decode cX9_blackerBehind 111 = .ok (.invokestatic 235, 3) := by decide +kernel
theorem dX9_blackerBehind_114 : decode cX9_blackerBehind 114 = .ok (.iload_n 3, 1) := by decide +kernel
theorem dX9_blackerBehind_115 : decode cX9_blackerBehind 115 = .ok (.isub, 1) := by decide +kernel
theorem dX9_blackerBehind_116 : decode cX9_blackerBehind 116 = .ok (.ireturn, 1) := by decide +kernel
theorem dX9_reckonGains_0 : decode cX9_reckonGains 0 = .ok (.aload_n 0, 1) := by decide +kernel
theorem dX9_reckonGains_1 : decode cX9_reckonGains 1 = .ok (.getfield 30, 3) := by decide +kernel
theorem dX9_reckonGains_4 : decode cX9_reckonGains 4 = .ok (.aload_n 0, 1) := by decide +kernel
theorem dX9_reckonGains_5 : decode cX9_reckonGains 5 = .ok (.getfield 26, 3) := by decide +kernel
theorem dX9_reckonGains_8 : decode cX9_reckonGains 8 = .ok (.invokevirtual 215, 3) := by decide +kernel
theorem dX9_reckonGains_11 : decode cX9_reckonGains 11 = .ok (.iload_n 3, 1) := by decide +kernel
theorem dX9_reckonGains_12 : decode cX9_reckonGains 12 = .ok (.iconst 2, 1) := by decide +kernel
theorem dX9_reckonGains_13 : decode cX9_reckonGains 13 = .ok (.iand, 1) := by decide +kernel
theorem dX9_reckonGains_14 : decode cX9_reckonGains 14 = .ok (.ifCond .eq 30, 3) := by decide +kernel
theorem dX9_reckonGains_17 : decode cX9_reckonGains 17 = .ok (.aload_n 0, 1) := by decide +kernel
theorem dX9_reckonGains_18 : decode cX9_reckonGains 18 = .ok (.getfield 30, 3) := by decide +kernel
theorem dX9_reckonGains_21 : decode cX9_reckonGains 21 = .ok (.aload_n 0, 1) := by decide +kernel
theorem dX9_reckonGains_22 : decode cX9_reckonGains 22 = .ok (.getfield 30, 3) := by decide +kernel
theorem dX9_reckonGains_25 : decode cX9_reckonGains 25 = .ok (.iload_n 1, 1) := by decide +kernel
theorem dX9_reckonGains_26 : decode cX9_reckonGains 26 = .ok (.invokevirtual 111, 3) := by decide +kernel
theorem dX9_reckonGains_29 : decode cX9_reckonGains 29 = .ok (.aload_n 0, 1) := by decide +kernel
theorem dX9_reckonGains_30 : decode cX9_reckonGains 30 = .ok (.getfield 19, 3) := by decide +kernel
theorem dX9_reckonGains_33 : decode cX9_reckonGains 33 = .ok (.aload_n 0, 1) := by decide +kernel
theorem dX9_reckonGains_34 : decode cX9_reckonGains 34 = .ok (.getfield 19, 3) := by decide +kernel
theorem dX9_reckonGains_37 : decode cX9_reckonGains 37 = .ok (.getfield 106, 3) := by decide +kernel
theorem dX9_reckonGains_40 : decode cX9_reckonGains 40 = .ok (.invokevirtual 188, 3) := by decide +kernel
theorem dX9_reckonGains_43 : decode cX9_reckonGains 43 = .ok (.pop, 1) := by decide +kernel
theorem dX9_reckonGains_44 : decode cX9_reckonGains 44 = .ok (.iload_n 3, 1) := by decide +kernel
theorem dX9_reckonGains_45 : decode cX9_reckonGains 45 = .ok (.iconst 1, 1) := by decide +kernel
theorem dX9_reckonGains_46 : decode cX9_reckonGains 46 = .ok (.iand, 1) := by decide +kernel
theorem dX9_reckonGains_47 : decode cX9_reckonGains 47 = .ok (.ifCond .eq 30, 3) := by decide +kernel
theorem dX9_reckonGains_50 : decode cX9_reckonGains 50 = .ok (.aload_n 0, 1) := by decide +kernel
theorem dX9_reckonGains_51 : decode cX9_reckonGains 51 = .ok (.getfield 30, 3) := by decide +kernel
theorem dX9_reckonGains_54 : decode cX9_reckonGains 54 = .ok (.aload_n 0, 1) := by decide +kernel
theorem dX9_reckonGains_55 : decode cX9_reckonGains 55 = .ok (.getfield 30, 3) := by decide +kernel
theorem dX9_reckonGains_58 : decode cX9_reckonGains 58 = .ok (.iload_n 2, 1) := by decide +kernel
theorem dX9_reckonGains_59 : decode cX9_reckonGains 59 = .ok (.invokevirtual 111, 3) := by decide +kernel
theorem dX9_reckonGains_62 : decode cX9_reckonGains 62 = .ok (.aload_n 0, 1) := by decide +kernel
theorem dX9_reckonGains_63 : decode cX9_reckonGains 63 = .ok (.getfield 19, 3) := by decide +kernel
theorem dX9_reckonGains_66 : decode cX9_reckonGains 66 = .ok (.aload_n 0, 1) := by decide +kernel
theorem dX9_reckonGains_67 : decode cX9_reckonGains 67 = .ok (.getfield 19, 3) := by decide +kernel
theorem dX9_reckonGains_70 : decode cX9_reckonGains 70 = .ok (.getfield 106, 3) := by decide +kernel
theorem dX9_reckonGains_73 : decode cX9_reckonGains 73 = .ok (.invokevirtual 188, 3) := by decide +kernel
theorem dX9_reckonGains_76 : decode cX9_reckonGains 76 = .ok (.pop, 1) := by decide +kernel
theorem dX9_reckonGains_77 : decode cX9_reckonGains 77 = .ok (.aload_n 0, 1) := by decide +kernel
theorem dX9_reckonGains_78 : decode cX9_reckonGains 78 = .ok (.getfield 30, 3) := by decide +kernel
theorem dX9_reckonGains_81 : decode cX9_reckonGains 81 = .ok (.invokevirtual 288, 3) := by decide +kernel
theorem dX9_reckonGains_84 : decode cX9_reckonGains 84 = .ok (.invokestatic 235, 3) := by decide +kernel
theorem dX9_reckonGains_87 : decode cX9_reckonGains 87 = .ok (.istore 4, 2) := by decide +kernel
theorem dX9_reckonGains_89 : decode cX9_reckonGains 89 = .ok (.aload_n 0, 1) := by decide +kernel
theorem dX9_reckonGains_90 : decode cX9_reckonGains 90 = .ok (.getfield 60, 3) := by decide +kernel
theorem dX9_reckonGains_93 : decode cX9_reckonGains 93 = .ok (.iload_n 3, 1) := by decide +kernel
theorem dX9_reckonGains_94 : decode cX9_reckonGains 94 = .ok (.iconst 3, 1) := by decide +kernel
theorem dX9_reckonGains_95 : decode cX9_reckonGains 95 = .ok (.iand, 1) := by decide +kernel
theorem dX9_reckonGains_96 : decode cX9_reckonGains 96 = .ok (.aload_n 0, 1) := by decide +kernel
theorem dX9_reckonGains_97 : decode cX9_reckonGains 97 = .ok (.getfield 30, 3) := by decide +kernel
theorem dX9_reckonGains_100 : decode cX9_reckonGains 100 = .ok (.iload_n 1, 1) := by decide +kernel
theorem dX9_reckonGains_101 : decode cX9_reckonGains 101 = .ok (.invokevirtual 300, 3) := by decide +kernel
theorem dX9_reckonGains_104 : decode cX9_reckonGains 104 = .ok (.iconst 2, 1) := by decide +kernel
theorem dX9_reckonGains_105 : decode cX9_reckonGains 105 = .ok (.iload 4, 2) := by decide +kernel
theorem dX9_reckonGains_107 : decode cX9_reckonGains 107 = .ok (.imul, 1) := by decide +kernel
theorem dX9_reckonGains_108 : decode cX9_reckonGains 108 = .ok (.iadd, 1) := by decide +kernel
theorem dX9_reckonGains_109 : decode cX9_reckonGains 109 = .ok (.iastore, 1) := by decide +kernel
theorem dX9_reckonGains_110 : decode cX9_reckonGains 110 = .ok (.aload_n 0, 1) := by decide +kernel
theorem dX9_reckonGains_111 : decode cX9_reckonGains 111 = .ok (.getfield 64, 3) := by decide +kernel
theorem dX9_reckonGains_114 : decode cX9_reckonGains 114 = .ok (.iload_n 3, 1) := by decide +kernel
theorem dX9_reckonGains_115 : decode cX9_reckonGains 115 = .ok (.iconst 3, 1) := by decide +kernel
theorem dX9_reckonGains_116 : decode cX9_reckonGains 116 = .ok (.iand, 1) := by decide +kernel
theorem dX9_reckonGains_117 : decode cX9_reckonGains 117 = .ok (.aload_n 0, 1) := by decide +kernel
theorem dX9_reckonGains_118 : decode cX9_reckonGains 118 = .ok (.getfield 30, 3) := by decide +kernel
theorem dX9_reckonGains_121 : decode cX9_reckonGains 121 = .ok (.iload_n 2, 1) := by decide +kernel
theorem dX9_reckonGains_122 : decode cX9_reckonGains 122 = .ok (.invokevirtual 300, 3) := by decide +kernel
theorem dX9_reckonGains_125 : decode cX9_reckonGains 125 = .ok (.iconst 2, 1) := by decide +kernel
theorem dX9_reckonGains_126 : decode cX9_reckonGains 126 = .ok (.iload 4, 2) := by decide +kernel
theorem dX9_reckonGains_128 : decode cX9_reckonGains 128 = .ok (.imul, 1) := by decide +kernel
theorem dX9_reckonGains_129 : decode cX9_reckonGains 129 = .ok (.iadd, 1) := by decide +kernel
theorem dX9_reckonGains_130 : decode cX9_reckonGains 130 = .ok (.iastore, 1) := by decide +kernel
theorem dX9_reckonGains_131 : decode cX9_reckonGains 131 = .ok (.return_, 1) := by decide +kernel
theorem dX9_isRest_0 : decode cX9_isRest 0 = .ok (.aload_n 0, 1) := by decide +kernel
theorem dX9_isRest_1 : decode cX9_isRest 1 = .ok (.getfield 60, 3) := by decide +kernel
theorem dX9_isRest_4 : decode cX9_isRest 4 = .ok (.iload_n 1, 1) := by decide +kernel
theorem dX9_isRest_5 : decode cX9_isRest 5 = .ok (.iconst 3, 1) := by decide +kernel
theorem dX9_isRest_6 : decode cX9_isRest 6 = .ok (.iand, 1) := by decide +kernel
theorem dX9_isRest_7 : decode cX9_isRest 7 = .ok (.iaload, 1) := by decide +kernel
theorem dX9_isRest_8 : decode cX9_isRest 8 = .ok (.aload_n 0, 1) := by decide +kernel
theorem dX9_isRest_9 : decode cX9_isRest 9 = .ok (.getfield 60, 3) := by decide +kernel
theorem dX9_isRest_12 : decode cX9_isRest 12 = .ok (.iload_n 1, 1) := by decide +kernel
theorem dX9_isRest_13 : decode cX9_isRest 13 = .ok (.iconst 2, 1) := by decide +kernel
theorem dX9_isRest_14 : decode cX9_isRest 14 = .ok (.ixor, 1) := by decide +kernel
theorem dX9_isRest_15 : decode cX9_isRest 15 = .ok (.iconst 3, 1) := by decide +kernel
theorem dX9_isRest_16 : decode cX9_isRest 16 = .ok (.iand, 1) := by decide +kernel
theorem dX9_isRest_17 : decode cX9_isRest 17 = .ok (.iaload, 1) := by decide +kernel
theorem dX9_isRest_18 : decode cX9_isRest 18 = .ok (.if_icmp .lt 28, 3) := by decide +kernel
theorem dX9_isRest_21 : decode cX9_isRest 21 = .ok (.aload_n 0, 1) := by decide +kernel
theorem dX9_isRest_22 : decode cX9_isRest 22 = .ok (.getfield 64, 3) := by decide +kernel
theorem dX9_isRest_25 : decode cX9_isRest 25 = .ok (.iload_n 1, 1) := by decide +kernel
theorem dX9_isRest_26 : decode cX9_isRest 26 = .ok (.iconst 3, 1) := by decide +kernel
theorem dX9_isRest_27 : decode cX9_isRest 27 = .ok (.iand, 1) := by decide +kernel
theorem dX9_isRest_28 : decode cX9_isRest 28 = .ok (.iaload, 1) := by decide +kernel
theorem dX9_isRest_29 : decode cX9_isRest 29 = .ok (.aload_n 0, 1) := by decide +kernel
theorem dX9_isRest_30 : decode cX9_isRest 30 = .ok (.getfield 64, 3) := by decide +kernel
theorem dX9_isRest_33 : decode cX9_isRest 33 = .ok (.iload_n 1, 1) := by decide +kernel
theorem dX9_isRest_34 : decode cX9_isRest 34 = .ok (.iconst 1, 1) := by decide +kernel
theorem dX9_isRest_35 : decode cX9_isRest 35 = .ok (.ixor, 1) := by decide +kernel
theorem dX9_isRest_36 : decode cX9_isRest 36 = .ok (.iconst 3, 1) := by decide +kernel
theorem dX9_isRest_37 : decode cX9_isRest 37 = .ok (.iand, 1) := by decide +kernel
theorem dX9_isRest_38 : decode cX9_isRest 38 = .ok (.iaload, 1) := by decide +kernel
theorem dX9_isRest_39 : decode cX9_isRest 39 = .ok (.if_icmp .lt 7, 3) := by decide +kernel
theorem dX9_isRest_42 : decode cX9_isRest 42 = .ok (.iconst 1, 1) := by decide +kernel
theorem dX9_isRest_43 : decode cX9_isRest 43 = .ok (.goto 4, 3) := by decide +kernel
theorem dX9_isRest_46 : decode cX9_isRest 46 = .ok (.iconst 0, 1) := by decide +kernel
theorem dX9_isRest_47 : decode cX9_isRest 47 = .ok (.ireturn, 1) := by decide +kernel
theorem dX9_casesOfEnough_0 : decode cX9_casesOfEnough 0 = .ok (.iload 4, 2) := by decide +kernel
theorem dX9_casesOfEnough_2 : decode cX9_casesOfEnough 2 = .ok (.iload 5, 2) := by decide +kernel
theorem dX9_casesOfEnough_4 : decode cX9_casesOfEnough 4 = .ok (.if_icmp .lt 13, 3) := by decide +kernel
theorem dX9_casesOfEnough_7 : decode cX9_casesOfEnough 7 = .ok (.aload_n 1, 1) := by decide +kernel
theorem dX9_casesOfEnough_8 : decode cX9_casesOfEnough 8 = .ok (.getfield 106, 3) := by decide +kernel
theorem dX9_casesOfEnough_11 : decode cX9_casesOfEnough 11 = .ok (.iload_n 2, 1) := by decide +kernel
theorem dX9_casesOfEnough_12 : decode cX9_casesOfEnough 12 = .ok (.isub, 1) := by decide +kernel
theorem dX9_casesOfEnough_13 : decode cX9_casesOfEnough 13 = .ok (.invokestatic 261, 3) := by decide +kernel
theorem dX9_casesOfEnough_16 : decode cX9_casesOfEnough 16 = .ok (.lreturn, 1) := by decide +kernel
theorem dX9_casesOfEnough_17 : decode cX9_casesOfEnough 17 = .ok (.iload_n 2, 1) := by decide +kernel
theorem dX9_casesOfEnough_18 : decode cX9_casesOfEnough 18 = .ok (.aload_n 1, 1) := by decide +kernel
theorem dX9_casesOfEnough_19 : decode cX9_casesOfEnough 19 = .ok (.getfield 106, 3) := by decide +kernel
theorem dX9_casesOfEnough_22 : decode cX9_casesOfEnough 22 = .ok (.if_icmp .lt 5, 3) := by decide +kernel
theorem dX9_casesOfEnough_25 : decode cX9_casesOfEnough 25 = .ok (.lconst 0, 1) := by decide +kernel
theorem dX9_casesOfEnough_26 : decode cX9_casesOfEnough 26 = .ok (.lreturn, 1) := by decide +kernel
theorem dX9_casesOfEnough_27 : decode cX9_casesOfEnough 27 = .ok (.lconst 0, 1) := by decide +kernel
theorem dX9_casesOfEnough_28 : decode cX9_casesOfEnough 28 = .ok (.lstore 7, 2) := by decide +kernel
theorem dX9_casesOfEnough_30 : decode cX9_casesOfEnough 30 = .ok (.iload 6, 2) := by decide +kernel
theorem dX9_casesOfEnough_32 : decode cX9_casesOfEnough 32 = .ok (.ifCond .le 27, 3) := by decide +kernel
theorem dX9_casesOfEnough_35 : decode cX9_casesOfEnough 35 = .ok (.lload 7, 2) := by decide +kernel
theorem dX9_casesOfEnough_37 : decode cX9_casesOfEnough 37 = .ok (.iload 6, 2) := by decide +kernel
theorem dX9_casesOfEnough_39 : decode cX9_casesOfEnough 39 = .ok (.i2l, 1) := by decide +kernel
theorem dX9_casesOfEnough_40 : decode cX9_casesOfEnough 40 = .ok (.aload_n 0, 1) := by decide +kernel
theorem dX9_casesOfEnough_41 : decode cX9_casesOfEnough 41 = .ok (.aload_n 1, 1) := by decide +kernel
theorem dX9_casesOfEnough_42 : decode cX9_casesOfEnough 42 = .ok (.iload_n 2, 1) := by decide +kernel
theorem dX9_casesOfEnough_43 : decode cX9_casesOfEnough 43 = .ok (.iconst 1, 1) := by decide +kernel
theorem dX9_casesOfEnough_44 : decode cX9_casesOfEnough 44 = .ok (.iadd, 1) := by decide +kernel
theorem dX9_casesOfEnough_45 : decode cX9_casesOfEnough 45 = .ok (.iload_n 3, 1) := by decide +kernel
theorem dX9_casesOfEnough_46 : decode cX9_casesOfEnough 46 = .ok (.iload 4, 2) := by decide +kernel
theorem dX9_casesOfEnough_48 : decode cX9_casesOfEnough 48 = .ok (.iload 5, 2) := by decide +kernel
theorem dX9_casesOfEnough_50 : decode cX9_casesOfEnough 50 = .ok (.iload 6, 2) := by decide +kernel
theorem dX9_casesOfEnough_52 : decode cX9_casesOfEnough 52 = .ok (.invokestatic 257, 3) := by decide +kernel
theorem dX9_casesOfEnough_55 : decode cX9_casesOfEnough 55 = .ok (.lmul, 1) := by decide +kernel
theorem dX9_casesOfEnough_56 : decode cX9_casesOfEnough 56 = .ok (.ladd, 1) := by decide +kernel
theorem dX9_casesOfEnough_57 : decode cX9_casesOfEnough 57 = .ok (.lstore 7, 2) := by decide +kernel
theorem dX9_casesOfEnough_59 : decode cX9_casesOfEnough 59 = .ok (.aload_n 1, 1) := by decide +kernel
theorem dX9_casesOfEnough_60 : decode cX9_casesOfEnough 60 = .ok (.iload_n 2, 1) := by decide +kernel
theorem dX9_casesOfEnough_61 : decode cX9_casesOfEnough 61 = .ok (.invokevirtual 303, 3) := by decide +kernel
theorem dX9_casesOfEnough_64 : decode cX9_casesOfEnough 64 = .ok (.istore 9, 2) := by decide +kernel
theorem dX9_casesOfEnough_66 : decode cX9_casesOfEnough 66 = .ok (.iload_n 3, 1) := by decide +kernel
theorem dX9_casesOfEnough_67 : decode cX9_casesOfEnough 67 = .ok (.iload 9, 2) := by decide +kernel
theorem dX9_casesOfEnough_69 : decode cX9_casesOfEnough 69 = .ok (.invokestatic 151, 3) := by decide +kernel
theorem dX9_casesOfEnough_72 : decode cX9_casesOfEnough 72 = .ok (.istore 10, 2) := by decide +kernel
theorem dX9_casesOfEnough_74 : decode cX9_casesOfEnough 74 = .ok (.iload 6, 2) := by decide +kernel
theorem dX9_casesOfEnough_76 : decode cX9_casesOfEnough 76 = .ok (.bipush 10, 2) := by decide +kernel
theorem dX9_casesOfEnough_78 : decode cX9_casesOfEnough 78 = .ok (.if_icmp .ge 56, 3) := by decide +kernel
theorem dX9_casesOfEnough_81 : decode cX9_casesOfEnough 81 = .ok (.iload 10, 2) := by decide +kernel
theorem dX9_casesOfEnough_83 : decode cX9_casesOfEnough 83 = .ok (.bipush (-9), 2) := by decide +kernel
theorem dX9_casesOfEnough_85 : decode cX9_casesOfEnough 85 = .ok (.if_icmp .eq 49, 3) := by decide +kernel
theorem dX9_casesOfEnough_88 : decode cX9_casesOfEnough 88 = .ok (.aload_n 0, 1) := by decide +kernel
theorem dX9_casesOfEnough_89 : decode cX9_casesOfEnough 89 = .ok (.iload 9, 2) := by decide +kernel
theorem dX9_casesOfEnough_91 : decode cX9_casesOfEnough 91 = .ok (.aload_n 0, 1) := by decide +kernel
theorem dX9_casesOfEnough_92 : decode cX9_casesOfEnough 92 = .ok (.getfield 126, 3) := by decide +kernel
theorem dX9_casesOfEnough_95 : decode cX9_casesOfEnough 95 = .ok (.iload 4, 2) := by decide +kernel
theorem dX9_casesOfEnough_97 : decode cX9_casesOfEnough 97 = .ok (.isub, 1) := by decide +kernel
theorem dX9_casesOfEnough_98 : decode cX9_casesOfEnough 98 = .ok (.invokevirtual 306, 3) := by decide +kernel
theorem dX9_casesOfEnough_101 : decode cX9_casesOfEnough 101 = .ok (.istore 11, 2) := by decide +kernel
theorem dX9_casesOfEnough_103 : decode cX9_casesOfEnough 103 = .ok (.lload 7, 2) := by decide +kernel
theorem dX9_casesOfEnough_105 : decode cX9_casesOfEnough 105 = .ok (.bipush 10, 2) := by decide +kernel
theorem dX9_casesOfEnough_107 : decode cX9_casesOfEnough 107 = .ok (.iload 6, 2) := by decide +kernel
theorem dX9_casesOfEnough_109 : decode cX9_casesOfEnough 109 = .ok (.isub, 1) := by decide +kernel
theorem dX9_casesOfEnough_110 : decode cX9_casesOfEnough 110 = .ok (.i2l, 1) := by decide +kernel
theorem dX9_casesOfEnough_111 : decode cX9_casesOfEnough 111 = .ok (.aload_n 0, 1) := by decide +kernel
theorem dX9_casesOfEnough_112 : decode cX9_casesOfEnough 112 = .ok (.aload_n 1, 1) := by decide +kernel
theorem dX9_casesOfEnough_113 : decode cX9_casesOfEnough 113 = .ok (.iload_n 2, 1) := by decide +kernel
theorem dX9_casesOfEnough_114 : decode cX9_casesOfEnough 114 = .ok (.iconst 1, 1) := by decide +kernel
theorem dX9_casesOfEnough_115 : decode cX9_casesOfEnough 115 = .ok (.iadd, 1) := by decide +kernel
theorem dX9_casesOfEnough_116 : decode cX9_casesOfEnough 116 = .ok (.iload 10, 2) := by decide +kernel
theorem dX9_casesOfEnough_118 : decode cX9_casesOfEnough 118 = .ok (.iload 4, 2) := by decide +kernel
theorem dX9_casesOfEnough_120 : decode cX9_casesOfEnough 120 = .ok (.iload 11, 2) := by decide +kernel
theorem dX9_casesOfEnough_122 : decode cX9_casesOfEnough 122 = .ok (.iadd, 1) := by decide +kernel
theorem dX9_casesOfEnough_123 : decode cX9_casesOfEnough 123 = .ok (.iload 5, 2) := by decide +kernel
theorem dX9_casesOfEnough_125 : decode cX9_casesOfEnough 125 = .ok (.iload 6, 2) := by decide +kernel
theorem dX9_casesOfEnough_127 : decode cX9_casesOfEnough 127 = .ok (.invokestatic 257, 3) := by decide +kernel
theorem dX9_casesOfEnough_130 : decode cX9_casesOfEnough 130 = .ok (.lmul, 1) := by decide +kernel
theorem dX9_casesOfEnough_131 : decode cX9_casesOfEnough 131 = .ok (.ladd, 1) := by decide +kernel
theorem dX9_casesOfEnough_132 : decode cX9_casesOfEnough 132 = .ok (.lstore 7, 2) := by decide +kernel
theorem dX9_casesOfEnough_134 : decode cX9_casesOfEnough 134 = .ok (.lload 7, 2) := by decide +kernel
theorem dX9_casesOfEnough_136 : decode cX9_casesOfEnough 136 = .ok (.lreturn, 1) := by decide +kernel
theorem dX9_passYear_0 : decode cX9_passYear 0 = .ok (.iload_n 1, 1) := by decide +kernel
theorem dX9_passYear_1 : decode cX9_passYear 1 = .ok (.bipush 44, 2) := by decide +kernel
theorem dX9_passYear_3 : decode cX9_passYear 3 = .ok (.if_icmp .lt 19, 3) := by decide +kernel
theorem dX9_passYear_6 : decode cX9_passYear 6 = .ok (.aload_n 0, 1) := by decide +kernel
theorem dX9_passYear_7 : decode cX9_passYear 7 = .ok (.getfield 30, 3) := by decide +kernel
theorem dX9_passYear_10 : decode cX9_passYear 10 = .ok (.bipush 6, 2) := by decide +kernel
theorem dX9_passYear_12 : decode cX9_passYear 12 = .ok (.iload_n 1, 1) := by decide +kernel
theorem dX9_passYear_13 : decode cX9_passYear 13 = .ok (.bipush 44, 2) := by decide +kernel
theorem dX9_passYear_15 : decode cX9_passYear 15 = .ok (.isub, 1) := by decide +kernel
theorem dX9_passYear_16 : decode cX9_passYear 16 = .ok (.imul, 1) := by decide +kernel
theorem dX9_passYear_17 : decode cX9_passYear 17 = .ok (.invokevirtual 176, 3) := by decide +kernel
theorem dX9_passYear_20 : decode cX9_passYear 20 = .ok (.pop, 1) := by decide +kernel
theorem dX9_passYear_21 : decode cX9_passYear 21 = .ok (.return_, 1) := by decide +kernel
theorem dX9_passYear_22 : decode cX9_passYear 22 = .ok (.aload_n 0, 1) := by decide +kernel
theorem dX9_passYear_23 : decode cX9_passYear 23 = .ok (.getfield 30, 3) := by decide +kernel
theorem dX9_passYear_26 : decode cX9_passYear 26 = .ok (.iload_n 1, 1) := by decide +kernel
theorem dX9_passYear_27 : decode cX9_passYear 27 = .ok (.bipush 32, 2) := by decide +kernel
theorem dX9_passYear_29 : decode cX9_passYear 29 = .ok (.if_icmp .ge 10, 3) := by decide +kernel
theorem dX9_passYear_32 : decode cX9_passYear 32 = .ok (.iload_n 1, 1) := by decide +kernel
theorem dX9_passYear_33 : decode cX9_passYear 33 = .ok (.bipush 8, 2) := by decide +kernel
theorem dX9_passYear_35 : decode cX9_passYear 35 = .ok (.idiv, 1) := by decide +kernel
theorem dX9_passYear_36 : decode cX9_passYear 36 = .ok (.goto 9, 3) := by decide +kernel
theorem dX9_passYear_39 : decode cX9_passYear 39 = .ok (.iload_n 1, 1) := by decide +kernel
theorem dX9_passYear_40 : decode cX9_passYear 40 = .ok (.bipush 32, 2) := by decide +kernel
theorem dX9_passYear_42 : decode cX9_passYear 42 = .ok (.isub, 1) := by decide +kernel
theorem dX9_passYear_43 : decode cX9_passYear 43 = .ok (.iconst 4, 1) := by decide +kernel
theorem dX9_passYear_44 : decode cX9_passYear 44 = .ok (.irem, 1) := by decide +kernel
theorem dX9_passYear_45 : decode cX9_passYear 45 = .ok (.invokevirtual 111, 3) := by decide +kernel
theorem dX9_passYear_48 : decode cX9_passYear 48 = .ok (.astore_n 2, 1) := by decide +kernel
theorem dX9_passYear_49 : decode cX9_passYear 49 = .ok (.aload_n 2, 1) := by decide +kernel
theorem dX9_passYear_50 : decode cX9_passYear 50 = .ok (.ifnonnull 4, 3) := by decide +kernel
theorem dX9_passYear_53 : decode cX9_passYear 53 = .ok (.return_, 1) := by decide +kernel
theorem dX9_passYear_54 : decode cX9_passYear 54 = .ok (.iload_n 1, 1) := by decide +kernel
theorem dX9_passYear_55 : decode cX9_passYear 55 = .ok (.bipush 32, 2) := by decide +kernel
theorem dX9_passYear_57 : decode cX9_passYear 57 = .ok (.if_icmp .ge 19, 3) := by decide +kernel
theorem dX9_passYear_60 : decode cX9_passYear 60 = .ok (.aload_n 0, 1) := by decide +kernel
theorem dX9_passYear_61 : decode cX9_passYear 61 = .ok (.getfield 30, 3) := by decide +kernel
theorem dX9_passYear_64 : decode cX9_passYear 64 = .ok (.aload_n 2, 1) := by decide +kernel
theorem dX9_passYear_65 : decode cX9_passYear 65 = .ok (.iload_n 1, 1) := by decide +kernel
theorem dX9_passYear_66 : decode cX9_passYear 66 = .ok (.bipush 8, 2) := by decide +kernel
theorem dX9_passYear_68 : decode cX9_passYear 68 = .ok (.irem, 1) := by decide +kernel
theorem dX9_passYear_69 : decode cX9_passYear 69 = .ok (.invokevirtual 159, 3) := by decide +kernel
theorem dX9_passYear_72 : decode cX9_passYear 72 = .ok (.pop, 1) := by decide +kernel
theorem dX9_passYear_73 : decode cX9_passYear 73 = .ok (.goto 34, 3) := by decide +kernel
theorem dX9_passYear_76 : decode cX9_passYear 76 = .ok (.iload_n 1, 1) := by decide +kernel
theorem dX9_passYear_77 : decode cX9_passYear 77 = .ok (.bipush 36, 2) := by decide +kernel
theorem dX9_passYear_79 : decode cX9_passYear 79 = .ok (.if_icmp .ge 10, 3) := by decide +kernel
theorem dX9_passYear_82 : decode cX9_passYear 82 = .ok (.aload_n 2, 1) := by decide +kernel
theorem dX9_passYear_83 : decode cX9_passYear 83 = .ok (.invokevirtual 173, 3) := by decide +kernel
theorem dX9_passYear_86 : decode cX9_passYear 86 = .ok (.goto 21, 3) := by decide +kernel
theorem dX9_passYear_89 : decode cX9_passYear 89 = .ok (.iload_n 1, 1) := by decide +kernel
theorem dX9_passYear_90 : decode cX9_passYear 90 = .ok (.bipush 40, 2) := by decide +kernel
theorem dX9_passYear_92 : decode cX9_passYear 92 = .ok (.if_icmp .ge 10, 3) := by decide +kernel
theorem dX9_passYear_95 : decode cX9_passYear 95 = .ok (.aload_n 2, 1) := by decide +kernel
theorem dX9_passYear_96 : decode cX9_passYear 96 = .ok (.invokevirtual 163, 3) := by decide +kernel
theorem dX9_passYear_99 : decode cX9_passYear 99 = .ok (.goto 8, 3) := by decide +kernel
theorem dX9_passYear_102 : decode cX9_passYear 102 = .ok (.aload_n 2, 1) := by decide +kernel
theorem dX9_passYear_103 : decode cX9_passYear 103 = .ok (.invokevirtual 170, 3) := by decide +kernel
theorem dX9_passYear_106 : decode cX9_passYear 106 = .ok (.pop, 1) := by decide +kernel
theorem dX9_passYear_107 : decode cX9_passYear 107 = .ok (.return_, 1) := by decide +kernel
theorem dX9_isWithin_0 : decode cX9_isWithin 0 = .ok (.iload_n 0, 1) := by decide +kernel
theorem dX9_isWithin_1 : decode cX9_isWithin 1 = .ok (.ifCond .lt 12, 3) := by decide +kernel
theorem dX9_isWithin_4 : decode cX9_isWithin 4 = .ok (.iload_n 0, 1) := by decide +kernel
theorem dX9_isWithin_5 : decode cX9_isWithin 5 = .ok (.iload_n 1, 1) := by decide +kernel
theorem dX9_isWithin_6 : decode cX9_isWithin 6 = .ok (.if_icmp .gt 7, 3) := by decide +kernel
theorem dX9_isWithin_9 : decode cX9_isWithin 9 = .ok (.iconst 1, 1) := by decide +kernel
theorem dX9_isWithin_10 : decode cX9_isWithin 10 = .ok (.goto 4, 3) := by decide +kernel
theorem dX9_isWithin_13 : decode cX9_isWithin 13 = .ok (.iconst 0, 1) := by decide +kernel
theorem dX9_isWithin_14 : decode cX9_isWithin 14 = .ok (.ireturn, 1) := by decide +kernel
theorem dX9_isDot_0 : decode cX9_isDot 0 = .ok (.iload_n 0, 1) := by decide +kernel
theorem dX9_isDot_1 : decode cX9_isDot 1 = .ok (.ifCond .lt 13, 3) := by decide +kernel
theorem dX9_isDot_4 : decode cX9_isDot 4 = .ok (.iload_n 0, 1) := by decide +kernel
theorem dX9_isDot_5 : decode cX9_isDot 5 = .ok (.bipush 25, 2) := by decide +kernel
theorem dX9_isDot_7 : decode cX9_isDot 7 = .ok (.if_icmp .ge 7, 3) := by decide +kernel
theorem dX9_isDot_10 : decode cX9_isDot 10 = .ok (.iconst 1, 1) := by decide +kernel
theorem dX9_isDot_11 : decode cX9_isDot 11 = .ok (.goto 4, 3) := by decide +kernel
theorem dX9_isDot_14 : decode cX9_isDot 14 = .ok (.iconst 0, 1) := by decide +kernel
theorem dX9_isDot_15 : decode cX9_isDot 15 = .ok (.ireturn, 1) := by decide +kernel
theorem dX9_isDirection_0 : decode cX9_isDirection 0 = .ok (.iload_n 0, 1) := by decide +kernel
theorem dX9_isDirection_1 : decode cX9_isDirection 1 = .ok (.ifCond .lt 13, 3) := by decide +kernel
theorem dX9_isDirection_4 : decode cX9_isDirection 4 = .ok (.iload_n 0, 1) := by decide +kernel
theorem dX9_isDirection_5 : decode cX9_isDirection 5 = .ok (.bipush 8, 2) := by decide +kernel
theorem dX9_isDirection_7 : decode cX9_isDirection 7 = .ok (.if_icmp .ge 7, 3) := by decide +kernel
theorem dX9_isDirection_10 : decode cX9_isDirection 10 = .ok (.iconst 1, 1) := by decide +kernel
theorem dX9_isDirection_11 : decode cX9_isDirection 11 = .ok (.goto 4, 3) := by decide +kernel
theorem dX9_isDirection_14 : decode cX9_isDirection 14 = .ok (.iconst 0, 1) := by decide +kernel
theorem dX9_isDirection_15 : decode cX9_isDirection 15 = .ok (.ireturn, 1) := by decide +kernel
theorem dX9_tens_0 : decode cX9_tens 0 = .ok (.iload_n 0, 1) := by decide +kernel
theorem dX9_tens_1 : decode cX9_tens 1 = .ok (.getstatic 309, 3) := by decide +kernel
theorem dX9_tens_4 : decode cX9_tens 4 = .ok (.arraylength, 1) := by decide +kernel
theorem dX9_tens_5 : decode cX9_tens 5 = .ok (.iconst 1, 1) := by decide +kernel
theorem dX9_tens_6 : decode cX9_tens 6 = .ok (.isub, 1) := by decide +kernel
theorem dX9_tens_7 : decode cX9_tens 7 = .ok (.invokestatic 68, 3) := by decide +kernel
theorem dX9_tens_10 : decode cX9_tens 10 = .ok (.ifCond .eq 11, 3) := by decide +kernel
theorem dX9_tens_13 : decode cX9_tens 13 = .ok (.getstatic 309, 3) := by decide +kernel
theorem dX9_tens_16 : decode cX9_tens 16 = .ok (.iload_n 0, 1) := by decide +kernel
theorem dX9_tens_17 : decode cX9_tens 17 = .ok (.laload, 1) := by decide +kernel
theorem dX9_tens_18 : decode cX9_tens 18 = .ok (.goto 4, 3) := by decide +kernel
theorem dX9_tens_21 : decode cX9_tens 21 = .ok (.lconst 1, 1) := by decide +kernel
theorem dX9_tens_22 : decode cX9_tens 22 = .ok (.lreturn, 1) := by decide +kernel
theorem dX9_orders_0 : decode cX9_orders 0 = .ok (.iload_n 0, 1) := by decide +kernel
theorem dX9_orders_1 : decode cX9_orders 1 = .ok (.getstatic 313, 3) := by decide +kernel
theorem dX9_orders_4 : decode cX9_orders 4 = .ok (.arraylength, 1) := by decide +kernel
theorem dX9_orders_5 : decode cX9_orders 5 = .ok (.iconst 1, 1) := by decide +kernel
theorem dX9_orders_6 : decode cX9_orders 6 = .ok (.isub, 1) := by decide +kernel
theorem dX9_orders_7 : decode cX9_orders 7 = .ok (.invokestatic 68, 3) := by decide +kernel
theorem dX9_orders_10 : decode cX9_orders 10 = .ok (.ifCond .eq 11, 3) := by decide +kernel
theorem dX9_orders_13 : decode cX9_orders 13 = .ok (.getstatic 313, 3) := by decide +kernel
theorem dX9_orders_16 : decode cX9_orders 16 = .ok (.iload_n 0, 1) := by decide +kernel
theorem dX9_orders_17 : decode cX9_orders 17 = .ok (.iaload, 1) := by decide +kernel
theorem dX9_orders_18 : decode cX9_orders 18 = .ok (.goto 4, 3) := by decide +kernel
theorem dX9_orders_21 : decode cX9_orders 21 = .ok (.iconst 1, 1) := by decide +kernel
theorem dX9_orders_22 : decode cX9_orders 22 = .ok (.ireturn, 1) := by decide +kernel
theorem dX9_hasFigures_0 : decode cX9_hasFigures 0 = .ok (.lload_n 0, 1) := by decide +kernel
theorem dX9_hasFigures_1 : decode cX9_hasFigures 1 = .ok (.lconst 0, 1) := by decide +kernel
theorem dX9_hasFigures_2 : decode cX9_hasFigures 2 = .ok (.lcmp, 1) := by decide +kernel
theorem dX9_hasFigures_3 : decode cX9_hasFigures 3 = .ok (.ifCond .lt 16, 3) := by decide +kernel
theorem dX9_hasFigures_6 : decode cX9_hasFigures 6 = .ok (.lload_n 0, 1) := by decide +kernel
theorem dX9_hasFigures_7 : decode cX9_hasFigures 7 = .ok (.iload_n 2, 1) := by decide +kernel
theorem dX9_hasFigures_8 : decode cX9_hasFigures 8 = .ok (.invokestatic 261, 3) := by decide +kernel
theorem dX9_hasFigures_11 : decode cX9_hasFigures 11 = .ok (.lcmp, 1) := by decide +kernel
theorem dX9_hasFigures_12 : decode cX9_hasFigures 12 = .ok (.ifCond .ge 7, 3) := by decide +kernel
theorem dX9_hasFigures_15 : decode cX9_hasFigures 15 = .ok (.iconst 1, 1) := by decide +kernel
theorem dX9_hasFigures_16 : decode cX9_hasFigures 16 = .ok (.goto 4, 3) := by decide +kernel
theorem dX9_hasFigures_19 : decode cX9_hasFigures 19 = .ok (.iconst 0, 1) := by decide +kernel
theorem dX9_hasFigures_20 : decode cX9_hasFigures 20 = .ok (.ireturn, 1) := by decide +kernel
theorem dX9_figure_0 : decode cX9_figure 0 = .ok (.lload_n 0, 1) := by decide +kernel
theorem dX9_figure_1 : decode cX9_figure 1 = .ok (.iload_n 2, 1) := by decide +kernel
theorem dX9_figure_2 : decode cX9_figure 2 = .ok (.invokestatic 261, 3) := by decide +kernel
theorem dX9_figure_5 : decode cX9_figure 5 = .ok (.ldiv, 1) := by decide +kernel
theorem dX9_figure_6 : decode cX9_figure 6 = .ok (.ldc2_w 316, 3) := by decide +kernel
theorem dX9_figure_9 : decode cX9_figure 9 = .ok (.lrem, 1) := by decide +kernel
theorem dX9_figure_10 : decode cX9_figure 10 = .ok (.l2i, 1) := by decide +kernel
theorem dX9_figure_11 : decode cX9_figure 11 = .ok (.ireturn, 1) := by decide +kernel
theorem dX9_neighbour_0 : decode cX9_neighbour 0 = .ok (.iload_n 0, 1) := by decide +kernel
theorem dX9_neighbour_1 : decode cX9_neighbour 1 = .ok (.invokestatic 139, 3) := by decide +kernel
theorem dX9_neighbour_4 : decode cX9_neighbour 4 = .ok (.ifCond .eq 10, 3) := by decide +kernel
theorem dX9_neighbour_7 : decode cX9_neighbour 7 = .ok (.iload_n 1, 1) := by decide +kernel
theorem dX9_neighbour_8 : decode cX9_neighbour 8 = .ok (.invokestatic 145, 3) := by decide +kernel
theorem dX9_neighbour_11 : decode cX9_neighbour 11 = .ok (.ifCond .ne 6, 3) := by decide +kernel
theorem dX9_neighbour_14 : decode cX9_neighbour 14 = .ok (.bipush (-9), 2) := by decide +kernel
theorem dX9_neighbour_16 : decode cX9_neighbour 16 = .ok (.ireturn, 1) := by decide +kernel
theorem dX9_neighbour_17 : decode cX9_neighbour 17 = .ok (.iload_n 0, 1) := by decide +kernel
theorem dX9_neighbour_18 : decode cX9_neighbour 18 = .ok (.iconst 5, 1) := by decide +kernel
theorem dX9_neighbour_19 : decode cX9_neighbour 19 = .ok (.irem, 1) := by decide +kernel
theorem dX9_neighbour_20 : decode cX9_neighbour 20 = .ok (.getstatic 318, 3) := by decide +kernel
theorem dX9_neighbour_23 : decode cX9_neighbour 23 = .ok (.iload_n 1, 1) := by decide +kernel
theorem dX9_neighbour_24 : decode cX9_neighbour 24 = .ok (.iaload, 1) := by decide +kernel
theorem dX9_neighbour_25 : decode cX9_neighbour 25 = .ok (.iadd, 1) := by decide +kernel
theorem dX9_neighbour_26 : decode cX9_neighbour 26 = .ok (.istore_n 2, 1) := by decide +kernel
theorem dX9_neighbour_27 : decode cX9_neighbour 27 = .ok (.iload_n 0, 1) := by decide +kernel
theorem dX9_neighbour_28 : decode cX9_neighbour 28 = .ok (.iconst 5, 1) := by decide +kernel
theorem dX9_neighbour_29 : decode cX9_neighbour 29 = .ok (.idiv, 1) := by decide +kernel
theorem dX9_neighbour_30 : decode cX9_neighbour 30 = .ok (.getstatic 321, 3) := by decide +kernel
theorem dX9_neighbour_33 : decode cX9_neighbour 33 = .ok (.iload_n 1, 1) := by decide +kernel
theorem dX9_neighbour_34 : decode cX9_neighbour 34 = .ok (.iaload, 1) := by decide +kernel
theorem dX9_neighbour_35 : decode cX9_neighbour 35 = .ok (.iadd, 1) := by decide +kernel
theorem dX9_neighbour_36 : decode cX9_neighbour 36 = .ok (.istore_n 3, 1) := by decide +kernel
theorem dX9_neighbour_37 : decode cX9_neighbour 37 = .ok (.iload_n 2, 1) := by decide +kernel
theorem dX9_neighbour_38 : decode cX9_neighbour 38 = .ok (.iconst 4, 1) := by decide +kernel
theorem dX9_neighbour_39 : decode cX9_neighbour 39 = .ok (.invokestatic 68, 3) := by decide +kernel
theorem dX9_neighbour_42 : decode cX9_neighbour 42 = .ok (.ifCond .eq 19, 3) := by decide +kernel
theorem dX9_neighbour_45 : decode cX9_neighbour 45 = .ok (.iload_n 3, 1) := by decide +kernel
theorem dX9_neighbour_46 : decode cX9_neighbour 46 = .ok (.iconst 4, 1) := by decide +kernel
theorem dX9_neighbour_47 : decode cX9_neighbour 47 = .ok (.invokestatic 68, 3) := by decide +kernel
theorem dX9_neighbour_50 : decode cX9_neighbour 50 = .ok (.ifCond .eq 11, 3) := by decide +kernel
theorem dX9_neighbour_53 : decode cX9_neighbour 53 = .ok (.iconst 5, 1) := by decide +kernel
theorem dX9_neighbour_54 : decode cX9_neighbour 54 = .ok (.iload_n 3, 1) := by decide +kernel
theorem dX9_neighbour_55 : decode cX9_neighbour 55 = .ok (.imul, 1) := by decide +kernel
theorem dX9_neighbour_56 : decode cX9_neighbour 56 = .ok (.iload_n 2, 1) := by decide +kernel
theorem dX9_neighbour_57 : decode cX9_neighbour 57 = .ok (.iadd, 1) := by decide +kernel
theorem dX9_neighbour_58 : decode cX9_neighbour 58 = .ok (.goto 5, 3) := by decide +kernel
theorem dX9_neighbour_61 : decode cX9_neighbour 61 = .ok (.bipush (-9), 2) := by decide +kernel
theorem dX9_neighbour_63 : decode cX9_neighbour 63 = .ok (.ireturn, 1) := by decide +kernel
theorem dX9_toldFraction_0 : decode cX9_toldFraction 0 = .ok (.lload_n 0, 1) := by decide +kernel
theorem dX9_toldFraction_1 : decode cX9_toldFraction 1 = .ok (.lload_n 2, 1) := by decide +kernel
theorem dX9_toldFraction_2 : decode cX9_toldFraction 2 = .ok (.invokestatic 324, 3) := by decide +kernel
theorem dX9_toldFraction_5 : decode cX9_toldFraction 5 = .ok (.lstore 5, 2) := by decide +kernel
theorem dX9_toldFraction_7 : decode cX9_toldFraction 7 = .ok (.lload 5, 2) := by decide +kernel
theorem dX9_toldFraction_9 : decode cX9_toldFraction 9 = .ok (.lconst 1, 1) := by decide +kernel
theorem dX9_toldFraction_10 : decode cX9_toldFraction 10 = .ok (.lcmp, 1) := by decide +kernel
theorem dX9_toldFraction_11 : decode cX9_toldFraction 11 = .ok (.ifCond .ge 5, 3) := by decide +kernel
theorem dX9_toldFraction_14 : decode cX9_toldFraction 14 = .ok (.iconst 0, 1) := by decide +kernel
theorem dX9_toldFraction_15 : decode cX9_toldFraction 15 = .ok (.ireturn, 1) := by decide +kernel
theorem dX9_toldFraction_16 : decode cX9_toldFraction 16 = .ok (.iload 4, 2) := by decide +kernel
theorem dX9_toldFraction_18 : decode cX9_toldFraction 18 = .ok (.ifCond .eq 7, 3) := by decide +kernel
theorem dX9_toldFraction_21 : decode cX9_toldFraction 21 = .ok (.lload_n 0, 1) := by decide +kernel
theorem dX9_toldFraction_22 : decode cX9_toldFraction 22 = .ok (.goto 4, 3) := by decide +kernel
theorem dX9_toldFraction_25 : decode cX9_toldFraction 25 = .ok (.lload_n 2, 1) := by decide +kernel
theorem dX9_toldFraction_26 : decode cX9_toldFraction 26 = .ok (.lload 5, 2) := by decide +kernel
theorem dX9_toldFraction_28 : decode cX9_toldFraction 28 = .ok (.ldiv, 1) := by decide +kernel
theorem dX9_toldFraction_29 : decode cX9_toldFraction 29 = .ok (.l2i, 1) := by decide +kernel
theorem dX9_toldFraction_30 : decode cX9_toldFraction 30 = .ok (.ireturn, 1) := by decide +kernel
theorem dX9_commonDivisor_0 : decode cX9_commonDivisor 0 = .ok (.lload_n 0, 1) := by decide +kernel
theorem dX9_commonDivisor_1 : decode cX9_commonDivisor 1 = .ok (.lstore 4, 2) := by decide +kernel
theorem dX9_commonDivisor_3 : decode cX9_commonDivisor 3 = .ok (.lload_n 2, 1) := by decide +kernel
theorem dX9_commonDivisor_4 : decode cX9_commonDivisor 4 = .ok (.lstore 6, 2) := by decide +kernel
theorem dX9_commonDivisor_6 : decode cX9_commonDivisor 6 = .ok (.iconst 0, 1) := by decide +kernel
theorem dX9_commonDivisor_7 : decode cX9_commonDivisor 7 = .ok (.istore 8, 2) := by decide +kernel
theorem dX9_commonDivisor_9 : decode cX9_commonDivisor 9 = .ok (.iload 8, 2) := by decide +kernel
theorem dX9_commonDivisor_11 : decode cX9_commonDivisor 11 = .ok (.bipush 100, 2) := by decide +kernel
theorem dX9_commonDivisor_13 : decode cX9_commonDivisor 13 = .ok (.if_icmp .ge 31, 3) := by decide +kernel
theorem dX9_commonDivisor_16 : decode cX9_commonDivisor 16 = .ok (.lload 6, 2) := by decide +kernel
theorem dX9_commonDivisor_18 : decode cX9_commonDivisor 18 = .ok (.lconst 0, 1) := by decide +kernel
theorem dX9_commonDivisor_19 : decode cX9_commonDivisor 19 = .ok (.lcmp, 1) := by decide +kernel
theorem dX9_commonDivisor_20 : decode cX9_commonDivisor 20 = .ok (.ifCond .eq 24, 3) := by decide +kernel
theorem dX9_commonDivisor_23 : decode cX9_commonDivisor 23 = .ok (.lload 4, 2) := by decide +kernel
theorem dX9_commonDivisor_25 : decode cX9_commonDivisor 25 = .ok (.lload 6, 2) := by decide +kernel
theorem dX9_commonDivisor_27 : decode cX9_commonDivisor 27 = .ok (.lrem, 1) := by decide +kernel
theorem dX9_commonDivisor_28 : decode cX9_commonDivisor 28 = .ok (.lstore 9, 2) := by decide +kernel
theorem dX9_commonDivisor_30 : decode cX9_commonDivisor 30 = .ok (.lload 6, 2) := by decide +kernel
theorem dX9_commonDivisor_32 : decode cX9_commonDivisor 32 = .ok (.lstore 4, 2) := by decide +kernel
theorem dX9_commonDivisor_34 : decode cX9_commonDivisor 34 = .ok (.lload 9, 2) := by decide +kernel
theorem dX9_commonDivisor_36 : decode cX9_commonDivisor 36 = .ok (.lstore 6, 2) := by decide +kernel
theorem dX9_commonDivisor_38 : decode cX9_commonDivisor 38 = .ok (.iinc 8 1, 3) := by decide +kernel
theorem dX9_commonDivisor_41 : decode cX9_commonDivisor 41 = .ok (.goto (-32), 3) := by decide +kernel
theorem dX9_commonDivisor_44 : decode cX9_commonDivisor 44 = .ok (.lload 4, 2) := by decide +kernel
theorem dX9_commonDivisor_46 : decode cX9_commonDivisor 46 = .ok (.lreturn, 1) := by decide +kernel
theorem dJ6_bitCount_0f7a4_0 : decode cJ6_bitCount_0f7a4 0 = .ok (.iload_n 0, 1) := by decide +kernel
theorem dJ6_bitCount_0f7a4_1 : decode cJ6_bitCount_0f7a4 1 = .ok (.iload_n 0, 1) := by decide +kernel
theorem dJ6_bitCount_0f7a4_2 : decode cJ6_bitCount_0f7a4 2 = .ok (.iconst 1, 1) := by decide +kernel
theorem dJ6_bitCount_0f7a4_3 : decode cJ6_bitCount_0f7a4 3 = .ok (.iushr, 1) := by decide +kernel
theorem dJ6_bitCount_0f7a4_4 : decode cJ6_bitCount_0f7a4 4 = .ok (.ldc_w 265, 3) := by decide +kernel
theorem dJ6_bitCount_0f7a4_7 : decode cJ6_bitCount_0f7a4 7 = .ok (.iand, 1) := by decide +kernel
theorem dJ6_bitCount_0f7a4_8 : decode cJ6_bitCount_0f7a4 8 = .ok (.isub, 1) := by decide +kernel
theorem dJ6_bitCount_0f7a4_9 : decode cJ6_bitCount_0f7a4 9 = .ok (.istore_n 0, 1) := by decide +kernel
theorem dJ6_bitCount_0f7a4_10 : decode cJ6_bitCount_0f7a4 10 = .ok (.iload_n 0, 1) := by decide +kernel
theorem dJ6_bitCount_0f7a4_11 : decode cJ6_bitCount_0f7a4 11 = .ok (.ldc_w 266, 3) := by decide +kernel
theorem dJ6_bitCount_0f7a4_14 : decode cJ6_bitCount_0f7a4 14 = .ok (.iand, 1) := by decide +kernel
theorem dJ6_bitCount_0f7a4_15 : decode cJ6_bitCount_0f7a4 15 = .ok (.iload_n 0, 1) := by decide +kernel
theorem dJ6_bitCount_0f7a4_16 : decode cJ6_bitCount_0f7a4 16 = .ok (.iconst 2, 1) := by decide +kernel
theorem dJ6_bitCount_0f7a4_17 : decode cJ6_bitCount_0f7a4 17 = .ok (.iushr, 1) := by decide +kernel
theorem dJ6_bitCount_0f7a4_18 : decode cJ6_bitCount_0f7a4 18 = .ok (.ldc_w 266, 3) := by decide +kernel
theorem dJ6_bitCount_0f7a4_21 : decode cJ6_bitCount_0f7a4 21 = .ok (.iand, 1) := by decide +kernel
theorem dJ6_bitCount_0f7a4_22 : decode cJ6_bitCount_0f7a4 22 = .ok (.iadd, 1) := by decide +kernel
theorem dJ6_bitCount_0f7a4_23 : decode cJ6_bitCount_0f7a4 23 = .ok (.istore_n 0, 1) := by decide +kernel
theorem dJ6_bitCount_0f7a4_24 : decode cJ6_bitCount_0f7a4 24 = .ok (.iload_n 0, 1) := by decide +kernel
theorem dJ6_bitCount_0f7a4_25 : decode cJ6_bitCount_0f7a4 25 = .ok (.iload_n 0, 1) := by decide +kernel
theorem dJ6_bitCount_0f7a4_26 : decode cJ6_bitCount_0f7a4 26 = .ok (.iconst 4, 1) := by decide +kernel
theorem dJ6_bitCount_0f7a4_27 : decode cJ6_bitCount_0f7a4 27 = .ok (.iushr, 1) := by decide +kernel
theorem dJ6_bitCount_0f7a4_28 : decode cJ6_bitCount_0f7a4 28 = .ok (.iadd, 1) := by decide +kernel
theorem dJ6_bitCount_0f7a4_29 : decode cJ6_bitCount_0f7a4 29 = .ok (.ldc_w 267, 3) := by decide +kernel
theorem dJ6_bitCount_0f7a4_32 : decode cJ6_bitCount_0f7a4 32 = .ok (.iand, 1) := by decide +kernel
theorem dJ6_bitCount_0f7a4_33 : decode cJ6_bitCount_0f7a4 33 = .ok (.istore_n 0, 1) := by decide +kernel
theorem dJ6_bitCount_0f7a4_34 : decode cJ6_bitCount_0f7a4 34 = .ok (.iload_n 0, 1) := by decide +kernel
theorem dJ6_bitCount_0f7a4_35 : decode cJ6_bitCount_0f7a4 35 = .ok (.iload_n 0, 1) := by decide +kernel
theorem dJ6_bitCount_0f7a4_36 : decode cJ6_bitCount_0f7a4 36 = .ok (.bipush 8, 2) := by decide +kernel
theorem dJ6_bitCount_0f7a4_38 : decode cJ6_bitCount_0f7a4 38 = .ok (.iushr, 1) := by decide +kernel
theorem dJ6_bitCount_0f7a4_39 : decode cJ6_bitCount_0f7a4 39 = .ok (.iadd, 1) := by decide +kernel
theorem dJ6_bitCount_0f7a4_40 : decode cJ6_bitCount_0f7a4 40 = .ok (.istore_n 0, 1) := by decide +kernel
theorem dJ6_bitCount_0f7a4_41 : decode cJ6_bitCount_0f7a4 41 = .ok (.iload_n 0, 1) := by decide +kernel
theorem dJ6_bitCount_0f7a4_42 : decode cJ6_bitCount_0f7a4 42 = .ok (.iload_n 0, 1) := by decide +kernel
theorem dJ6_bitCount_0f7a4_43 : decode cJ6_bitCount_0f7a4 43 = .ok (.bipush 16, 2) := by decide +kernel
theorem dJ6_bitCount_0f7a4_45 : decode cJ6_bitCount_0f7a4 45 = .ok (.iushr, 1) := by decide +kernel
theorem dJ6_bitCount_0f7a4_46 : decode cJ6_bitCount_0f7a4 46 = .ok (.iadd, 1) := by decide +kernel
theorem dJ6_bitCount_0f7a4_47 : decode cJ6_bitCount_0f7a4 47 = .ok (.istore_n 0, 1) := by decide +kernel
theorem dJ6_bitCount_0f7a4_48 : decode cJ6_bitCount_0f7a4 48 = .ok (.iload_n 0, 1) := by decide +kernel
theorem dJ6_bitCount_0f7a4_49 : decode cJ6_bitCount_0f7a4 49 = .ok (.bipush 63, 2) := by decide +kernel
theorem dJ6_bitCount_0f7a4_51 : decode cJ6_bitCount_0f7a4 51 = .ok (.iand, 1) := by decide +kernel
theorem dJ6_bitCount_0f7a4_52 : decode cJ6_bitCount_0f7a4 52 = .ok (.ireturn, 1) := by decide +kernel
theorem dJ9_floorMod_7cf53_0 : decode cJ9_floorMod_7cf53 0 = .ok (.iload_n 0, 1) := by decide +kernel
theorem dJ9_floorMod_7cf53_1 : decode cJ9_floorMod_7cf53 1 = .ok (.iload_n 1, 1) := by decide +kernel
theorem dJ9_floorMod_7cf53_2 : decode cJ9_floorMod_7cf53 2 = .ok (.irem, 1) := by decide +kernel
theorem dJ9_floorMod_7cf53_3 : decode cJ9_floorMod_7cf53 3 = .ok (.istore_n 2, 1) := by decide +kernel
theorem dJ9_floorMod_7cf53_4 : decode cJ9_floorMod_7cf53 4 = .ok (.iload_n 0, 1) := by decide +kernel
theorem dJ9_floorMod_7cf53_5 : decode cJ9_floorMod_7cf53 5 = .ok (.iload_n 1, 1) := by decide +kernel
theorem dJ9_floorMod_7cf53_6 : decode cJ9_floorMod_7cf53 6 = .ok (.ixor, 1) := by decide +kernel
theorem dJ9_floorMod_7cf53_7 : decode cJ9_floorMod_7cf53 7 = .ok (.ifCond .ge 11, 3) := by decide +kernel
theorem dJ9_floorMod_7cf53_10 : decode cJ9_floorMod_7cf53 10 = .ok (.iload_n 2, 1) := by decide +kernel
theorem dJ9_floorMod_7cf53_11 : decode cJ9_floorMod_7cf53 11 = .ok (.ifCond .eq 7, 3) := by decide +kernel
theorem dJ9_floorMod_7cf53_14 : decode cJ9_floorMod_7cf53 14 = .ok (.iload_n 2, 1) := by decide +kernel
theorem dJ9_floorMod_7cf53_15 : decode cJ9_floorMod_7cf53 15 = .ok (.iload_n 1, 1) := by decide +kernel
theorem dJ9_floorMod_7cf53_16 : decode cJ9_floorMod_7cf53 16 = .ok (.iadd, 1) := by decide +kernel
theorem dJ9_floorMod_7cf53_17 : decode cJ9_floorMod_7cf53 17 = .ok (.ireturn, 1) := by decide +kernel
theorem dJ9_floorMod_7cf53_18 : decode cJ9_floorMod_7cf53 18 = .ok (.iload_n 2, 1) := by decide +kernel
theorem dJ9_floorMod_7cf53_19 : decode cJ9_floorMod_7cf53 19 = .ok (.ireturn, 1) := by decide +kernel
theorem dJ9_abs_0f7a4_0 : decode cJ9_abs_0f7a4 0 = .ok (.iload_n 0, 1) := by decide +kernel
theorem dJ9_abs_0f7a4_1 : decode cJ9_abs_0f7a4 1 = .ok (.ifCond .ge 8, 3) := by decide +kernel
theorem dJ9_abs_0f7a4_4 : decode cJ9_abs_0f7a4 4 = .ok (.iload_n 0, 1) := by decide +kernel
theorem dJ9_abs_0f7a4_5 : decode cJ9_abs_0f7a4 5 = .ok (.ineg, 1) := by decide +kernel
theorem dJ9_abs_0f7a4_6 : decode cJ9_abs_0f7a4 6 = .ok (.goto 4, 3) := by decide +kernel
theorem dJ9_abs_0f7a4_9 : decode cJ9_abs_0f7a4 9 = .ok (.iload_n 0, 1) := by decide +kernel
theorem dJ9_abs_0f7a4_10 : decode cJ9_abs_0f7a4 10 = .ok (.ireturn, 1) := by decide +kernel
theorem dJ9_min_7cf53_0 : decode cJ9_min_7cf53 0 = .ok (.iload_n 0, 1) := by decide +kernel
theorem dJ9_min_7cf53_1 : decode cJ9_min_7cf53 1 = .ok (.iload_n 1, 1) := by decide +kernel
theorem dJ9_min_7cf53_2 : decode cJ9_min_7cf53 2 = .ok (.if_icmp .gt 7, 3) := by decide +kernel
theorem dJ9_min_7cf53_5 : decode cJ9_min_7cf53 5 = .ok (.iload_n 0, 1) := by decide +kernel
theorem dJ9_min_7cf53_6 : decode cJ9_min_7cf53 6 = .ok (.goto 4, 3) := by decide +kernel
theorem dJ9_min_7cf53_9 : decode cJ9_min_7cf53 9 = .ok (.iload_n 1, 1) := by decide +kernel
theorem dJ9_min_7cf53_10 : decode cJ9_min_7cf53 10 = .ok (.ireturn, 1) := by decide +kernel
theorem dJ7_fill_53178_0 : decode cJ7_fill_53178 0 = .ok (.iconst 0, 1) := by decide +kernel
theorem dJ7_fill_53178_1 : decode cJ7_fill_53178 1 = .ok (.istore_n 2, 1) := by decide +kernel
theorem dJ7_fill_53178_2 : decode cJ7_fill_53178 2 = .ok (.aload_n 0, 1) := by decide +kernel
theorem dJ7_fill_53178_3 : decode cJ7_fill_53178 3 = .ok (.arraylength, 1) := by decide +kernel
theorem dJ7_fill_53178_4 : decode cJ7_fill_53178 4 = .ok (.istore_n 3, 1) := by decide +kernel
theorem dJ7_fill_53178_5 : decode cJ7_fill_53178 5 = .ok (.iload_n 2, 1) := by decide +kernel
theorem dJ7_fill_53178_6 : decode cJ7_fill_53178 6 = .ok (.iload_n 3, 1) := by decide +kernel
theorem dJ7_fill_53178_7 : decode cJ7_fill_53178 7 = .ok (.if_icmp .ge 13, 3) := by decide +kernel
theorem dJ7_fill_53178_10 : decode cJ7_fill_53178 10 = .ok (.aload_n 0, 1) := by decide +kernel
theorem dJ7_fill_53178_11 : decode cJ7_fill_53178 11 = .ok (.iload_n 2, 1) := by decide +kernel
theorem dJ7_fill_53178_12 : decode cJ7_fill_53178 12 = .ok (.iload_n 1, 1) := by decide +kernel
theorem dJ7_fill_53178_13 : decode cJ7_fill_53178 13 = .ok (.iastore, 1) := by decide +kernel
theorem dJ7_fill_53178_14 : decode cJ7_fill_53178 14 = .ok (.iinc 2 1, 3) := by decide +kernel
theorem dJ7_fill_53178_17 : decode cJ7_fill_53178 17 = .ok (.goto (-12), 3) := by decide +kernel
theorem dJ7_fill_53178_20 : decode cJ7_fill_53178 20 = .ok (.return_, 1) := by decide +kernel
