theorem dX2_turn_35 : decode cX2_turn 35 = .ok (.dastore, 1) := by decide +kernel
theorem dX2_turn_36 : decode cX2_turn 36 = .ok (.iconst 0, 1) := by decide +kernel
theorem dX2_turn_37 : decode cX2_turn 37 = .ok (.ireturn, 1) := by decide +kernel
theorem dX3_init_0 : decode cX3_init 0 = .ok (.aload_n 0, 1) := by decide +kernel
theorem dX3_init_1 : decode cX3_init 1 = .ok (.invokespecial 1, 3) := by decide +kernel
theorem dX3_init_4 : decode cX3_init 4 = .ok (.aload_n 0, 1) := by decide +kernel
theorem dX3_init_5 : decode cX3_init 5 = .ok (.iload_n 1, 1) := by decide +kernel
theorem dX3_init_6 : decode cX3_init 6 = .ok (.putfield 7, 3) := by decide +kernel
theorem dX3_init_9 : decode cX3_init 9 = .ok (.aload_n 0, 1) := by decide +kernel
theorem dX3_init_10 : decode cX3_init 10 = .ok (.iload_n 2, 1) := by decide +kernel
theorem dX3_init_11 : decode cX3_init 11 = .ok (.putfield 13, 3) := by decide +kernel
theorem dX3_init_14 : decode cX3_init 14 = .ok (.aload_n 0, 1) := by decide +kernel
theorem dX3_init_15 : decode cX3_init 15 = .ok (.iload_n 3, 1) := by decide +kernel
theorem dX3_init_16 : decode cX3_init 16 = .ok (.putfield 16, 3) := by decide +kernel
theorem dX3_init_19 : decode cX3_init 19 = .ok (.aload_n 0, 1) := by decide +kernel
theorem dX3_init_20 : decode cX3_init 20 = .ok (.aload 4, 2) := by decide +kernel
theorem dX3_init_22 : decode cX3_init 22 = .ok (.ifnonnull 7, 3) := by decide +kernel
theorem dX3_init_25 : decode cX3_init 25 = .ok (.iconst 0, 1) := by decide +kernel
theorem dX3_init_26 : decode cX3_init 26 = .ok (.goto 10, 3) := by decide +kernel
theorem dX3_init_29 : decode cX3_init 29 = .ok (.aload 4, 2) := by decide +kernel
theorem dX3_init_31 : decode cX3_init 31 = .ok (.getfield 19, 3) := by decide +kernel
theorem dX3_init_34 : decode cX3_init 34 = .ok (.iconst 1, 1) := by decide +kernel
theorem dX3_init_35 : decode cX3_init 35 = .ok (.iadd, 1) := by decide +kernel
theorem dX3_init_36 : decode cX3_init 36 = .ok (.putfield 19, 3) := by decide +kernel
theorem dX3_init_39 : decode cX3_init 39 = .ok (.aload_n 0, 1) := by decide +kernel
theorem dX3_init_40 : decode cX3_init 40 = .ok (.aload 4, 2) := by decide +kernel
theorem dX3_init_42 : decode cX3_init 42 = .ok (.ifnonnull 7, 3) := by decide +kernel
theorem dX3_init_45 : decode cX3_init 45 = .ok (.iload_n 2, 1) := by decide +kernel
theorem dX3_init_46 : decode cX3_init 46 = .ok (.goto 8, 3) := by decide +kernel
theorem dX3_init_49 : decode cX3_init 49 = .ok (.aload 4, 2) := by decide +kernel
theorem dX3_init_51 : decode cX3_init 51 = .ok (.getfield 22, 3) := by decide +kernel
theorem dX3_init_54 : decode cX3_init 54 = .ok (.putfield 22, 3) := by decide +kernel
theorem dX3_init_57 : decode cX3_init 57 = .ok (.aload_n 0, 1) := by decide +kernel
theorem dX3_init_58 : decode cX3_init 58 = .ok (.iload_n 1, 1) := by decide +kernel
theorem dX3_init_59 : decode cX3_init 59 = .ok (.iload_n 3, 1) := by decide +kernel
theorem dX3_init_60 : decode cX3_init 60 = .ok (.aload 4, 2) := by decide +kernel
theorem dX3_init_62 : decode cX3_init 62 = .ok (.ifnonnull 7, 3) := by decide +kernel
theorem dX3_init_65 : decode cX3_init 65 = .ok (.iconst 1, 1) := by decide +kernel
theorem dX3_init_66 : decode cX3_init 66 = .ok (.goto 10, 3) := by decide +kernel
theorem dX3_init_69 : decode cX3_init 69 = .ok (.iconst 1, 1) := by decide +kernel
theorem dX3_init_70 : decode cX3_init 70 = .ok (.aload 4, 2) := by decide +kernel
theorem dX3_init_72 : decode cX3_init 72 = .ok (.getfield 25, 3) := by decide +kernel
theorem dX3_init_75 : decode cX3_init 75 = .ok (.iadd, 1) := by decide +kernel
theorem dX3_init_76 : decode cX3_init 76 = .ok (.invokestatic 28, 3) := by decide +kernel
theorem dX3_init_79 : decode cX3_init 79 = .ok (.putfield 25, 3) := by decide +kernel
theorem dX3_init_82 : decode cX3_init 82 = .ok (.return_, 1) := by decide +kernel
theorem dX3_weightOf_0 : decode cX3_weightOf 0 = .ok (.iload_n 0, 1) := by decide +kernel
theorem dX3_weightOf_1 : decode cX3_weightOf 1 = .ok (.tableswitch 80 3 11 #[51, 80, 56, 80, 60, 65, 70, 80, 74], 51) := by decide +kernel
theorem dX3_weightOf_52 : decode cX3_weightOf 52 = .ok (.iload_n 2, 1) := by decide +kernel
theorem dX3_weightOf_53 : decode cX3_weightOf 53 = .ok (.bipush 10, 2) := by decide +kernel
theorem dX3_weightOf_55 : decode cX3_weightOf 55 = .ok (.iadd, 1) := by decide +kernel
theorem dX3_weightOf_56 : decode cX3_weightOf 56 = .ok (.ireturn, 1) := by decide +kernel
theorem dX3_weightOf_57 : decode cX3_weightOf 57 = .ok (.iconst 3, 1) := by decide +kernel
theorem dX3_weightOf_58 : decode cX3_weightOf 58 = .ok (.iload_n 2, 1) := by decide +kernel
theorem dX3_weightOf_59 : decode cX3_weightOf 59 = .ok (.imul, 1) := by decide +kernel
theorem dX3_weightOf_60 : decode cX3_weightOf 60 = .ok (.ireturn, 1) := by decide +kernel
theorem dX3_weightOf_61 : decode cX3_weightOf 61 = .ok (.iload_n 2, 1) := by decide +kernel
theorem dX3_weightOf_62 : decode cX3_weightOf 62 = .ok (.bipush 100, 2) := by decide +kernel
theorem dX3_weightOf_64 : decode cX3_weightOf 64 = .ok (.iadd, 1) := by decide +kernel
theorem dX3_weightOf_65 : decode cX3_weightOf 65 = .ok (.ireturn, 1) := by decide +kernel
theorem dX3_weightOf_66 : decode cX3_weightOf 66 = .ok (.iload_n 2, 1) := by decide +kernel
theorem dX3_weightOf_67 : decode cX3_weightOf 67 = .ok (.bipush 105, 2) := by decide +kernel
theorem dX3_weightOf_69 : decode cX3_weightOf 69 = .ok (.iadd, 1) := by decide +kernel
theorem dX3_weightOf_70 : decode cX3_weightOf 70 = .ok (.ireturn, 1) := by decide +kernel
theorem dX3_weightOf_71 : decode cX3_weightOf 71 = .ok (.iload_n 2, 1) := by decide +kernel
theorem dX3_weightOf_72 : decode cX3_weightOf 72 = .ok (.iload_n 1, 1) := by decide +kernel
theorem dX3_weightOf_73 : decode cX3_weightOf 73 = .ok (.iadd, 1) := by decide +kernel
theorem dX3_weightOf_74 : decode cX3_weightOf 74 = .ok (.ireturn, 1) := by decide +kernel
theorem dX3_weightOf_75 : decode cX3_weightOf 75 = .ok (.iconst 2, 1) := by decide +kernel
theorem dX3_weightOf_76 : decode cX3_weightOf 76 = .ok (.iload_n 2, 1) := by decide +kernel
theorem dX3_weightOf_77 : decode cX3_weightOf 77 = .ok (.iload_n 1, 1) := by decide +kernel
theorem dX3_weightOf_78 : decode cX3_weightOf 78 = .ok (.iadd, 1) := by decide +kernel
theorem dX3_weightOf_79 : decode cX3_weightOf 79 = .ok (.imul, 1) := by decide +kernel
theorem dX3_weightOf_80 : decode cX3_weightOf 80 = .ok (.ireturn, 1) := by decide +kernel
theorem dX3_weightOf_81 : decode cX3_weightOf 81 = .ok (.iload_n 2, 1) := by decide +kernel
theorem dX3_weightOf_82 : decode cX3_weightOf 82 = .ok (.ireturn, 1) := by decide +kernel
theorem dX3_isUnder_0 : decode cX3_isUnder 0 = .ok (.iload_n 0, 1) := by decide +kernel
theorem dX3_isUnder_1 : decode cX3_isUnder 1 = .ok (.istore_n 2, 1) := by decide +kernel
theorem dX3_isUnder_2 : decode cX3_isUnder 2 = .ok (.iconst 0, 1) := by decide +kernel
theorem dX3_isUnder_3 : decode cX3_isUnder 3 = .ok (.istore_n 3, 1) := by decide +kernel
theorem dX3_isUnder_4 : decode cX3_isUnder 4 = .ok (.iload_n 3, 1) := by decide +kernel
theorem dX3_isUnder_5 : decode cX3_isUnder 5 = .ok (.getstatic 32, 3) := by decide +kernel
theorem dX3_isUnder_8 : decode cX3_isUnder 8 = .ok (.arraylength, 1) := by decide +kernel
theorem dX3_isUnder_9 : decode cX3_isUnder 9 = .ok (.if_icmp .ge 34, 3) := by decide +kernel
theorem dX3_isUnder_12 : decode cX3_isUnder 12 = .ok (.iload_n 2, 1) := by decide +kernel
theorem dX3_isUnder_13 : decode cX3_isUnder 13 = .ok (.ifCond .le 30, 3) := by decide +kernel
theorem dX3_isUnder_16 : decode cX3_isUnder 16 = .ok (.iload_n 2, 1) := by decide +kernel
theorem dX3_isUnder_17 : decode cX3_isUnder 17 = .ok (.getstatic 32, 3) := by decide +kernel
theorem dX3_isUnder_20 : decode cX3_isUnder 20 = .ok (.arraylength, 1) := by decide +kernel
theorem dX3_isUnder_21 : decode cX3_isUnder 21 = .ok (.if_icmp .ge 22, 3) := by decide +kernel
theorem dX3_isUnder_24 : decode cX3_isUnder 24 = .ok (.iload_n 2, 1) := by decide +kernel
theorem dX3_isUnder_25 : decode cX3_isUnder 25 = .ok (.iload_n 1, 1) := by decide +kernel
theorem dX3_isUnder_26 : decode cX3_isUnder 26 = .ok (.if_icmp .ne 5, 3) := by decide +kernel
theorem dX3_isUnder_29 : decode cX3_isUnder 29 = .ok (.iconst 1, 1) := by decide +kernel
theorem dX3_isUnder_30 : decode cX3_isUnder 30 = .ok (.ireturn, 1) := by decide +kernel
theorem dX3_isUnder_31 : decode cX3_isUnder 31 = .ok (.getstatic 32, 3) := by decide +kernel
theorem dX3_isUnder_34 : decode cX3_isUnder 34 = .ok (.iload_n 2, 1) := by decide +kernel
theorem dX3_isUnder_35 : decode cX3_isUnder 35 = .ok (.iaload, 1) := by decide +kernel
theorem dX3_isUnder_36 : decode cX3_isUnder 36 = .ok (.istore_n 2, 1) := by decide +kernel
theorem dX3_isUnder_37 : decode cX3_isUnder 37 = .ok (.iinc 3 1, 3) := by decide +kernel
theorem dX3_isUnder_40 : decode cX3_isUnder 40 = .ok (.goto (-36), 3) := by decide +kernel
theorem dX3_isUnder_43 : decode cX3_isUnder 43 = .ok (.iconst 0, 1) := by decide +kernel
theorem dX3_isUnder_44 : decode cX3_isUnder 44 = .ok (.ireturn, 1) := by decide +kernel
theorem dX4_init_0 : decode cX4_init 0 = .ok (.aload_n 0, 1) := by decide +kernel
theorem dX4_init_1 : decode cX4_init 1 = .ok (.invokespecial 3, 3) := by decide +kernel
theorem dX4_init_4 : decode cX4_init 4 = .ok (.aload_n 0, 1) := by decide +kernel
theorem dX4_init_5 : decode cX4_init 5 = .ok (.sipush 800, 3) := by decide +kernel
theorem dX4_init_8 : decode cX4_init 8 = .ok (.newarray .double, 2) := by decide +kernel
theorem dX4_init_10 : decode cX4_init 10 = .ok (.putfield 11, 3) := by decide +kernel
theorem dX4_init_13 : decode cX4_init 13 = .ok (.return_, 1) := by decide +kernel
theorem dX4_empty_0 : decode cX4_empty 0 = .ok (.aload_n 0, 1) := by decide +kernel
theorem dX4_empty_1 : decode cX4_empty 1 = .ok (.iconst 0, 1) := by decide +kernel
theorem dX4_empty_2 : decode cX4_empty 2 = .ok (.putfield 15, 3) := by decide +kernel
theorem dX4_empty_5 : decode cX4_empty 5 = .ok (.return_, 1) := by decide +kernel
theorem dX4_append_0 : decode cX4_append 0 = .ok (.aload_n 0, 1) := by decide +kernel
theorem dX4_append_1 : decode cX4_append 1 = .ok (.getfield 15, 3) := by decide +kernel
theorem dX4_append_4 : decode cX4_append 4 = .ok (.ifCond .lt 33, 3) := by decide +kernel
theorem dX4_append_7 : decode cX4_append 7 = .ok (.aload_n 0, 1) := by decide +kernel
theorem dX4_append_8 : decode cX4_append 8 = .ok (.getfield 15, 3) := by decide +kernel
theorem dX4_append_11 : decode cX4_append 11 = .ok (.sipush 800, 3) := by decide +kernel
theorem dX4_append_14 : decode cX4_append 14 = .ok (.if_icmp .ge 23, 3) := by decide +kernel
theorem dX4_append_17 : decode cX4_append 17 = .ok (.aload_n 0, 1) := by decide +kernel
theorem dX4_append_18 : decode cX4_append 18 = .ok (.getfield 11, 3) := by decide +kernel
theorem dX4_append_21 : decode cX4_append 21 = .ok (.aload_n 0, 1) := by decide +kernel
theorem dX4_append_22 : decode cX4_append 22 = .ok (.getfield 15, 3) := by decide +kernel
theorem dX4_append_25 : decode cX4_append 25 = .ok (.dload_n 1, 1) := by decide +kernel
theorem dX4_append_26 : decode cX4_append 26 = .ok (.dastore, 1) := by decide +kernel
theorem dX4_append_27 : decode cX4_append 27 = .ok (.aload_n 0, 1) := by decide +kernel
theorem dX4_append_28 : decode cX4_append 28 = .ok (.dup, 1) := by decide +kernel
theorem dX4_append_29 : decode cX4_append 29 = .ok (.getfield 15, 3) := by decide +kernel
theorem dX4_append_32 : decode cX4_append 32 = .ok (.iconst 1, 1) := by decide +kernel
theorem dX4_append_33 : decode cX4_append 33 = .ok (.iadd, 1) := by decide +kernel
theorem dX4_append_34 : decode cX4_append 34 = .ok (.putfield 15, 3) := by decide +kernel
theorem dX4_append_37 : decode cX4_append 37 = .ok (.return_, 1) := by decide +kernel
theorem dX4_at_0 : decode cX4_at 0 = .ok (.iload_n 1, 1) := by decide +kernel
theorem dX4_at_1 : decode cX4_at 1 = .ok (.ifCond .lt 27, 3) := by decide +kernel
theorem dX4_at_4 : decode cX4_at 4 = .ok (.iload_n 1, 1) := by decide +kernel
theorem dX4_at_5 : decode cX4_at 5 = .ok (.aload_n 0, 1) := by decide +kernel
theorem dX4_at_6 : decode cX4_at 6 = .ok (.getfield 15, 3) := by decide +kernel
theorem dX4_at_9 : decode cX4_at 9 = .ok (.if_icmp .ge 19, 3) := by decide +kernel
theorem dX4_at_12 : decode cX4_at 12 = .ok (.iload_n 1, 1) := by decide +kernel
theorem dX4_at_13 : decode cX4_at 13 = .ok (.sipush 800, 3) := by decide +kernel
theorem dX4_at_16 : decode cX4_at 16 = .ok (.if_icmp .ge 12, 3) := by decide +kernel
theorem dX4_at_19 : decode cX4_at 19 = .ok (.aload_n 0, 1) := by decide +kernel
theorem dX4_at_20 : decode cX4_at 20 = .ok (.getfield 11, 3) := by decide +kernel
theorem dX4_at_23 : decode cX4_at 23 = .ok (.iload_n 1, 1) := by decide +kernel
theorem dX4_at_24 : decode cX4_at 24 = .ok (.daload, 1) := by decide +kernel
theorem dX4_at_25 : decode cX4_at 25 = .ok (.goto 4, 3) := by decide +kernel
theorem dX4_at_28 : decode cX4_at 28 = .ok (.dconst 0, 1) := by decide +kernel
theorem dX4_at_29 : decode cX4_at 29 = .ok (.dreturn, 1) := by decide +kernel
theorem dX5_init_0 : decode cX5_init 0 = .ok (.aload_n 0, 1) := by decide +kernel
theorem dX5_init_1 : decode cX5_init 1 = .ok (.invokespecial 1, 3) := by decide +kernel
theorem dX5_init_4 : decode cX5_init 4 = .ok (.aload_n 0, 1) := by decide +kernel
theorem dX5_init_5 : decode cX5_init 5 = .ok (.iload_n 1, 1) := by decide +kernel
theorem dX5_init_6 : decode cX5_init 6 = .ok (.putfield 7, 3) := by decide +kernel
theorem dX5_init_9 : decode cX5_init 9 = .ok (.aload_n 0, 1) := by decide +kernel
theorem dX5_init_10 : decode cX5_init 10 = .ok (.bipush 40, 2) := by decide +kernel
theorem dX5_init_12 : decode cX5_init 12 = .ok (.anewarray 13, 3) := by decide +kernel
theorem dX5_init_15 : decode cX5_init 15 = .ok (.putfield 15, 3) := by decide +kernel
theorem dX5_init_18 : decode cX5_init 18 = .ok (.return_, 1) := by decide +kernel
theorem dX5_stepAt_0 : decode cX5_stepAt 0 = .ok (.iload_n 1, 1) := by decide +kernel
theorem dX5_stepAt_1 : decode cX5_stepAt 1 = .ok (.ifCond .lt 26, 3) := by decide +kernel
theorem dX5_stepAt_4 : decode cX5_stepAt 4 = .ok (.iload_n 1, 1) := by decide +kernel
theorem dX5_stepAt_5 : decode cX5_stepAt 5 = .ok (.aload_n 0, 1) := by decide +kernel
theorem dX5_stepAt_6 : decode cX5_stepAt 6 = .ok (.getfield 19, 3) := by decide +kernel
theorem dX5_stepAt_9 : decode cX5_stepAt 9 = .ok (.if_icmp .ge 18, 3) := by decide +kernel
theorem dX5_stepAt_12 : decode cX5_stepAt 12 = .ok (.iload_n 1, 1) := by decide +kernel
theorem dX5_stepAt_13 : decode cX5_stepAt 13 = .ok (.bipush 40, 2) := by decide +kernel
theorem dX5_stepAt_15 : decode cX5_stepAt 15 = .ok (.if_icmp .ge 12, 3) := by decide +kernel
theorem dX5_stepAt_18 : decode cX5_stepAt 18 = .ok (.aload_n 0, 1) := by decide +kernel
theorem dX5_stepAt_19 : decode cX5_stepAt 19 = .ok (.getfield 15, 3) := by decide +kernel
theorem dX5_stepAt_22 : decode cX5_stepAt 22 = .ok (.iload_n 1, 1) := by decide +kernel
theorem dX5_stepAt_23 : decode cX5_stepAt 23 = .ok (.aaload, 1) := by decide +kernel
theorem dX5_stepAt_24 : decode cX5_stepAt 24 = .ok (.goto 4, 3) := by decide +kernel
theorem dX5_stepAt_27 : decode cX5_stepAt 27 = .ok (.aconst_null, 1) := by decide +kernel
theorem dX5_stepAt_28 : decode cX5_stepAt 28 = .ok (.areturn, 1) := by decide +kernel
theorem dX5_forget_0 : decode cX5_forget 0 = .ok (.aload_n 0, 1) := by decide +kernel
theorem dX5_forget_1 : decode cX5_forget 1 = .ok (.getfield 19, 3) := by decide +kernel
theorem dX5_forget_4 : decode cX5_forget 4 = .ok (.istore_n 1, 1) := by decide +kernel
theorem dX5_forget_5 : decode cX5_forget 5 = .ok (.aload_n 0, 1) := by decide +kernel
theorem dX5_forget_6 : decode cX5_forget 6 = .ok (.iconst 0, 1) := by decide +kernel
theorem dX5_forget_7 : decode cX5_forget 7 = .ok (.putfield 19, 3) := by decide +kernel
theorem dX5_forget_10 : decode cX5_forget 10 = .ok (.aload_n 0, 1) := by decide +kernel
theorem dX5_forget_11 : decode cX5_forget 11 = .ok (.iconst 0, 1) := by decide +kernel
theorem dX5_forget_12 : decode cX5_forget 12 = .ok (.putfield 22, 3) := by decide +kernel
theorem dX5_forget_15 : decode cX5_forget 15 = .ok (.aload_n 0, 1) := by decide +kernel
theorem dX5_forget_16 : decode cX5_forget 16 = .ok (.aconst_null, 1) := by decide +kernel
theorem dX5_forget_17 : decode cX5_forget 17 = .ok (.putfield 25, 3) := by decide +kernel
theorem dX5_forget_20 : decode cX5_forget 20 = .ok (.iload_n 1, 1) := by decide +kernel
theorem dX5_forget_21 : decode cX5_forget 21 = .ok (.ireturn, 1) := by decide +kernel
theorem dX5_append_0 : decode cX5_append 0 = .ok (.aload_n 0, 1) := by decide +kernel
theorem dX5_append_1 : decode cX5_append 1 = .ok (.iload_n 1, 1) := by decide +kernel
theorem dX5_append_2 : decode cX5_append 2 = .ok (.invokevirtual 29, 3) := by decide +kernel
theorem dX5_append_5 : decode cX5_append 5 = .ok (.ifCond .ne 6, 3) := by decide +kernel
theorem dX5_append_8 : decode cX5_append 8 = .ok (.bipush (-2), 2) := by decide +kernel
theorem dX5_append_10 : decode cX5_append 10 = .ok (.ireturn, 1) := by decide +kernel
theorem dX5_append_11 : decode cX5_append 11 = .ok (.aload_n 0, 1) := by decide +kernel
theorem dX5_append_12 : decode cX5_append 12 = .ok (.getfield 19, 3) := by decide +kernel
theorem dX5_append_15 : decode cX5_append 15 = .ok (.ifCond .lt 12, 3) := by decide +kernel
theorem dX5_append_18 : decode cX5_append 18 = .ok (.aload_n 0, 1) := by decide +kernel
theorem dX5_append_19 : decode cX5_append 19 = .ok (.getfield 19, 3) := by decide +kernel
theorem dX5_append_22 : decode cX5_append 22 = .ok (.bipush 40, 2) := by decide +kernel
theorem dX5_append_24 : decode cX5_append 24 = .ok (.if_icmp .lt 6, 3) := by decide +kernel
theorem dX5_append_27 : decode cX5_append 27 = .ok (.bipush (-3), 2) := by decide +kernel
theorem dX5_append_29 : decode cX5_append 29 = .ok (.ireturn, 1) := by decide +kernel
theorem dX5_append_30 : decode cX5_append 30 = .ok (.new 13, 3) := by decide +kernel
theorem dX5_append_33 : decode cX5_append 33 = .ok (.dup, 1) := by decide +kernel
theorem dX5_append_34 : decode cX5_append 34 = .ok (.iload_n 1, 1) := by decide +kernel
theorem dX5_append_35 : decode cX5_append 35 = .ok (.iload_n 2, 1) := by decide +kernel
theorem dX5_append_36 : decode cX5_append 36 = .ok (.iload_n 3, 1) := by decide +kernel
theorem dX5_append_37 : decode cX5_append 37 = .ok (.iload 4, 2) := by decide +kernel
theorem dX5_append_39 : decode cX5_append 39 = .ok (.aload_n 0, 1) := by decide +kernel
theorem dX5_append_40 : decode cX5_append 40 = .ok (.getfield 19, 3) := by decide +kernel
theorem dX5_append_43 : decode cX5_append 43 = .ok (.bipush 40, 2) := by decide +kernel
theorem dX5_append_45 : decode cX5_append 45 = .ok (.aload_n 0, 1) := by decide +kernel
theorem dX5_append_46 : decode cX5_append 46 = .ok (.getfield 7, 3) := by decide +kernel
theorem dX5_append_49 : decode cX5_append 49 = .ok (.imul, 1) := by decide +kernel
theorem dX5_append_50 : decode cX5_append 50 = .ok (.aload_n 0, 1) := by decide +kernel
theorem dX5_append_51 : decode cX5_append 51 = .ok (.getfield 19, 3) := by decide +kernel
theorem dX5_append_54 : decode cX5_append 54 = .ok (.iadd, 1) := by decide +kernel
theorem dX5_append_55 : decode cX5_append 55 = .ok (.invokespecial 33, 3) := by decide +kernel
theorem dX5_append_58 : decode cX5_append 58 = .ok (.astore 5, 2) := by decide +kernel
theorem dX5_append_60 : decode cX5_append 60 = .ok (.aload_n 0, 1) := by decide +kernel
theorem dX5_append_61 : decode cX5_append 61 = .ok (.getfield 15, 3) := by decide +kernel
theorem dX5_append_64 : decode cX5_append 64 = .ok (.aload_n 0, 1) := by decide +kernel
theorem dX5_append_65 : decode cX5_append 65 = .ok (.getfield 19, 3) := by decide +kernel
theorem dX5_append_68 : decode cX5_append 68 = .ok (.aload 5, 2) := by decide +kernel
theorem dX5_append_70 : decode cX5_append 70 = .ok (.aastore, 1) := by decide +kernel
theorem dX5_append_71 : decode cX5_append 71 = .ok (.aload_n 0, 1) := by decide +kernel
theorem dX5_append_72 : decode cX5_append 72 = .ok (.dup, 1) := by decide +kernel
theorem dX5_append_73 : decode cX5_append 73 = .ok (.getfield 19, 3) := by decide +kernel
theorem dX5_append_76 : decode cX5_append 76 = .ok (.iconst 1, 1) := by decide +kernel
theorem dX5_append_77 : decode cX5_append 77 = .ok (.iadd, 1) := by decide +kernel
theorem dX5_append_78 : decode cX5_append 78 = .ok (.putfield 19, 3) := by decide +kernel
theorem dX5_append_81 : decode cX5_append 81 = .ok (.aload_n 0, 1) := by decide +kernel
theorem dX5_append_82 : decode cX5_append 82 = .ok (.aload 5, 2) := by decide +kernel
theorem dX5_append_84 : decode cX5_append 84 = .ok (.invokevirtual 36, 3) := by decide +kernel
theorem dX5_append_87 : decode cX5_append 87 = .ok (.aload_n 0, 1) := by decide +kernel
theorem dX5_append_88 : decode cX5_append 88 = .ok (.getfield 19, 3) := by decide +kernel
theorem dX5_append_91 : decode cX5_append 91 = .ok (.ireturn, 1) := by decide +kernel
theorem dX5_mayStandHere_0 : decode cX5_mayStandHere 0 = .ok (.iload_n 1, 1) := by decide +kernel
theorem dX5_mayStandHere_1 : decode cX5_mayStandHere 1 = .ok (.tableswitch 140 0 11 #[63, 125, 76, 76, 125, 100, 105, 140, 119, 119, 119, 125], 63) := by decide +kernel
theorem dX5_mayStandHere_64 : decode cX5_mayStandHere 64 = .ok (.aload_n 0, 1) := by decide +kernel
theorem dX5_mayStandHere_65 : decode cX5_mayStandHere 65 = .ok (.getfield 25, 3) := by decide +kernel
theorem dX5_mayStandHere_68 : decode cX5_mayStandHere 68 = .ok (.ifnull 7, 3) := by decide +kernel
theorem dX5_mayStandHere_71 : decode cX5_mayStandHere 71 = .ok (.iconst 1, 1) := by decide +kernel
theorem dX5_mayStandHere_72 : decode cX5_mayStandHere 72 = .ok (.goto 4, 3) := by decide +kernel
theorem dX5_mayStandHere_75 : decode cX5_mayStandHere 75 = .ok (.iconst 0, 1) := by decide +kernel
theorem dX5_mayStandHere_76 : decode cX5_mayStandHere 76 = .ok (.ireturn, 1) := by decide +kernel
theorem dX5_mayStandHere_77 : decode cX5_mayStandHere 77 = .ok (.aload_n 0, 1) := by decide +kernel
theorem dX5_mayStandHere_78 : decode cX5_mayStandHere 78 = .ok (.getfield 25, 3) := by decide +kernel
theorem dX5_mayStandHere_81 : decode cX5_mayStandHere 81 = .ok (.ifnull 18, 3) := by decide +kernel
theorem dX5_mayStandHere_84 : decode cX5_mayStandHere 84 = .ok (.aload_n 0, 1) := by decide +kernel
theorem dX5_mayStandHere_85 : decode cX5_mayStandHere 85 = .ok (.getfield 25, 3) := by decide +kernel
theorem dX5_mayStandHere_88 : decode cX5_mayStandHere 88 = .ok (.iload_n 1, 1) := by decide +kernel
theorem dX5_mayStandHere_89 : decode cX5_mayStandHere 89 = .ok (.invokevirtual 40, 3) := by decide +kernel
theorem dX5_mayStandHere_92 : decode cX5_mayStandHere 92 = .ok (.ifCond .eq 7, 3) := by decide +kernel
theorem dX5_mayStandHere_95 : decode cX5_mayStandHere 95 = .ok (.iconst 1, 1) := by decide +kernel
theorem dX5_mayStandHere_96 : decode cX5_mayStandHere 96 = .ok (.goto 4, 3) := by decide +kernel
theorem dX5_mayStandHere_99 : decode cX5_mayStandHere 99 = .ok (.iconst 0, 1) := by decide +kernel
theorem dX5_mayStandHere_100 : decode cX5_mayStandHere 100 = .ok (.ireturn, 1) := by decide +kernel
theorem dX5_mayStandHere_101 : decode cX5_mayStandHere 101 = .ok (.aload_n 0, 1) := by decide +kernel
theorem dX5_mayStandHere_102 : decode cX5_mayStandHere 102 = .ok (.invokevirtual 45, 3) := by decide +kernel
theorem dX5_mayStandHere_105 : decode cX5_mayStandHere 105 = .ok (.ireturn, 1) := by decide +kernel
theorem dX5_mayStandHere_106 : decode cX5_mayStandHere 106 = .ok (.aload_n 0, 1) := by decide +kernel
theorem dX5_mayStandHere_107 : decode cX5_mayStandHere 107 = .ok (.iconst 3, 1) := by decide +kernel
theorem dX5_mayStandHere_108 : decode cX5_mayStandHere 108 = .ok (.invokevirtual 49, 3) := by decide +kernel
theorem dX5_mayStandHere_111 : decode cX5_mayStandHere 111 = .ok (.ifCond .ne 7, 3) := by decide +kernel
theorem dX5_mayStandHere_114 : decode cX5_mayStandHere 114 = .ok (.iconst 1, 1) := by decide +kernel
theorem dX5_mayStandHere_115 : decode cX5_mayStandHere 115 = .ok (.goto 4, 3) := by decide +kernel
theorem dX5_mayStandHere_118 : decode cX5_mayStandHere 118 = .ok (.iconst 0, 1) := by decide +kernel
theorem dX5_mayStandHere_119 : decode cX5_mayStandHere 119 = .ok (.ireturn, 1) := by decide +kernel
theorem dX5_mayStandHere_120 : decode cX5_mayStandHere 120 = .ok (.aload_n 0, 1) := by decide +kernel
theorem dX5_mayStandHere_121 : decode cX5_mayStandHere 121 = .ok (.iconst 2, 1) := by decide +kernel
theorem dX5_mayStandHere_122 : decode cX5_mayStandHere 122 = .ok (.invokevirtual 49, 3) := by decide +kernel
theorem dX5_mayStandHere_125 : decode cX5_mayStandHere 125 = .ok (.ireturn, 1) := by decide +kernel
theorem dX5_mayStandHere_126 : decode cX5_mayStandHere 126 = .ok (.aload_n 0, 1) := by decide +kernel
theorem dX5_mayStandHere_127 : decode cX5_mayStandHere 127 = .ok (.getfield 22, 3) := by decide +kernel
theorem dX5_mayStandHere_130 : decode cX5_mayStandHere 130 = .ok (.bipush 6, 2) := by decide +kernel
theorem dX5_mayStandHere_132 : decode cX5_mayStandHere 132 = .ok (.if_icmp .ge 7, 3) := by decide +kernel
theorem dX5_mayStandHere_135 : decode cX5_mayStandHere 135 = .ok (.iconst 1, 1) := by decide +kernel
theorem dX5_mayStandHere_136 : decode cX5_mayStandHere 136 = .ok (.goto 4, 3) := by decide +kernel
theorem dX5_mayStandHere_139 : decode cX5_mayStandHere 139 = .ok (.iconst 0, 1) := by decide +kernel
theorem dX5_mayStandHere_140 : decode cX5_mayStandHere 140 = .ok (.ireturn, 1) := by decide +kernel
theorem dX5_mayStandHere_141 : decode cX5_mayStandHere 141 = .ok (.iconst 1, 1) := by decide +kernel
theorem dX5_mayStandHere_142 : decode cX5_mayStandHere 142 = .ok (.ireturn, 1) := by decide +kernel
theorem dX5_mayLeave_0 : decode cX5_mayLeave 0 = .ok (.aload_n 0, 1) := by decide +kernel
theorem dX5_mayLeave_1 : decode cX5_mayLeave 1 = .ok (.getfield 25, 3) := by decide +kernel
theorem dX5_mayLeave_4 : decode cX5_mayLeave 4 = .ok (.astore_n 1, 1) := by decide +kernel
theorem dX5_mayLeave_5 : decode cX5_mayLeave 5 = .ok (.aload_n 1, 1) := by decide +kernel
theorem dX5_mayLeave_6 : decode cX5_mayLeave 6 = .ok (.ifnull 37, 3) := by decide +kernel
theorem dX5_mayLeave_9 : decode cX5_mayLeave 9 = .ok (.aload_n 1, 1) := by decide +kernel
theorem dX5_mayLeave_10 : decode cX5_mayLeave 10 = .ok (.getfield 52, 3) := by decide +kernel
theorem dX5_mayLeave_13 : decode cX5_mayLeave 13 = .ok (.getfield 56, 3) := by decide +kernel
theorem dX5_mayLeave_16 : decode cX5_mayLeave 16 = .ok (.iconst 4, 1) := by decide +kernel
theorem dX5_mayLeave_17 : decode cX5_mayLeave 17 = .ok (.if_icmp .ne 5, 3) := by decide +kernel
theorem dX5_mayLeave_20 : decode cX5_mayLeave 20 = .ok (.iconst 1, 1) := by decide +kernel
theorem dX5_mayLeave_21 : decode cX5_mayLeave 21 = .ok (.ireturn, 1) := by decide +kernel
theorem dX5_mayLeave_22 : decode cX5_mayLeave 22 = .ok (.aload_n 1, 1) := by decide +kernel
theorem dX5_mayLeave_23 : decode cX5_mayLeave 23 = .ok (.getfield 59, 3) := by decide +kernel
theorem dX5_mayLeave_26 : decode cX5_mayLeave 26 = .ok (.getfield 56, 3) := by decide +kernel
theorem dX5_mayLeave_29 : decode cX5_mayLeave 29 = .ok (.iconst 3, 1) := by decide +kernel
theorem dX5_mayLeave_30 : decode cX5_mayLeave 30 = .ok (.if_icmp .ne 5, 3) := by decide +kernel
theorem dX5_mayLeave_33 : decode cX5_mayLeave 33 = .ok (.iconst 0, 1) := by decide +kernel
theorem dX5_mayLeave_34 : decode cX5_mayLeave 34 = .ok (.ireturn, 1) := by decide +kernel
theorem dX5_mayLeave_35 : decode cX5_mayLeave 35 = .ok (.aload_n 1, 1) := by decide +kernel
theorem dX5_mayLeave_36 : decode cX5_mayLeave 36 = .ok (.getfield 62, 3) := by decide +kernel
theorem dX5_mayLeave_39 : decode cX5_mayLeave 39 = .ok (.astore_n 1, 1) := by decide +kernel
theorem dX5_mayLeave_40 : decode cX5_mayLeave 40 = .ok (.goto (-35), 3) := by decide +kernel
theorem dX5_mayLeave_43 : decode cX5_mayLeave 43 = .ok (.iconst 0, 1) := by decide +kernel
theorem dX5_mayLeave_44 : decode cX5_mayLeave 44 = .ok (.ireturn, 1) := by decide +kernel
theorem dX5_isPartOpen_0 : decode cX5_isPartOpen 0 = .ok (.aload_n 0, 1) := by decide +kernel
theorem dX5_isPartOpen_1 : decode cX5_isPartOpen 1 = .ok (.getfield 25, 3) := by decide +kernel
theorem dX5_isPartOpen_4 : decode cX5_isPartOpen 4 = .ok (.astore_n 2, 1) := by decide +kernel
theorem dX5_isPartOpen_5 : decode cX5_isPartOpen 5 = .ok (.aload_n 2, 1) := by decide +kernel
theorem dX5_isPartOpen_6 : decode cX5_isPartOpen 6 = .ok (.ifnull 24, 3) := by decide +kernel
theorem dX5_isPartOpen_9 : decode cX5_isPartOpen 9 = .ok (.aload_n 2, 1) := by decide +kernel
theorem dX5_isPartOpen_10 : decode cX5_isPartOpen 10 = .ok (.getfield 59, 3) := by decide +kernel
theorem dX5_isPartOpen_13 : decode cX5_isPartOpen 13 = .ok (.getfield 56, 3) := by decide +kernel
theorem dX5_isPartOpen_16 : decode cX5_isPartOpen 16 = .ok (.iload_n 1, 1) := by decide +kernel
theorem dX5_isPartOpen_17 : decode cX5_isPartOpen 17 = .ok (.if_icmp .ne 5, 3) := by decide +kernel
theorem dX5_isPartOpen_20 : decode cX5_isPartOpen 20 = .ok (.iconst 1, 1) := by decide +kernel
theorem dX5_isPartOpen_21 : decode cX5_isPartOpen 21 = .ok (.ireturn, 1) := by decide +kernel
theorem dX5_isPartOpen_22 : decode cX5_isPartOpen 22 = .ok (.aload_n 2, 1) := by decide +kernel
theorem dX5_isPartOpen_23 : decode cX5_isPartOpen 23 = .ok (.getfield 62, 3) := by decide +kernel
theorem dX5_isPartOpen_26 : decode cX5_isPartOpen 26 = .ok (.astore_n 2, 1) := by decide +kernel
theorem dX5_isPartOpen_27 : decode cX5_isPartOpen 27 = .ok (.goto (-22), 3) := by decide +kernel
theorem dX5_isPartOpen_30 : decode cX5_isPartOpen 30 = .ok (.iconst 0, 1) := by decide +kernel
theorem dX5_isPartOpen_31 : decode cX5_isPartOpen 31 = .ok (.ireturn, 1) := by decide +kernel
theorem dX5_tieToBlocks_0 : decode cX5_tieToBlocks 0 = .ok (.aload_n 1, 1) := by decide +kernel
theorem dX5_tieToBlocks_1 : decode cX5_tieToBlocks 1 = .ok (.getfield 56, 3) := by decide +kernel
theorem dX5_tieToBlocks_4 : decode cX5_tieToBlocks 4 = .ok (.tableswitch 119 0 11 #[111, 64, 93, 93, 64, 119, 119, 119, 119, 119, 119, 64], 64) := by decide +kernel
theorem dX5_tieToBlocks_68 : decode cX5_tieToBlocks 68 = .ok (.aload_n 0, 1) := by decide +kernel
theorem dX5_tieToBlocks_69 : decode cX5_tieToBlocks 69 = .ok (.new 41, 3) := by decide +kernel
theorem dX5_tieToBlocks_72 : decode cX5_tieToBlocks 72 = .ok (.dup, 1) := by decide +kernel
theorem dX5_tieToBlocks_73 : decode cX5_tieToBlocks 73 = .ok (.aload_n 1, 1) := by decide +kernel
theorem dX5_tieToBlocks_74 : decode cX5_tieToBlocks 74 = .ok (.aload_n 0, 1) := by decide +kernel
theorem dX5_tieToBlocks_75 : decode cX5_tieToBlocks 75 = .ok (.getfield 25, 3) := by decide +kernel
theorem dX5_tieToBlocks_78 : decode cX5_tieToBlocks 78 = .ok (.invokespecial 65, 3) := by decide +kernel
theorem dX5_tieToBlocks_81 : decode cX5_tieToBlocks 81 = .ok (.putfield 25, 3) := by decide +kernel
theorem dX5_tieToBlocks_84 : decode cX5_tieToBlocks 84 = .ok (.aload_n 0, 1) := by decide +kernel
theorem dX5_tieToBlocks_85 : decode cX5_tieToBlocks 85 = .ok (.dup, 1) := by decide +kernel
theorem dX5_tieToBlocks_86 : decode cX5_tieToBlocks 86 = .ok (.getfield 22, 3) := by decide +kernel
theorem dX5_tieToBlocks_89 : decode cX5_tieToBlocks 89 = .ok (.iconst 1, 1) := by decide +kernel
theorem dX5_tieToBlocks_90 : decode cX5_tieToBlocks 90 = .ok (.iadd, 1) := by decide +kernel
theorem dX5_tieToBlocks_91 : decode cX5_tieToBlocks 91 = .ok (.putfield 22, 3) := by decide +kernel
theorem dX5_tieToBlocks_94 : decode cX5_tieToBlocks 94 = .ok (.goto 29, 3) := by decide +kernel
theorem dX5_tieToBlocks_97 : decode cX5_tieToBlocks 97 = .ok (.aload_n 0, 1) := by decide +kernel
theorem dX5_tieToBlocks_98 : decode cX5_tieToBlocks 98 = .ok (.getfield 25, 3) := by decide +kernel
theorem dX5_tieToBlocks_101 : decode cX5_tieToBlocks 101 = .ok (.ifnull 22, 3) := by decide +kernel
theorem dX5_tieToBlocks_104 : decode cX5_tieToBlocks 104 = .ok (.aload_n 0, 1) := by decide +kernel
theorem dX5_tieToBlocks_105 : decode cX5_tieToBlocks 105 = .ok (.getfield 25, 3) := by decide +kernel
theorem dX5_tieToBlocks_108 : decode cX5_tieToBlocks 108 = .ok (.aload_n 1, 1) := by decide +kernel
theorem dX5_tieToBlocks_109 : decode cX5_tieToBlocks 109 = .ok (.invokevirtual 68, 3) := by decide +kernel
theorem dX5_tieToBlocks_112 : decode cX5_tieToBlocks 112 = .ok (.goto 11, 3) := by decide +kernel
theorem dX5_tieToBlocks_115 : decode cX5_tieToBlocks 115 = .ok (.aload_n 0, 1) := by decide +kernel
theorem dX5_tieToBlocks_116 : decode cX5_tieToBlocks 116 = .ok (.aload_n 1, 1) := by decide +kernel
theorem dX5_tieToBlocks_117 : decode cX5_tieToBlocks 117 = .ok (.invokevirtual 71, 3) := by decide +kernel
theorem dX5_tieToBlocks_120 : decode cX5_tieToBlocks 120 = .ok (.goto 3, 3) := by decide +kernel
theorem dX5_tieToBlocks_123 : decode cX5_tieToBlocks 123 = .ok (.return_, 1) := by decide +kernel
theorem dX5_closeInnermost_0 : decode cX5_closeInnermost 0 = .ok (.aload_n 0, 1) := by decide +kernel
theorem dX5_closeInnermost_1 : decode cX5_closeInnermost 1 = .ok (.getfield 25, 3) := by decide +kernel
theorem dX5_closeInnermost_4 : decode cX5_closeInnermost 4 = .ok (.ifnull 46, 3) := by decide +kernel
theorem dX5_closeInnermost_7 : decode cX5_closeInnermost 7 = .ok (.aload_n 0, 1) := by decide +kernel
theorem dX5_closeInnermost_8 : decode cX5_closeInnermost 8 = .ok (.getfield 25, 3) := by decide +kernel
theorem dX5_closeInnermost_11 : decode cX5_closeInnermost 11 = .ok (.aload_n 1, 1) := by decide +kernel
theorem dX5_closeInnermost_12 : decode cX5_closeInnermost 12 = .ok (.invokevirtual 68, 3) := by decide +kernel
theorem dX5_closeInnermost_15 : decode cX5_closeInnermost 15 = .ok (.aload_n 0, 1) := by decide +kernel
theorem dX5_closeInnermost_16 : decode cX5_closeInnermost 16 = .ok (.getfield 25, 3) := by decide +kernel
theorem dX5_closeInnermost_19 : decode cX5_closeInnermost 19 = .ok (.getfield 52, 3) := by decide +kernel
theorem dX5_closeInnermost_22 : decode cX5_closeInnermost 22 = .ok (.aload_n 1, 1) := by decide +kernel
theorem dX5_closeInnermost_23 : decode cX5_closeInnermost 23 = .ok (.getfield 74, 3) := by decide +kernel
theorem dX5_closeInnermost_26 : decode cX5_closeInnermost 26 = .ok (.putfield 75, 3) := by decide +kernel
theorem dX5_closeInnermost_29 : decode cX5_closeInnermost 29 = .ok (.aload_n 0, 1) := by decide +kernel
theorem dX5_closeInnermost_30 : decode cX5_closeInnermost 30 = .ok (.aload_n 0, 1) := by decide +kernel
theorem dX5_closeInnermost_31 : decode cX5_closeInnermost 31 = .ok (.getfield 25, 3) := by decide +kernel
theorem dX5_closeInnermost_34 : decode cX5_closeInnermost 34 = .ok (.getfield 62, 3) := by decide +kernel
theorem dX5_closeInnermost_37 : decode cX5_closeInnermost 37 = .ok (.putfield 25, 3) := by decide +kernel
theorem dX5_closeInnermost_40 : decode cX5_closeInnermost 40 = .ok (.aload_n 0, 1) := by decide +kernel
theorem dX5_closeInnermost_41 : decode cX5_closeInnermost 41 = .ok (.dup, 1) := by decide +kernel
theorem dX5_closeInnermost_42 : decode cX5_closeInnermost 42 = .ok (.getfield 22, 3) := by decide +kernel
theorem dX5_closeInnermost_45 : decode cX5_closeInnermost 45 = .ok (.iconst 1, 1) := by decide +kernel
theorem dX5_closeInnermost_46 : decode cX5_closeInnermost 46 = .ok (.isub, 1) := by decide +kernel
theorem dX5_closeInnermost_47 : decode cX5_closeInnermost 47 = .ok (.putfield 22, 3) := by decide +kernel
theorem dX5_closeInnermost_50 : decode cX5_closeInnermost 50 = .ok (.return_, 1) := by decide +kernel
theorem dX6_init_0 : decode cX6_init 0 = .ok (.aload_n 0, 1) := by decide +kernel
theorem dX6_init_1 : decode cX6_init 1 = .ok (.invokespecial 1, 3) := by decide +kernel
theorem dX6_init_4 : decode cX6_init 4 = .ok (.aload_n 0, 1) := by decide +kernel
theorem dX6_init_5 : decode cX6_init 5 = .ok (.iload_n 1, 1) := by decide +kernel
theorem dX6_init_6 : decode cX6_init 6 = .ok (.putfield 7, 3) := by decide +kernel
theorem dX6_init_9 : decode cX6_init 9 = .ok (.aload_n 0, 1) := by decide +kernel
theorem dX6_init_10 : decode cX6_init 10 = .ok (.bipush 16, 2) := by decide +kernel
theorem dX6_init_12 : decode cX6_init 12 = .ok (.newarray .double, 2) := by decide +kernel
theorem dX6_init_14 : decode cX6_init 14 = .ok (.putfield 13, 3) := by decide +kernel
theorem dX6_init_17 : decode cX6_init 17 = .ok (.aload_n 0, 1) := by decide +kernel
theorem dX6_init_18 : decode cX6_init 18 = .ok (.bipush 16, 2) := by decide +kernel
theorem dX6_init_20 : decode cX6_init 20 = .ok (.newarray .boolean, 2) := by decide +kernel
theorem dX6_init_22 : decode cX6_init 22 = .ok (.putfield 17, 3) := by decide +kernel
theorem dX6_init_25 : decode cX6_init 25 = .ok (.aload_n 0, 1) := by decide +kernel
theorem dX6_init_26 : decode cX6_init 26 = .ok (.iconst (-1), 1) := by decide +kernel
theorem dX6_init_27 : decode cX6_init 27 = .ok (.putfield 21, 3) := by decide +kernel
theorem dX6_init_30 : decode cX6_init 30 = .ok (.return_, 1) := by decide +kernel
theorem dX6_make_0 : decode cX6_make 0 = .ok (.iload_n 1, 1) := by decide +kernel
theorem dX6_make_1 : decode cX6_make 1 = .ok (.bipush 16, 2) := by decide +kernel
theorem dX6_make_3 : decode cX6_make 3 = .ok (.if_icmp .le 6, 3) := by decide +kernel
theorem dX6_make_6 : decode cX6_make 6 = .ok (.bipush 8, 2) := by decide +kernel
theorem dX6_make_8 : decode cX6_make 8 = .ok (.ireturn, 1) := by decide +kernel
theorem dX6_make_9 : decode cX6_make 9 = .ok (.iload_n 1, 1) := by decide +kernel
theorem dX6_make_10 : decode cX6_make 10 = .ok (.ifCond .ge 5, 3) := by decide +kernel
theorem dX6_make_13 : decode cX6_make 13 = .ok (.iconst 5, 1) := by decide +kernel
theorem dX6_make_14 : decode cX6_make 14 = .ok (.ireturn, 1) := by decide +kernel
theorem dX6_make_15 : decode cX6_make 15 = .ok (.iconst 0, 1) := by decide +kernel
theorem dX6_make_16 : decode cX6_make 16 = .ok (.istore_n 2, 1) := by decide +kernel
theorem dX6_make_17 : decode cX6_make 17 = .ok (.iload_n 2, 1) := by decide +kernel
theorem dX6_make_18 : decode cX6_make 18 = .ok (.iload_n 1, 1) := by decide +kernel
theorem dX6_make_19 : decode cX6_make 19 = .ok (.if_icmp .ge 36, 3) := by decide +kernel
theorem dX6_make_22 : decode cX6_make 22 = .ok (.aload_n 0, 1) := by decide +kernel
theorem dX6_make_23 : decode cX6_make 23 = .ok (.getfield 13, 3) := by decide +kernel
theorem dX6_make_26 : decode cX6_make 26 = .ok (.iload_n 2, 1) := by decide +kernel
theorem dX6_make_27 : decode cX6_make 27 = .ok (.dconst 0, 1) := by decide +kernel
theorem dX6_make_28 : decode cX6_make 28 = .ok (.dastore, 1) := by decide +kernel
theorem dX6_make_29 : decode cX6_make 29 = .ok (.aload_n 0, 1) := by decide +kernel
theorem dX6_make_30 : decode cX6_make 30 = .ok (.getfield 17, 3) := by decide +kernel
theorem dX6_make_33 : decode cX6_make 33 = .ok (.iload_n 2, 1) := by decide +kernel
theorem dX6_make_34 : decode cX6_make 34 = .ok (.aload_n 0, 1) := by decide +kernel
theorem dX6_make_35 : decode cX6_make 35 = .ok (.getfield 7, 3) := by decide +kernel
theorem dX6_make_38 : decode cX6_make 38 = .ok (.bipush 8, 2) := by decide +kernel
theorem dX6_make_40 : decode cX6_make 40 = .ok (.if_icmp .eq 7, 3) := by decide +kernel
theorem dX6_make_43 : decode cX6_make 43 = .ok (.iconst 1, 1) := by decide +kernel
theorem dX6_make_44 : decode cX6_make 44 = .ok (.goto 4, 3) := by decide +kernel
theorem dX6_make_47 : decode cX6_make 47 = .ok (.iconst 0, 1) := by decide +kernel
theorem dX6_make_48 : decode cX6_make 48 = .ok (.bastore, 1) := by decide +kernel
theorem dX6_make_49 : decode cX6_make 49 = .ok (.iinc 2 1, 3) := by decide +kernel
theorem dX6_make_52 : decode cX6_make 52 = .ok (.goto (-35), 3) := by decide +kernel
theorem dX6_make_55 : decode cX6_make 55 = .ok (.aload_n 0, 1) := by decide +kernel
theorem dX6_make_56 : decode cX6_make 56 = .ok (.iload_n 1, 1) := by decide +kernel
theorem dX6_make_57 : decode cX6_make 57 = .ok (.putfield 21, 3) := by decide +kernel
theorem dX6_make_60 : decode cX6_make 60 = .ok (.iconst 0, 1) := by decide +kernel
theorem dX6_make_61 : decode cX6_make 61 = .ok (.ireturn, 1) := by decide +kernel
theorem dX6_drop_0 : decode cX6_drop 0 = .ok (.aload_n 0, 1) := by decide +kernel
theorem dX6_drop_1 : decode cX6_drop 1 = .ok (.iconst (-1), 1) := by decide +kernel
theorem dX6_drop_2 : decode cX6_drop 2 = .ok (.putfield 21, 3) := by decide +kernel
theorem dX6_drop_5 : decode cX6_drop 5 = .ok (.return_, 1) := by decide +kernel
theorem dX6_faultAt_0 : decode cX6_faultAt 0 = .ok (.aload_n 0, 1) := by decide +kernel
theorem dX6_faultAt_1 : decode cX6_faultAt 1 = .ok (.getfield 21, 3) := by decide +kernel
theorem dX6_faultAt_4 : decode cX6_faultAt 4 = .ok (.ifCond .ge 5, 3) := by decide +kernel
theorem dX6_faultAt_7 : decode cX6_faultAt 7 = .ok (.iconst 3, 1) := by decide +kernel
theorem dX6_faultAt_8 : decode cX6_faultAt 8 = .ok (.ireturn, 1) := by decide +kernel
theorem dX6_faultAt_9 : decode cX6_faultAt 9 = .ok (.iload_n 1, 1) := by decide +kernel
theorem dX6_faultAt_10 : decode cX6_faultAt 10 = .ok (.ifCond .lt 17, 3) := by decide +kernel
theorem dX6_faultAt_13 : decode cX6_faultAt 13 = .ok (.iload_n 1, 1) := by decide +kernel
theorem dX6_faultAt_14 : decode cX6_faultAt 14 = .ok (.aload_n 0, 1) := by decide +kernel
theorem dX6_faultAt_15 : decode cX6_faultAt 15 = .ok (.getfield 21, 3) := by decide +kernel
theorem dX6_faultAt_18 : decode cX6_faultAt 18 = .ok (.if_icmp .ge 9, 3) := by decide +kernel
theorem dX6_faultAt_21 : decode cX6_faultAt 21 = .ok (.iload_n 1, 1) := by decide +kernel
theorem dX6_faultAt_22 : decode cX6_faultAt 22 = .ok (.bipush 16, 2) := by decide +kernel
theorem dX6_faultAt_24 : decode cX6_faultAt 24 = .ok (.if_icmp .lt 5, 3) := by decide +kernel
theorem dX6_faultAt_27 : decode cX6_faultAt 27 = .ok (.iconst 4, 1) := by decide +kernel
theorem dX6_faultAt_28 : decode cX6_faultAt 28 = .ok (.ireturn, 1) := by decide +kernel
theorem dX6_faultAt_29 : decode cX6_faultAt 29 = .ok (.iload_n 2, 1) := by decide +kernel
theorem dX6_faultAt_30 : decode cX6_faultAt 30 = .ok (.ifCond .ne 12, 3) := by decide +kernel
theorem dX6_faultAt_33 : decode cX6_faultAt 33 = .ok (.aload_n 0, 1) := by decide +kernel
theorem dX6_faultAt_34 : decode cX6_faultAt 34 = .ok (.getfield 17, 3) := by decide +kernel
theorem dX6_faultAt_37 : decode cX6_faultAt 37 = .ok (.iload_n 1, 1) := by decide +kernel
theorem dX6_faultAt_38 : decode cX6_faultAt 38 = .ok (.baload, 1) := by decide +kernel
theorem dX6_faultAt_39 : decode cX6_faultAt 39 = .ok (.ifCond .eq 7, 3) := by decide +kernel
theorem dX6_faultAt_42 : decode cX6_faultAt 42 = .ok (.iconst 0, 1) := by decide +kernel
theorem dX6_faultAt_43 : decode cX6_faultAt 43 = .ok (.goto 4, 3) := by decide +kernel
theorem dX6_faultAt_46 : decode cX6_faultAt 46 = .ok (.iconst 3, 1) := by decide +kernel
theorem dX6_faultAt_47 : decode cX6_faultAt 47 = .ok (.ireturn, 1) := by decide +kernel
theorem dX6_got_0 : decode cX6_got 0 = .ok (.aload_n 0, 1) := by decide +kernel
theorem dX6_got_1 : decode cX6_got 1 = .ok (.iload_n 1, 1) := by decide +kernel
theorem dX6_got_2 : decode cX6_got 2 = .ok (.iconst 0, 1) := by decide +kernel
theorem dX6_got_3 : decode cX6_got 3 = .ok (.invokevirtual 26, 3) := by decide +kernel
theorem dX6_got_6 : decode cX6_got 6 = .ok (.ifCond .ne 12, 3) := by decide +kernel
theorem dX6_got_9 : decode cX6_got 9 = .ok (.aload_n 0, 1) := by decide +kernel
theorem dX6_got_10 : decode cX6_got 10 = .ok (.getfield 13, 3) := by decide +kernel
theorem dX6_got_13 : decode cX6_got 13 = .ok (.iload_n 1, 1) := by decide +kernel
theorem dX6_got_14 : decode cX6_got 14 = .ok (.daload, 1) := by decide +kernel
theorem dX6_got_15 : decode cX6_got 15 = .ok (.goto 4, 3) := by decide +kernel
theorem dX6_got_18 : decode cX6_got 18 = .ok (.dconst 0, 1) := by decide +kernel
theorem dX6_got_19 : decode cX6_got 19 = .ok (.dreturn, 1) := by decide +kernel
theorem dX6_put_0 : decode cX6_put 0 = .ok (.aload_n 0, 1) := by decide +kernel
theorem dX6_put_1 : decode cX6_put 1 = .ok (.iload_n 1, 1) := by decide +kernel
theorem dX6_put_2 : decode cX6_put 2 = .ok (.iconst 0, 1) := by decide +kernel
theorem dX6_put_3 : decode cX6_put 3 = .ok (.invokevirtual 26, 3) := by decide +kernel
theorem dX6_put_6 : decode cX6_put 6 = .ok (.istore 4, 2) := by decide +kernel
theorem dX6_put_8 : decode cX6_put 8 = .ok (.iload 4, 2) := by decide +kernel
theorem dX6_put_10 : decode cX6_put 10 = .ok (.ifCond .ne 14, 3) := by decide +kernel
theorem dX6_put_13 : decode cX6_put 13 = .ok (.aload_n 0, 1) := by decide +kernel
theorem dX6_put_14 : decode cX6_put 14 = .ok (.getfield 13, 3) := by decide +kernel
theorem dX6_put_17 : decode cX6_put 17 = .ok (.iload_n 1, 1) := by decide +kernel
theorem dX6_put_18 : decode cX6_put 18 = .ok (.aload_n 0, 1) := by decide +kernel
theorem dX6_put_19 : decode cX6_put 19 = .ok (.dload_n 2, 1) := by decide +kernel
theorem dX6_put_20 : decode cX6_put 20 = .ok (.invokevirtual 30, 3) := by decide +kernel
theorem dX6_put_23 : decode cX6_put 23 = .ok (.dastore, 1) := by decide +kernel
theorem dX6_put_24 : decode cX6_put 24 = .ok (.iload 4, 2) := by decide +kernel
theorem dX6_put_26 : decode cX6_put 26 = .ok (.ireturn, 1) := by decide +kernel
theorem dX6_fit_0 : decode cX6_fit 0 = .ok (.aload_n 0, 1) := by decide +kernel
theorem dX6_fit_1 : decode cX6_fit 1 = .ok (.iload_n 1, 1) := by decide +kernel
theorem dX6_fit_2 : decode cX6_fit 2 = .ok (.iconst 1, 1) := by decide +kernel
theorem dX6_fit_3 : decode cX6_fit 3 = .ok (.invokevirtual 26, 3) := by decide +kernel
theorem dX6_fit_6 : decode cX6_fit 6 = .ok (.istore_n 2, 1) := by decide +kernel
theorem dX6_fit_7 : decode cX6_fit 7 = .ok (.iload_n 2, 1) := by decide +kernel
theorem dX6_fit_8 : decode cX6_fit 8 = .ok (.ifCond .ne 17, 3) := by decide +kernel
theorem dX6_fit_11 : decode cX6_fit 11 = .ok (.aload_n 0, 1) := by decide +kernel
theorem dX6_fit_12 : decode cX6_fit 12 = .ok (.getfield 13, 3) := by decide +kernel
theorem dX6_fit_15 : decode cX6_fit 15 = .ok (.iload_n 1, 1) := by decide +kernel
theorem dX6_fit_16 : decode cX6_fit 16 = .ok (.dconst 0, 1) := by decide +kernel
theorem dX6_fit_17 : decode cX6_fit 17 = .ok (.dastore, 1) := by decide +kernel
theorem dX6_fit_18 : decode cX6_fit 18 = .ok (.aload_n 0, 1) := by decide +kernel
theorem dX6_fit_19 : decode cX6_fit 19 = .ok (.getfield 17, 3) := by decide +kernel
theorem dX6_fit_22 : decode cX6_fit 22 = .ok (.iload_n 1, 1) := by decide +kernel
theorem dX6_fit_23 : decode cX6_fit 23 = .ok (.iconst 1, 1) := by decide +kernel
theorem dX6_fit_24 : decode cX6_fit 24 = .ok (.bastore, 1) := by decide +kernel
theorem dX6_fit_25 : decode cX6_fit 25 = .ok (.iload_n 2, 1) := by decide +kernel
theorem dX6_fit_26 : decode cX6_fit 26 = .ok (.ireturn, 1) := by decide +kernel
theorem dX6_holdsProbe_0 : decode cX6_holdsProbe 0 = .ok (.aload_n 0, 1) := by decide +kernel
theorem dX6_holdsProbe_1 : decode cX6_holdsProbe 1 = .ok (.getfield 7, 3) := by decide +kernel
theorem dX6_holdsProbe_4 : decode cX6_holdsProbe 4 = .ok (.bipush 8, 2) := by decide +kernel
theorem dX6_holdsProbe_6 : decode cX6_holdsProbe 6 = .ok (.if_icmp .ne 16, 3) := by decide +kernel
theorem dX6_holdsProbe_9 : decode cX6_holdsProbe 9 = .ok (.aload_n 0, 1) := by decide +kernel
theorem dX6_holdsProbe_10 : decode cX6_holdsProbe 10 = .ok (.iload_n 1, 1) := by decide +kernel
theorem dX6_holdsProbe_11 : decode cX6_holdsProbe 11 = .ok (.iconst 0, 1) := by decide +kernel
theorem dX6_holdsProbe_12 : decode cX6_holdsProbe 12 = .ok (.invokevirtual 26, 3) := by decide +kernel
theorem dX6_holdsProbe_15 : decode cX6_holdsProbe 15 = .ok (.ifCond .ne 7, 3) := by decide +kernel
theorem dX6_holdsProbe_18 : decode cX6_holdsProbe 18 = .ok (.iconst 1, 1) := by decide +kernel
theorem dX6_holdsProbe_19 : decode cX6_holdsProbe 19 = .ok (.goto 4, 3) := by decide +kernel
theorem dX6_holdsProbe_22 : decode cX6_holdsProbe 22 = .ok (.iconst 0, 1) := by decide +kernel
theorem dX6_holdsProbe_23 : decode cX6_holdsProbe 23 = .ok (.ireturn, 1) := by decide +kernel
theorem dX6_asHeld_0 : decode cX6_asHeld 0 = .ok (.aload_n 0, 1) := by decide +kernel
theorem dX6_asHeld_1 : decode cX6_asHeld 1 = .ok (.getfield 7, 3) := by decide +kernel
theorem dX6_asHeld_4 : decode cX6_asHeld 4 = .ok (.tableswitch 83 0 6 #[44, 56, 61, 66, 71, 75, 79], 44) := by decide +kernel
theorem dX6_asHeld_48 : decode cX6_asHeld 48 = .ok (.dload_n 1, 1) := by decide +kernel
theorem dX6_asHeld_49 : decode cX6_asHeld 49 = .ok (.dconst 0, 1) := by decide +kernel
theorem dX6_asHeld_50 : decode cX6_asHeld 50 = .ok (.dcmp .l, 1) := by decide +kernel
theorem dX6_asHeld_51 : decode cX6_asHeld 51 = .ok (.ifCond .eq 7, 3) := by decide +kernel
theorem dX6_asHeld_54 : decode cX6_asHeld 54 = .ok (.dconst 1, 1) := by decide +kernel
theorem dX6_asHeld_55 : decode cX6_asHeld 55 = .ok (.goto 4, 3) := by decide +kernel
theorem dX6_asHeld_58 : decode cX6_asHeld 58 = .ok (.dconst 0, 1) := by decide +kernel
theorem dX6_asHeld_59 : decode cX6_asHeld 59 = .ok (.dreturn, 1) := by decide +kernel
theorem dX6_asHeld_60 : decode cX6_asHeld 60 = .ok (.dload_n 1, 1) := by decide +kernel
theorem dX6_asHeld_61 : decode cX6_asHeld 61 = .ok (.d2i, 1) := by decide +kernel
theorem dX6_asHeld_62 : decode cX6_asHeld 62 = .ok (.i2b, 1) := by decide +kernel
theorem dX6_asHeld_63 : decode cX6_asHeld 63 = .ok (.i2d, 1) := by decide +kernel
theorem dX6_asHeld_64 : decode cX6_asHeld 64 = .ok (.dreturn, 1) := by decide +kernel
theorem dX6_asHeld_65 : decode cX6_asHeld 65 = .ok (.dload_n 1, 1) := by decide +kernel
theorem dX6_asHeld_66 : decode cX6_asHeld 66 = .ok (.d2i, 1) := by decide +kernel
theorem dX6_asHeld_67 : decode cX6_asHeld 67 = .ok (.i2c, 1) := by decide +kernel
theorem dX6_asHeld_68 : decode cX6_asHeld 68 = .ok (.i2d, 1) := by decide +kernel
theorem dX6_asHeld_69 : decode cX6_asHeld 69 = .ok (.dreturn, 1) := by decide +kernel
theorem dX6_asHeld_70 : decode cX6_asHeld 70 = .ok (.dload_n 1, 1) := by decide +kernel
theorem dX6_asHeld_71 : decode cX6_asHeld 71 = .ok (.d2i, 1) := by decide +kernel
theorem dX6_asHeld_72 : decode cX6_asHeld 72 = .ok (.i2s, 1) := by decide +kernel
theorem dX6_asHeld_73 : decode cX6_asHeld 73 = .ok (.i2d, 1) := by decide +kernel
theorem dX6_asHeld_74 : decode cX6_asHeld 74 = .ok (.dreturn, 1) := by decide +kernel
theorem dX6_asHeld_75 : decode cX6_asHeld 75 = .ok (.dload_n 1, 1) := by decide +kernel
theorem dX6_asHeld_76 : decode cX6_asHeld 76 = .ok (.d2i, 1) := by decide +kernel
theorem dX6_asHeld_77 : decode cX6_asHeld 77 = .ok (.i2d, 1) := by decide +kernel
theorem dX6_asHeld_78 : decode cX6_asHeld 78 = .ok (.dreturn, 1) := by decide +kernel
theorem dX6_asHeld_79 : decode cX6_asHeld 79 = .ok (.dload_n 1, 1) := by decide +kernel
theorem dX6_asHeld_80 : decode cX6_asHeld 80 = .ok (.d2l, 1) := by decide +kernel
theorem dX6_asHeld_81 : decode cX6_asHeld 81 = .ok (.l2d, 1) := by decide +kernel
theorem dX6_asHeld_82 : decode cX6_asHeld 82 = .ok (.dreturn, 1) := by decide +kernel
theorem dX6_asHeld_83 : decode cX6_asHeld 83 = .ok (.dload_n 1, 1) := by decide +kernel
theorem dX6_asHeld_84 : decode cX6_asHeld 84 = .ok (.d2f, 1) := by decide +kernel
theorem dX6_asHeld_85 : decode cX6_asHeld 85 = .ok (.f2d, 1) := by decide +kernel
theorem dX6_asHeld_86 : decode cX6_asHeld 86 = .ok (.dreturn, 1) := by decide +kernel
theorem dX6_asHeld_87 : decode cX6_asHeld 87 = .ok (.dload_n 1, 1) := by decide +kernel
theorem dX6_asHeld_88 : decode cX6_asHeld 88 = .ok (.dreturn, 1) := by decide +kernel
theorem dX7_init_0 : decode cX7_init 0 = .ok (.aload_n 0, 1) := by decide +kernel
theorem dX7_init_1 : decode cX7_init 1 = .ok (.invokespecial 1, 3) := by decide +kernel
theorem dX7_init_4 : decode cX7_init 4 = .ok (.aload_n 0, 1) := by decide +kernel
theorem dX7_init_5 : decode cX7_init 5 = .ok (.iload_n 1, 1) := by decide +kernel
theorem dX7_init_6 : decode cX7_init 6 = .ok (.putfield 7, 3) := by decide +kernel
theorem dX7_init_9 : decode cX7_init 9 = .ok (.aload_n 0, 1) := by decide +kernel
theorem dX7_init_10 : decode cX7_init 10 = .ok (.iload_n 2, 1) := by decide +kernel
theorem dX7_init_11 : decode cX7_init 11 = .ok (.putfield 13, 3) := by decide +kernel
theorem dX7_init_14 : decode cX7_init 14 = .ok (.aload_n 0, 1) := by decide +kernel
theorem dX7_init_15 : decode cX7_init 15 = .ok (.iload_n 3, 1) := by decide +kernel
theorem dX7_init_16 : decode cX7_init 16 = .ok (.putfield 16, 3) := by decide +kernel
theorem dX7_init_19 : decode cX7_init 19 = .ok (.aload_n 0, 1) := by decide +kernel
theorem dX7_init_20 : decode cX7_init 20 = .ok (.iload 4, 2) := by decide +kernel
theorem dX7_init_22 : decode cX7_init 22 = .ok (.putfield 19, 3) := by decide +kernel
theorem dX7_init_25 : decode cX7_init 25 = .ok (.aload_n 0, 1) := by decide +kernel
theorem dX7_init_26 : decode cX7_init 26 = .ok (.iload 5, 2) := by decide +kernel
theorem dX7_init_28 : decode cX7_init 28 = .ok (.putfield 22, 3) := by decide +kernel
theorem dX7_init_31 : decode cX7_init 31 = .ok (.aload_n 0, 1) := by decide +kernel
theorem dX7_init_32 : decode cX7_init 32 = .ok (.iload 6, 2) := by decide +kernel
theorem dX7_init_34 : decode cX7_init 34 = .ok (.putfield 25, 3) := by decide +kernel
theorem dX7_init_37 : decode cX7_init 37 = .ok (.aload_n 0, 1) := by decide +kernel
theorem dX7_init_38 : decode cX7_init 38 = .ok (.iload 5, 2) := by decide +kernel
theorem dX7_init_40 : decode cX7_init 40 = .ok (.putfield 28, 3) := by decide +kernel
theorem dX7_init_43 : decode cX7_init 43 = .ok (.return_, 1) := by decide +kernel
theorem dX7_isTold_0 : decode cX7_isTold 0 = .ok (.iload_n 0, 1) := by decide +kernel
theorem dX7_isTold_1 : decode cX7_isTold 1 = .ok (.ifCond .lt 56, 3) := by decide +kernel
theorem dX7_isTold_4 : decode cX7_isTold 4 = .ok (.iload_n 0, 1) := by decide +kernel
theorem dX7_isTold_5 : decode cX7_isTold 5 = .ok (.bipush 24, 2) := by decide +kernel
theorem dX7_isTold_7 : decode cX7_isTold 7 = .ok (.if_icmp .gt 50, 3) := by decide +kernel
theorem dX7_isTold_10 : decode cX7_isTold 10 = .ok (.iload_n 1, 1) := by decide +kernel
theorem dX7_isTold_11 : decode cX7_isTold 11 = .ok (.getstatic 31, 3) := by decide +kernel
theorem dX7_isTold_14 : decode cX7_isTold 14 = .ok (.iload_n 0, 1) := by decide +kernel
theorem dX7_isTold_15 : decode cX7_isTold 15 = .ok (.iaload, 1) := by decide +kernel
theorem dX7_isTold_16 : decode cX7_isTold 16 = .ok (.getstatic 35, 3) := by decide +kernel
theorem dX7_isTold_19 : decode cX7_isTold 19 = .ok (.iload_n 0, 1) := by decide +kernel
theorem dX7_isTold_20 : decode cX7_isTold 20 = .ok (.iaload, 1) := by decide +kernel
theorem dX7_isTold_21 : decode cX7_isTold 21 = .ok (.invokestatic 38, 3) := by decide +kernel
theorem dX7_isTold_24 : decode cX7_isTold 24 = .ok (.ifCond .eq 33, 3) := by decide +kernel
theorem dX7_isTold_27 : decode cX7_isTold 27 = .ok (.iload_n 2, 1) := by decide +kernel
theorem dX7_isTold_28 : decode cX7_isTold 28 = .ok (.iconst 0, 1) := by decide +kernel
theorem dX7_isTold_29 : decode cX7_isTold 29 = .ok (.getstatic 42, 3) := by decide +kernel
theorem dX7_isTold_32 : decode cX7_isTold 32 = .ok (.iload_n 0, 1) := by decide +kernel
theorem dX7_isTold_33 : decode cX7_isTold 33 = .ok (.iaload, 1) := by decide +kernel
theorem dX7_isTold_34 : decode cX7_isTold 34 = .ok (.invokestatic 38, 3) := by decide +kernel
theorem dX7_isTold_37 : decode cX7_isTold 37 = .ok (.ifCond .eq 20, 3) := by decide +kernel
theorem dX7_isTold_40 : decode cX7_isTold 40 = .ok (.iload_n 3, 1) := by decide +kernel
theorem dX7_isTold_41 : decode cX7_isTold 41 = .ok (.iconst 0, 1) := by decide +kernel
theorem dX7_isTold_42 : decode cX7_isTold 42 = .ok (.getstatic 45, 3) := by decide +kernel
theorem dX7_isTold_45 : decode cX7_isTold 45 = .ok (.iload_n 0, 1) := by decide +kernel
theorem dX7_isTold_46 : decode cX7_isTold 46 = .ok (.iaload, 1) := by decide +kernel
theorem dX7_isTold_47 : decode cX7_isTold 47 = .ok (.invokestatic 38, 3) := by decide +kernel
theorem dX7_isTold_50 : decode cX7_isTold 50 = .ok (.ifCond .eq 7, 3) := by decide +kernel
theorem dX7_isTold_53 : decode cX7_isTold 53 = .ok (.iconst 1, 1) := by decide +kernel
theorem dX7_isTold_54 : decode cX7_isTold 54 = .ok (.goto 4, 3) := by decide +kernel
theorem dX7_isTold_57 : decode cX7_isTold 57 = .ok (.iconst 0, 1) := by decide +kernel
theorem dX7_isTold_58 : decode cX7_isTold 58 = .ok (.ireturn, 1) := by decide +kernel
theorem dX7_isWithin_0 : decode cX7_isWithin 0 = .ok (.iload_n 2, 1) := by decide +kernel
theorem dX7_isWithin_1 : decode cX7_isWithin 1 = .ok (.ifCond .lt 13, 3) := by decide +kernel
theorem dX7_isWithin_4 : decode cX7_isWithin 4 = .ok (.iload_n 0, 1) := by decide +kernel
theorem dX7_isWithin_5 : decode cX7_isWithin 5 = .ok (.iload_n 1, 1) := by decide +kernel
theorem dX7_isWithin_6 : decode cX7_isWithin 6 = .ok (.if_icmp .lt 12, 3) := by decide +kernel
theorem dX7_isWithin_9 : decode cX7_isWithin 9 = .ok (.iload_n 0, 1) := by decide +kernel
theorem dX7_isWithin_10 : decode cX7_isWithin 10 = .ok (.iload_n 2, 1) := by decide +kernel
theorem dX7_isWithin_11 : decode cX7_isWithin 11 = .ok (.if_icmp .gt 7, 3) := by decide +kernel
theorem dX7_isWithin_14 : decode cX7_isWithin 14 = .ok (.iconst 1, 1) := by decide +kernel
theorem dX7_isWithin_15 : decode cX7_isWithin 15 = .ok (.goto 4, 3) := by decide +kernel
theorem dX7_isWithin_18 : decode cX7_isWithin 18 = .ok (.iconst 0, 1) := by decide +kernel
theorem dX7_isWithin_19 : decode cX7_isWithin 19 = .ok (.ireturn, 1) := by decide +kernel
theorem dX7_partEnd_0 : decode cX7_partEnd 0 = .ok (.aload_n 0, 1) := by decide +kernel
theorem dX7_partEnd_1 : decode cX7_partEnd 1 = .ok (.getfield 48, 3) := by decide +kernel
theorem dX7_partEnd_4 : decode cX7_partEnd 4 = .ok (.ifnonnull 10, 3) := by decide +kernel
theorem dX7_partEnd_7 : decode cX7_partEnd 7 = .ok (.aload_n 0, 1) := by decide +kernel
theorem dX7_partEnd_8 : decode cX7_partEnd 8 = .ok (.getfield 22, 3) := by decide +kernel
theorem dX7_partEnd_11 : decode cX7_partEnd 11 = .ok (.goto 10, 3) := by decide +kernel
theorem dX7_partEnd_14 : decode cX7_partEnd 14 = .ok (.aload_n 0, 1) := by decide +kernel
theorem dX7_partEnd_15 : decode cX7_partEnd 15 = .ok (.getfield 48, 3) := by decide +kernel
theorem dX7_partEnd_18 : decode cX7_partEnd 18 = .ok (.getfield 22, 3) := by decide +kernel
theorem dX7_partEnd_21 : decode cX7_partEnd 21 = .ok (.ireturn, 1) := by decide +kernel
theorem dX7_catchPartFor_0 : decode cX7_catchPartFor 0 = .ok (.aload_n 0, 1) := by decide +kernel
theorem dX7_catchPartFor_1 : decode cX7_catchPartFor 1 = .ok (.getfield 48, 3) := by decide +kernel
theorem dX7_catchPartFor_4 : decode cX7_catchPartFor 4 = .ok (.astore_n 2, 1) := by decide +kernel
theorem dX7_catchPartFor_5 : decode cX7_catchPartFor 5 = .ok (.aload_n 2, 1) := by decide +kernel
theorem dX7_catchPartFor_6 : decode cX7_catchPartFor 6 = .ok (.ifnull 32, 3) := by decide +kernel
theorem dX7_catchPartFor_9 : decode cX7_catchPartFor 9 = .ok (.aload_n 2, 1) := by decide +kernel
theorem dX7_catchPartFor_10 : decode cX7_catchPartFor 10 = .ok (.getfield 7, 3) := by decide +kernel
theorem dX7_catchPartFor_13 : decode cX7_catchPartFor 13 = .ok (.iconst 2, 1) := by decide +kernel
theorem dX7_catchPartFor_14 : decode cX7_catchPartFor 14 = .ok (.if_icmp .ne 24, 3) := by decide +kernel
theorem dX7_catchPartFor_17 : decode cX7_catchPartFor 17 = .ok (.iload_n 1, 1) := by decide +kernel
theorem dX7_catchPartFor_18 : decode cX7_catchPartFor 18 = .ok (.aload_n 2, 1) := by decide +kernel
theorem dX7_catchPartFor_19 : decode cX7_catchPartFor 19 = .ok (.getfield 13, 3) := by decide +kernel
theorem dX7_catchPartFor_22 : decode cX7_catchPartFor 22 = .ok (.invokestatic 52, 3) := by decide +kernel
theorem dX7_catchPartFor_25 : decode cX7_catchPartFor 25 = .ok (.ifCond .eq 5, 3) := by decide +kernel
theorem dX7_catchPartFor_28 : decode cX7_catchPartFor 28 = .ok (.aload_n 2, 1) := by decide +kernel
theorem dX7_catchPartFor_29 : decode cX7_catchPartFor 29 = .ok (.areturn, 1) := by decide +kernel
theorem dX7_catchPartFor_30 : decode cX7_catchPartFor 30 = .ok (.aload_n 2, 1) := by decide +kernel
theorem dX7_catchPartFor_31 : decode cX7_catchPartFor 31 = .ok (.getfield 48, 3) := by decide +kernel
theorem dX7_catchPartFor_34 : decode cX7_catchPartFor 34 = .ok (.astore_n 2, 1) := by decide +kernel
theorem dX7_catchPartFor_35 : decode cX7_catchPartFor 35 = .ok (.goto (-30), 3) := by decide +kernel
theorem dX7_catchPartFor_38 : decode cX7_catchPartFor 38 = .ok (.aconst_null, 1) := by decide +kernel
theorem dX7_catchPartFor_39 : decode cX7_catchPartFor 39 = .ok (.areturn, 1) := by decide +kernel
theorem dX7_finallyPart_0 : decode cX7_finallyPart 0 = .ok (.aload_n 0, 1) := by decide +kernel
theorem dX7_finallyPart_1 : decode cX7_finallyPart 1 = .ok (.getfield 48, 3) := by decide +kernel
theorem dX7_finallyPart_4 : decode cX7_finallyPart 4 = .ok (.astore_n 1, 1) := by decide +kernel
theorem dX7_finallyPart_5 : decode cX7_finallyPart 5 = .ok (.aload_n 1, 1) := by decide +kernel
theorem dX7_finallyPart_6 : decode cX7_finallyPart 6 = .ok (.ifnull 21, 3) := by decide +kernel
theorem dX7_finallyPart_9 : decode cX7_finallyPart 9 = .ok (.aload_n 1, 1) := by decide +kernel
theorem dX7_finallyPart_10 : decode cX7_finallyPart 10 = .ok (.getfield 7, 3) := by decide +kernel
theorem dX7_finallyPart_13 : decode cX7_finallyPart 13 = .ok (.iconst 3, 1) := by decide +kernel
theorem dX7_finallyPart_14 : decode cX7_finallyPart 14 = .ok (.if_icmp .ne 5, 3) := by decide +kernel
theorem dX7_finallyPart_17 : decode cX7_finallyPart 17 = .ok (.aload_n 1, 1) := by decide +kernel
theorem dX7_finallyPart_18 : decode cX7_finallyPart 18 = .ok (.areturn, 1) := by decide +kernel
theorem dX7_finallyPart_19 : decode cX7_finallyPart 19 = .ok (.aload_n 1, 1) := by decide +kernel
theorem dX7_finallyPart_20 : decode cX7_finallyPart 20 = .ok (.getfield 48, 3) := by decide +kernel
theorem dX7_finallyPart_23 : decode cX7_finallyPart 23 = .ok (.astore_n 1, 1) := by decide +kernel
theorem dX7_finallyPart_24 : decode cX7_finallyPart 24 = .ok (.goto (-19), 3) := by decide +kernel
theorem dX7_finallyPart_27 : decode cX7_finallyPart 27 = .ok (.aconst_null, 1) := by decide +kernel
theorem dX7_finallyPart_28 : decode cX7_finallyPart 28 = .ok (.areturn, 1) := by decide +kernel
theorem dX8_divides_0 : decode cX8_divides 0 = .ok (.iload_n 0, 1) := by decide +kernel
theorem dX8_divides_1 : decode cX8_divides 1 = .ok (.iconst 3, 1) := by decide +kernel
theorem dX8_divides_2 : decode cX8_divides 2 = .ok (.if_icmp .eq 8, 3) := by decide +kernel
theorem dX8_divides_5 : decode cX8_divides 5 = .ok (.iload_n 0, 1) := by decide +kernel
theorem dX8_divides_6 : decode cX8_divides 6 = .ok (.iconst 4, 1) := by decide +kernel
theorem dX8_divides_7 : decode cX8_divides 7 = .ok (.if_icmp .ne 7, 3) := by decide +kernel
theorem dX8_divides_10 : decode cX8_divides 10 = .ok (.iconst 1, 1) := by decide +kernel
theorem dX8_divides_11 : decode cX8_divides 11 = .ok (.goto 4, 3) := by decide +kernel
theorem dX8_divides_14 : decode cX8_divides 14 = .ok (.iconst 0, 1) := by decide +kernel
theorem dX8_divides_15 : decode cX8_divides 15 = .ok (.ireturn, 1) := by decide +kernel
theorem dX8_fine_0 : decode cX8_fine 0 = .ok (.iload_n 0, 1) := by decide +kernel
theorem dX8_fine_1 : decode cX8_fine 1 = .ok (.tableswitch 190 0 12 #[67, 71, 75, 79, 83, 89, 103, 117, 135, 149, 154, 161, 166], 67) := by decide +kernel
theorem dX8_fine_68 : decode cX8_fine 68 = .ok (.dload_n 1, 1) := by decide +kernel
theorem dX8_fine_69 : decode cX8_fine 69 = .ok (.dload_n 3, 1) := by decide +kernel
theorem dX8_fine_70 : decode cX8_fine 70 = .ok (.dadd, 1) := by decide +kernel
theorem dX8_fine_71 : decode cX8_fine 71 = .ok (.dreturn, 1) := by decide +kernel
theorem dX8_fine_72 : decode cX8_fine 72 = .ok (.dload_n 1, 1) := by decide +kernel
theorem dX8_fine_73 : decode cX8_fine 73 = .ok (.dload_n 3, 1) := by decide +kernel
theorem dX8_fine_74 : decode cX8_fine 74 = .ok (.dsub, 1) := by decide +kernel
theorem dX8_fine_75 : decode cX8_fine 75 = .ok (.dreturn, 1) := by decide +kernel
theorem dX8_fine_76 : decode cX8_fine 76 = .ok (.dload_n 1, 1) := by decide +kernel
theorem dX8_fine_77 : decode cX8_fine 77 = .ok (.dload_n 3, 1) := by decide +kernel
theorem dX8_fine_78 : decode cX8_fine 78 = .ok (.dmul, 1) := by decide +kernel
theorem dX8_fine_79 : decode cX8_fine 79 = .ok (.dreturn, 1) := by decide +kernel
theorem dX8_fine_80 : decode cX8_fine 80 = .ok (.dload_n 1, 1) := by decide +kernel
theorem dX8_fine_81 : decode cX8_fine 81 = .ok (.dload_n 3, 1) := by decide +kernel
theorem dX8_fine_82 : decode cX8_fine 82 = .ok (.ddiv, 1) := by decide +kernel
theorem dX8_fine_83 : decode cX8_fine 83 = .ok (.dreturn, 1) := by decide +kernel
theorem dX8_fine_84 : decode cX8_fine 84 = .ok (.dload_n 1, 1) := by decide +kernel
theorem dX8_fine_85 : decode cX8_fine 85 = .ok (.dload_n 3, 1) := by decide +kernel
theorem dX8_fine_86 : decode cX8_fine 86 = .ok (.invokestatic 9, 3) := by decide +kernel
theorem dX8_fine_89 : decode cX8_fine 89 = .ok (.dreturn, 1) := by decide +kernel
theorem dX8_fine_90 : decode cX8_fine 90 = .ok (.dload_n 1, 1) := by decide +kernel
theorem dX8_fine_91 : decode cX8_fine 91 = .ok (.dload_n 3, 1) := by decide +kernel
theorem dX8_fine_92 : decode cX8_fine 92 = .ok (.invokestatic 13, 3) := by decide +kernel
theorem dX8_fine_95 : decode cX8_fine 95 = .ok (.ifCond .eq 7, 3) := by decide +kernel
theorem dX8_fine_98 : decode cX8_fine 98 = .ok (.dload_n 1, 1) := by decide +kernel
theorem dX8_fine_99 : decode cX8_fine 99 = .ok (.goto 4, 3) := by decide +kernel
theorem dX8_fine_102 : decode cX8_fine 102 = .ok (.dload_n 3, 1) := by decide +kernel
theorem dX8_fine_103 : decode cX8_fine 103 = .ok (.dreturn, 1) := by decide +kernel
theorem dX8_fine_104 : decode cX8_fine 104 = .ok (.dload_n 1, 1) := by decide +kernel
theorem dX8_fine_105 : decode cX8_fine 105 = .ok (.dload_n 3, 1) := by decide +kernel
theorem dX8_fine_106 : decode cX8_fine 106 = .ok (.invokestatic 13, 3) := by decide +kernel
theorem dX8_fine_109 : decode cX8_fine 109 = .ok (.ifCond .eq 7, 3) := by decide +kernel
theorem dX8_fine_112 : decode cX8_fine 112 = .ok (.dload_n 3, 1) := by decide +kernel
theorem dX8_fine_113 : decode cX8_fine 113 = .ok (.goto 4, 3) := by decide +kernel
theorem dX8_fine_116 : decode cX8_fine 116 = .ok (.dload_n 1, 1) := by decide +kernel
theorem dX8_fine_117 : decode cX8_fine 117 = .ok (.dreturn, 1) := by decide +kernel
theorem dX8_fine_118 : decode cX8_fine 118 = .ok (.dload_n 1, 1) := by decide +kernel
theorem dX8_fine_119 : decode cX8_fine 119 = .ok (.invokestatic 17, 3) := by decide +kernel
theorem dX8_fine_122 : decode cX8_fine 122 = .ok (.dload_n 3, 1) := by decide +kernel
theorem dX8_fine_123 : decode cX8_fine 123 = .ok (.invokestatic 17, 3) := by decide +kernel
theorem dX8_fine_126 : decode cX8_fine 126 = .ok (.if_icmp .ne 7, 3) := by decide +kernel
theorem dX8_fine_129 : decode cX8_fine 129 = .ok (.dload_n 1, 1) := by decide +kernel
theorem dX8_fine_130 : decode cX8_fine 130 = .ok (.goto 5, 3) := by decide +kernel
theorem dX8_fine_133 : decode cX8_fine 133 = .ok (.dload_n 1, 1) := by decide +kernel
theorem dX8_fine_134 : decode cX8_fine 134 = .ok (.dneg, 1) := by decide +kernel
theorem dX8_fine_135 : decode cX8_fine 135 = .ok (.dreturn, 1) := by decide +kernel
theorem dX8_fine_136 : decode cX8_fine 136 = .ok (.dload_n 3, 1) := by decide +kernel
theorem dX8_fine_137 : decode cX8_fine 137 = .ok (.invokestatic 17, 3) := by decide +kernel
theorem dX8_fine_140 : decode cX8_fine 140 = .ok (.ifCond .eq 8, 3) := by decide +kernel
theorem dX8_fine_143 : decode cX8_fine 143 = .ok (.dload_n 3, 1) := by decide +kernel
theorem dX8_fine_144 : decode cX8_fine 144 = .ok (.dneg, 1) := by decide +kernel
theorem dX8_fine_145 : decode cX8_fine 145 = .ok (.goto 4, 3) := by decide +kernel
theorem dX8_fine_148 : decode cX8_fine 148 = .ok (.dload_n 3, 1) := by decide +kernel
theorem dX8_fine_149 : decode cX8_fine 149 = .ok (.dreturn, 1) := by decide +kernel
theorem dX8_fine_150 : decode cX8_fine 150 = .ok (.dload_n 3, 1) := by decide +kernel
theorem dX8_fine_151 : decode cX8_fine 151 = .ok (.invokestatic 21, 3) := by decide +kernel
theorem dX8_fine_154 : decode cX8_fine 154 = .ok (.dreturn, 1) := by decide +kernel
theorem dX8_fine_155 : decode cX8_fine 155 = .ok (.dload_n 3, 1) := by decide +kernel
theorem dX8_fine_156 : decode cX8_fine 156 = .ok (.dneg, 1) := by decide +kernel
theorem dX8_fine_157 : decode cX8_fine 157 = .ok (.invokestatic 21, 3) := by decide +kernel
theorem dX8_fine_160 : decode cX8_fine 160 = .ok (.dneg, 1) := by decide +kernel
theorem dX8_fine_161 : decode cX8_fine 161 = .ok (.dreturn, 1) := by decide +kernel
theorem dX8_fine_162 : decode cX8_fine 162 = .ok (.dload_n 3, 1) := by decide +kernel
theorem dX8_fine_163 : decode cX8_fine 163 = .ok (.invokestatic 25, 3) := by decide +kernel
theorem dX8_fine_166 : decode cX8_fine 166 = .ok (.dreturn, 1) := by decide +kernel
theorem dX8_fine_167 : decode cX8_fine 167 = .ok (.dload_n 3, 1) := by decide +kernel
theorem dX8_fine_168 : decode cX8_fine 168 = .ok (.dconst 0, 1) := by decide +kernel
theorem dX8_fine_169 : decode cX8_fine 169 = .ok (.dcmp .l, 1) := by decide +kernel
theorem dX8_fine_170 : decode cX8_fine 170 = .ok (.ifCond .le 7, 3) := by decide +kernel
theorem dX8_fine_173 : decode cX8_fine 173 = .ok (.dconst 1, 1) := by decide +kernel
theorem dX8_fine_174 : decode cX8_fine 174 = .ok (.goto 16, 3) := by decide +kernel
theorem dX8_fine_177 : decode cX8_fine 177 = .ok (.dload_n 3, 1) := by decide +kernel
theorem dX8_fine_178 : decode cX8_fine 178 = .ok (.dconst 0, 1) := by decide +kernel
theorem dX8_fine_179 : decode cX8_fine 179 = .ok (.dcmp .g, 1) := by decide +kernel
theorem dX8_fine_180 : decode cX8_fine 180 = .ok (.ifCond .ge 9, 3) := by decide +kernel
theorem dX8_fine_183 : decode cX8_fine 183 = .ok (.ldc2_w 28, 3) := by decide +kernel
theorem dX8_fine_186 : decode cX8_fine 186 = .ok (.goto 4, 3) := by decide +kernel
theorem dX8_fine_189 : decode cX8_fine 189 = .ok (.dload_n 3, 1) := by decide +kernel
theorem dX8_fine_190 : decode cX8_fine 190 = .ok (.dreturn, 1) := by decide +kernel
theorem dX8_fine_191 : decode cX8_fine 191 = .ok (.dload_n 3, 1) := by decide +kernel
theorem dX8_fine_192 : decode cX8_fine 192 = .ok (.d2l, 1) := by decide +kernel
theorem dX8_fine_193 : decode cX8_fine 193 = .ok (.l2d, 1) := by decide +kernel
theorem dX8_fine_194 : decode cX8_fine 194 = .ok (.dreturn, 1) := by decide +kernel
theorem dX8_roundsFloats_0 : decode cX8_roundsFloats 0 = .ok (.iload_n 0, 1) := by decide +kernel
theorem dX8_roundsFloats_1 : decode cX8_roundsFloats 1 = .ok (.iconst 3, 1) := by decide +kernel
theorem dX8_roundsFloats_2 : decode cX8_roundsFloats 2 = .ok (.if_icmp .gt 7, 3) := by decide +kernel
theorem dX8_roundsFloats_5 : decode cX8_roundsFloats 5 = .ok (.iconst 1, 1) := by decide +kernel
theorem dX8_roundsFloats_6 : decode cX8_roundsFloats 6 = .ok (.goto 4, 3) := by decide +kernel
theorem dX8_roundsFloats_9 : decode cX8_roundsFloats 9 = .ok (.iconst 0, 1) := by decide +kernel
theorem dX8_roundsFloats_10 : decode cX8_roundsFloats 10 = .ok (.ireturn, 1) := by decide +kernel
theorem dX8_rough_0 : decode cX8_rough 0 = .ok (.iload_n 0, 1) := by decide +kernel
theorem dX8_rough_1 : decode cX8_rough 1 = .ok (.tableswitch 39 0 2 #[27, 31, 35], 27) := by decide +kernel
theorem dX8_rough_28 : decode cX8_rough 28 = .ok (.fload_n 1, 1) := by decide +kernel
theorem dX8_rough_29 : decode cX8_rough 29 = .ok (.fload_n 2, 1) := by decide +kernel
theorem dX8_rough_30 : decode cX8_rough 30 = .ok (.fadd, 1) := by decide +kernel
theorem dX8_rough_31 : decode cX8_rough 31 = .ok (.freturn, 1) := by decide +kernel
theorem dX8_rough_32 : decode cX8_rough 32 = .ok (.fload_n 1, 1) := by decide +kernel
theorem dX8_rough_33 : decode cX8_rough 33 = .ok (.fload_n 2, 1) := by decide +kernel
theorem dX8_rough_34 : decode cX8_rough 34 = .ok (.fsub, 1) := by decide +kernel
theorem dX8_rough_35 : decode cX8_rough 35 = .ok (.freturn, 1) := by decide +kernel
theorem dX8_rough_36 : decode cX8_rough 36 = .ok (.fload_n 1, 1) := by decide +kernel
theorem dX8_rough_37 : decode cX8_rough 37 = .ok (.fload_n 2, 1) := by decide +kernel
theorem dX8_rough_38 : decode cX8_rough 38 = .ok (.fmul, 1) := by decide +kernel
theorem dX8_rough_39 : decode cX8_rough 39 = .ok (.freturn, 1) := by decide +kernel
theorem dX8_rough_40 : decode cX8_rough 40 = .ok (.fload_n 1, 1) := by decide +kernel
theorem dX8_rough_41 : decode cX8_rough 41 = .ok (.fload_n 2, 1) := by decide +kernel
theorem dX8_rough_42 : decode cX8_rough 42 = .ok (.fdiv, 1) := by decide +kernel
theorem dX8_rough_43 : decode cX8_rough 43 = .ok (.freturn, 1) := by decide +kernel
theorem dX8_whole_0 : decode cX8_whole 0 = .ok (.iload_n 0, 1) := by decide +kernel
theorem dX8_whole_1 : decode cX8_whole 1 = .ok (.iload_n 1, 1) := by decide +kernel
theorem dX8_whole_2 : decode cX8_whole 2 = .ok (.i2l, 1) := by decide +kernel
theorem dX8_whole_3 : decode cX8_whole 3 = .ok (.iload_n 2, 1) := by decide +kernel
theorem dX8_whole_4 : decode cX8_whole 4 = .ok (.i2l, 1) := by decide +kernel
theorem dX8_whole_5 : decode cX8_whole 5 = .ok (.invokestatic 30, 3) := by decide +kernel
theorem dX8_whole_8 : decode cX8_whole 8 = .ok (.l2i, 1) := by decide +kernel
theorem dX8_whole_9 : decode cX8_whole 9 = .ok (.ireturn, 1) := by decide +kernel
theorem dX8_wide_0 : decode cX8_wide 0 = .ok (.iload_n 0, 1) := by decide +kernel
theorem dX8_wide_1 : decode cX8_wide 1 = .ok (.tableswitch 91 0 6 #[43, 47, 51, 55, 69, 83, 87], 43) := by decide +kernel
theorem dX8_wide_44 : decode cX8_wide 44 = .ok (.lload_n 1, 1) := by decide +kernel
theorem dX8_wide_45 : decode cX8_wide 45 = .ok (.lload_n 3, 1) := by decide +kernel
theorem dX8_wide_46 : decode cX8_wide 46 = .ok (.ladd, 1) := by decide +kernel
theorem dX8_wide_47 : decode cX8_wide 47 = .ok (.lreturn, 1) := by decide +kernel
theorem dX8_wide_48 : decode cX8_wide 48 = .ok (.lload_n 1, 1) := by decide +kernel
theorem dX8_wide_49 : decode cX8_wide 49 = .ok (.lload_n 3, 1) := by decide +kernel
theorem dX8_wide_50 : decode cX8_wide 50 = .ok (.lsub, 1) := by decide +kernel
theorem dX8_wide_51 : decode cX8_wide 51 = .ok (.lreturn, 1) := by decide +kernel
theorem dX8_wide_52 : decode cX8_wide 52 = .ok (.lload_n 1, 1) := by decide +kernel
theorem dX8_wide_53 : decode cX8_wide 53 = .ok (.lload_n 3, 1) := by decide +kernel
theorem dX8_wide_54 : decode cX8_wide 54 = .ok (.lmul, 1) := by decide +kernel
theorem dX8_wide_55 : decode cX8_wide 55 = .ok (.lreturn, 1) := by decide +kernel
theorem dX8_wide_56 : decode cX8_wide 56 = .ok (.lload_n 3, 1) := by decide +kernel
theorem dX8_wide_57 : decode cX8_wide 57 = .ok (.lconst 0, 1) := by decide +kernel
theorem dX8_wide_58 : decode cX8_wide 58 = .ok (.lcmp, 1) := by decide +kernel
theorem dX8_wide_59 : decode cX8_wide 59 = .ok (.ifCond .ne 7, 3) := by decide +kernel
theorem dX8_wide_62 : decode cX8_wide 62 = .ok (.lconst 0, 1) := by decide +kernel
theorem dX8_wide_63 : decode cX8_wide 63 = .ok (.goto 6, 3) := by decide +kernel
theorem dX8_wide_66 : decode cX8_wide 66 = .ok (.lload_n 1, 1) := by decide +kernel
theorem dX8_wide_67 : decode cX8_wide 67 = .ok (.lload_n 3, 1) := by decide +kernel
theorem dX8_wide_68 : decode cX8_wide 68 = .ok (.ldiv, 1) := by decide +kernel
theorem dX8_wide_69 : decode cX8_wide 69 = .ok (.lreturn, 1) := by decide +kernel
theorem dX8_wide_70 : decode cX8_wide 70 = .ok (.lload_n 3, 1) := by decide +kernel
theorem dX8_wide_71 : decode cX8_wide 71 = .ok (.lconst 0, 1) := by decide +kernel
theorem dX8_wide_72 : decode cX8_wide 72 = .ok (.lcmp, 1) := by decide +kernel
theorem dX8_wide_73 : decode cX8_wide 73 = .ok (.ifCond .ne 7, 3) := by decide +kernel
theorem dX8_wide_76 : decode cX8_wide 76 = .ok (.lconst 0, 1) := by decide +kernel
theorem dX8_wide_77 : decode cX8_wide 77 = .ok (.goto 6, 3) := by decide +kernel
theorem dX8_wide_80 : decode cX8_wide 80 = .ok (.lload_n 1, 1) := by decide +kernel
theorem dX8_wide_81 : decode cX8_wide 81 = .ok (.lload_n 3, 1) := by decide +kernel
theorem dX8_wide_82 : decode cX8_wide 82 = .ok (.lrem, 1) := by decide +kernel
theorem dX8_wide_83 : decode cX8_wide 83 = .ok (.lreturn, 1) := by decide +kernel
theorem dX8_wide_84 : decode cX8_wide 84 = .ok (.lload_n 1, 1) := by decide +kernel
theorem dX8_wide_85 : decode cX8_wide 85 = .ok (.lload_n 3, 1) := by decide +kernel
theorem dX8_wide_86 : decode cX8_wide 86 = .ok (.land, 1) := by decide +kernel
theorem dX8_wide_87 : decode cX8_wide 87 = .ok (.lreturn, 1) := by decide +kernel
theorem dX8_wide_88 : decode cX8_wide 88 = .ok (.lload_n 1, 1) := by decide +kernel
theorem dX8_wide_89 : decode cX8_wide 89 = .ok (.lload_n 3, 1) := by decide +kernel
theorem dX8_wide_90 : decode cX8_wide 90 = .ok (.lor, 1) := by decide +kernel
theorem dX8_wide_91 : decode cX8_wide 91 = .ok (.lreturn, 1) := by decide +kernel
theorem dX8_wide_92 : decode cX8_wide 92 = .ok (.lload_n 1, 1) := by decide +kernel
theorem dX8_wide_93 : decode cX8_wide 93 = .ok (.lload_n 3, 1) := by decide +kernel
theorem dX8_wide_94 : decode cX8_wide 94 = .ok (.lxor, 1) := by decide +kernel
theorem dX8_wide_95 : decode cX8_wide 95 = .ok (.lreturn, 1) := by decide +kernel
theorem dX8_hasMinus_0 : decode cX8_hasMinus 0 = .ok (.dload_n 0, 1) := by decide +kernel
theorem dX8_hasMinus_1 : decode cX8_hasMinus 1 = .ok (.dconst 0, 1) := by decide +kernel
theorem dX8_hasMinus_2 : decode cX8_hasMinus 2 = .ok (.dcmp .g, 1) := by decide +kernel
theorem dX8_hasMinus_3 : decode cX8_hasMinus 3 = .ok (.ifCond .lt 17, 3) := by decide +kernel
theorem dX8_hasMinus_6 : decode cX8_hasMinus 6 = .ok (.dload_n 0, 1) := by decide +kernel
theorem dX8_hasMinus_7 : decode cX8_hasMinus 7 = .ok (.dconst 0, 1) := by decide +kernel
theorem dX8_hasMinus_8 : decode cX8_hasMinus 8 = .ok (.dcmp .l, 1) := by decide +kernel
theorem dX8_hasMinus_9 : decode cX8_hasMinus 9 = .ok (.ifCond .ne 15, 3) := by decide +kernel
theorem dX8_hasMinus_12 : decode cX8_hasMinus 12 = .ok (.dconst 1, 1) := by decide +kernel
theorem dX8_hasMinus_13 : decode cX8_hasMinus 13 = .ok (.dload_n 0, 1) := by decide +kernel
theorem dX8_hasMinus_14 : decode cX8_hasMinus 14 = .ok (.ddiv, 1) := by decide +kernel
theorem dX8_hasMinus_15 : decode cX8_hasMinus 15 = .ok (.dconst 0, 1) := by decide +kernel
theorem dX8_hasMinus_16 : decode cX8_hasMinus 16 = .ok (.dcmp .g, 1) := by decide +kernel
theorem dX8_hasMinus_17 : decode cX8_hasMinus 17 = .ok (.ifCond .ge 7, 3) := by decide +kernel
theorem dX8_hasMinus_20 : decode cX8_hasMinus 20 = .ok (.iconst 1, 1) := by decide +kernel
theorem dX8_hasMinus_21 : decode cX8_hasMinus 21 = .ok (.goto 4, 3) := by decide +kernel
theorem dX8_hasMinus_24 : decode cX8_hasMinus 24 = .ok (.iconst 0, 1) := by decide +kernel
theorem dX8_hasMinus_25 : decode cX8_hasMinus 25 = .ok (.ireturn, 1) := by decide +kernel
theorem dX8_isLess_0 : decode cX8_isLess 0 = .ok (.dload_n 0, 1) := by decide +kernel
theorem dX8_isLess_1 : decode cX8_isLess 1 = .ok (.dload_n 2, 1) := by decide +kernel
theorem dX8_isLess_2 : decode cX8_isLess 2 = .ok (.dcmp .g, 1) := by decide +kernel
theorem dX8_isLess_3 : decode cX8_isLess 3 = .ok (.ifCond .lt 17, 3) := by decide +kernel
theorem dX8_isLess_6 : decode cX8_isLess 6 = .ok (.dload_n 0, 1) := by decide +kernel
theorem dX8_isLess_7 : decode cX8_isLess 7 = .ok (.dload_n 2, 1) := by decide +kernel
theorem dX8_isLess_8 : decode cX8_isLess 8 = .ok (.dcmp .l, 1) := by decide +kernel
theorem dX8_isLess_9 : decode cX8_isLess 9 = .ok (.ifCond .ne 15, 3) := by decide +kernel
theorem dX8_isLess_12 : decode cX8_isLess 12 = .ok (.dconst 1, 1) := by decide +kernel
theorem dX8_isLess_13 : decode cX8_isLess 13 = .ok (.dload_n 0, 1) := by decide +kernel
theorem dX8_isLess_14 : decode cX8_isLess 14 = .ok (.ddiv, 1) := by decide +kernel
theorem dX8_isLess_15 : decode cX8_isLess 15 = .ok (.dconst 0, 1) := by decide +kernel
theorem dX8_isLess_16 : decode cX8_isLess 16 = .ok (.dcmp .g, 1) := by decide +kernel
theorem dX8_isLess_17 : decode cX8_isLess 17 = .ok (.ifCond .ge 7, 3) := by decide +kernel
theorem dX8_isLess_20 : decode cX8_isLess 20 = .ok (.iconst 1, 1) := by decide +kernel
theorem dX8_isLess_21 : decode cX8_isLess 21 = .ok (.goto 4, 3) := by decide +kernel
theorem dX8_isLess_24 : decode cX8_isLess 24 = .ok (.iconst 0, 1) := by decide +kernel
theorem dX8_isLess_25 : decode cX8_isLess 25 = .ok (.ireturn, 1) := by decide +kernel
theorem dX8_wholeBelow_0 : decode cX8_wholeBelow 0 = .ok (.dload_n 0, 1) := by decide +kernel
theorem dX8_wholeBelow_1 : decode cX8_wholeBelow 1 = .ok (.dconst 0, 1) := by decide +kernel
theorem dX8_wholeBelow_2 : decode cX8_wholeBelow 2 = .ok (.dcmp .l, 1) := by decide +kernel
