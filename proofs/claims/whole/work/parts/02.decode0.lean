theorem dX0_init_0 : decode cX0_init 0 = .ok (.aload_n 0, 1) := by decide +kernel
theorem dX0_init_1 : decode cX0_init 1 = .ok (.invokespecial 1, 3) := by decide +kernel
theorem dX0_init_4 : decode cX0_init 4 = .ok (.aload_n 0, 1) := by decide +kernel
theorem dX0_init_5 : decode cX0_init 5 = .ok (.new 7, 3) := by decide +kernel
theorem dX0_init_8 : decode cX0_init 8 = .ok (.dup, 1) := by decide +kernel
theorem dX0_init_9 : decode cX0_init 9 = .ok (.iconst 0, 1) := by decide +kernel
theorem dX0_init_10 : decode cX0_init 10 = .ok (.invokespecial 9, 3) := by decide +kernel
theorem dX0_init_13 : decode cX0_init 13 = .ok (.putfield 12, 3) := by decide +kernel
theorem dX0_init_16 : decode cX0_init 16 = .ok (.aload_n 0, 1) := by decide +kernel
theorem dX0_init_17 : decode cX0_init 17 = .ok (.iconst 4, 1) := by decide +kernel
theorem dX0_init_18 : decode cX0_init 18 = .ok (.anewarray 7, 3) := by decide +kernel
theorem dX0_init_21 : decode cX0_init 21 = .ok (.putfield 18, 3) := by decide +kernel
theorem dX0_init_24 : decode cX0_init 24 = .ok (.aload_n 0, 1) := by decide +kernel
theorem dX0_init_25 : decode cX0_init 25 = .ok (.getfield 18, 3) := by decide +kernel
theorem dX0_init_28 : decode cX0_init 28 = .ok (.iconst 0, 1) := by decide +kernel
theorem dX0_init_29 : decode cX0_init 29 = .ok (.aload_n 0, 1) := by decide +kernel
theorem dX0_init_30 : decode cX0_init 30 = .ok (.getfield 12, 3) := by decide +kernel
theorem dX0_init_33 : decode cX0_init 33 = .ok (.aastore, 1) := by decide +kernel
theorem dX0_init_34 : decode cX0_init 34 = .ok (.iconst 1, 1) := by decide +kernel
theorem dX0_init_35 : decode cX0_init 35 = .ok (.istore_n 1, 1) := by decide +kernel
theorem dX0_init_36 : decode cX0_init 36 = .ok (.iload_n 1, 1) := by decide +kernel
theorem dX0_init_37 : decode cX0_init 37 = .ok (.iconst 4, 1) := by decide +kernel
theorem dX0_init_38 : decode cX0_init 38 = .ok (.if_icmp .ge 23, 3) := by decide +kernel
theorem dX0_init_41 : decode cX0_init 41 = .ok (.aload_n 0, 1) := by decide +kernel
theorem dX0_init_42 : decode cX0_init 42 = .ok (.getfield 18, 3) := by decide +kernel
theorem dX0_init_45 : decode cX0_init 45 = .ok (.iload_n 1, 1) := by decide +kernel
theorem dX0_init_46 : decode cX0_init 46 = .ok (.new 7, 3) := by decide +kernel
theorem dX0_init_49 : decode cX0_init 49 = .ok (.dup, 1) := by decide +kernel
theorem dX0_init_50 : decode cX0_init 50 = .ok (.iload_n 1, 1) := by decide +kernel
theorem dX0_init_51 : decode cX0_init 51 = .ok (.invokespecial 9, 3) := by decide +kernel
theorem dX0_init_54 : decode cX0_init 54 = .ok (.aastore, 1) := by decide +kernel
theorem dX0_init_55 : decode cX0_init 55 = .ok (.iinc 1 1, 3) := by decide +kernel
theorem dX0_init_58 : decode cX0_init 58 = .ok (.goto (-22), 3) := by decide +kernel
theorem dX0_init_61 : decode cX0_init 61 = .ok (.aload_n 0, 1) := by decide +kernel
theorem dX0_init_62 : decode cX0_init 62 = .ok (.bipush 18, 2) := by decide +kernel
theorem dX0_init_64 : decode cX0_init 64 = .ok (.anewarray 22, 3) := by decide +kernel
theorem dX0_init_67 : decode cX0_init 67 = .ok (.putfield 24, 3) := by decide +kernel
theorem dX0_init_70 : decode cX0_init 70 = .ok (.iconst 0, 1) := by decide +kernel
theorem dX0_init_71 : decode cX0_init 71 = .ok (.istore_n 1, 1) := by decide +kernel
theorem dX0_init_72 : decode cX0_init 72 = .ok (.iload_n 1, 1) := by decide +kernel
theorem dX0_init_73 : decode cX0_init 73 = .ok (.bipush 18, 2) := by decide +kernel
theorem dX0_init_75 : decode cX0_init 75 = .ok (.if_icmp .ge 25, 3) := by decide +kernel
theorem dX0_init_78 : decode cX0_init 78 = .ok (.aload_n 0, 1) := by decide +kernel
theorem dX0_init_79 : decode cX0_init 79 = .ok (.getfield 24, 3) := by decide +kernel
theorem dX0_init_82 : decode cX0_init 82 = .ok (.iload_n 1, 1) := by decide +kernel
theorem dX0_init_83 : decode cX0_init 83 = .ok (.new 22, 3) := by decide +kernel
theorem dX0_init_86 : decode cX0_init 86 = .ok (.dup, 1) := by decide +kernel
theorem dX0_init_87 : decode cX0_init 87 = .ok (.iload_n 1, 1) := by decide +kernel
theorem dX0_init_88 : decode cX0_init 88 = .ok (.iconst 2, 1) := by decide +kernel
theorem dX0_init_89 : decode cX0_init 89 = .ok (.idiv, 1) := by decide +kernel
theorem dX0_init_90 : decode cX0_init 90 = .ok (.invokespecial 28, 3) := by decide +kernel
theorem dX0_init_93 : decode cX0_init 93 = .ok (.aastore, 1) := by decide +kernel
theorem dX0_init_94 : decode cX0_init 94 = .ok (.iinc 1 1, 3) := by decide +kernel
theorem dX0_init_97 : decode cX0_init 97 = .ok (.goto (-25), 3) := by decide +kernel
theorem dX0_init_100 : decode cX0_init 100 = .ok (.aload_n 0, 1) := by decide +kernel
theorem dX0_init_101 : decode cX0_init 101 = .ok (.new 29, 3) := by decide +kernel
theorem dX0_init_104 : decode cX0_init 104 = .ok (.dup, 1) := by decide +kernel
theorem dX0_init_105 : decode cX0_init 105 = .ok (.invokespecial 31, 3) := by decide +kernel
theorem dX0_init_108 : decode cX0_init 108 = .ok (.putfield 32, 3) := by decide +kernel
theorem dX0_init_111 : decode cX0_init 111 = .ok (.aload_n 0, 1) := by decide +kernel
theorem dX0_init_112 : decode cX0_init 112 = .ok (.new 36, 3) := by decide +kernel
theorem dX0_init_115 : decode cX0_init 115 = .ok (.dup, 1) := by decide +kernel
theorem dX0_init_116 : decode cX0_init 116 = .ok (.invokespecial 38, 3) := by decide +kernel
theorem dX0_init_119 : decode cX0_init 119 = .ok (.putfield 39, 3) := by decide +kernel
theorem dX0_init_122 : decode cX0_init 122 = .ok (.return_, 1) := by decide +kernel
theorem dX0_routineAt_0 : decode cX0_routineAt 0 = .ok (.iload_n 1, 1) := by decide +kernel
theorem dX0_routineAt_1 : decode cX0_routineAt 1 = .ok (.ifCond .lt 21, 3) := by decide +kernel
theorem dX0_routineAt_4 : decode cX0_routineAt 4 = .ok (.iload_n 1, 1) := by decide +kernel
theorem dX0_routineAt_5 : decode cX0_routineAt 5 = .ok (.aload_n 0, 1) := by decide +kernel
theorem dX0_routineAt_6 : decode cX0_routineAt 6 = .ok (.getfield 18, 3) := by decide +kernel
theorem dX0_routineAt_9 : decode cX0_routineAt 9 = .ok (.arraylength, 1) := by decide +kernel
theorem dX0_routineAt_10 : decode cX0_routineAt 10 = .ok (.if_icmp .ge 12, 3) := by decide +kernel
theorem dX0_routineAt_13 : decode cX0_routineAt 13 = .ok (.aload_n 0, 1) := by decide +kernel
theorem dX0_routineAt_14 : decode cX0_routineAt 14 = .ok (.getfield 18, 3) := by decide +kernel
theorem dX0_routineAt_17 : decode cX0_routineAt 17 = .ok (.iload_n 1, 1) := by decide +kernel
theorem dX0_routineAt_18 : decode cX0_routineAt 18 = .ok (.aaload, 1) := by decide +kernel
theorem dX0_routineAt_19 : decode cX0_routineAt 19 = .ok (.goto 4, 3) := by decide +kernel
theorem dX0_routineAt_22 : decode cX0_routineAt 22 = .ok (.aconst_null, 1) := by decide +kernel
theorem dX0_routineAt_23 : decode cX0_routineAt 23 = .ok (.areturn, 1) := by decide +kernel
theorem dX0_rowAt_0 : decode cX0_rowAt 0 = .ok (.iload_n 1, 1) := by decide +kernel
theorem dX0_rowAt_1 : decode cX0_rowAt 1 = .ok (.ifCond .lt 21, 3) := by decide +kernel
theorem dX0_rowAt_4 : decode cX0_rowAt 4 = .ok (.iload_n 1, 1) := by decide +kernel
theorem dX0_rowAt_5 : decode cX0_rowAt 5 = .ok (.aload_n 0, 1) := by decide +kernel
theorem dX0_rowAt_6 : decode cX0_rowAt 6 = .ok (.getfield 24, 3) := by decide +kernel
theorem dX0_rowAt_9 : decode cX0_rowAt 9 = .ok (.arraylength, 1) := by decide +kernel
theorem dX0_rowAt_10 : decode cX0_rowAt 10 = .ok (.if_icmp .ge 12, 3) := by decide +kernel
theorem dX0_rowAt_13 : decode cX0_rowAt 13 = .ok (.aload_n 0, 1) := by decide +kernel
theorem dX0_rowAt_14 : decode cX0_rowAt 14 = .ok (.getfield 24, 3) := by decide +kernel
theorem dX0_rowAt_17 : decode cX0_rowAt 17 = .ok (.iload_n 1, 1) := by decide +kernel
theorem dX0_rowAt_18 : decode cX0_rowAt 18 = .ok (.aaload, 1) := by decide +kernel
theorem dX0_rowAt_19 : decode cX0_rowAt 19 = .ok (.goto 4, 3) := by decide +kernel
theorem dX0_rowAt_22 : decode cX0_rowAt 22 = .ok (.aconst_null, 1) := by decide +kernel
theorem dX0_rowAt_23 : decode cX0_rowAt 23 = .ok (.areturn, 1) := by decide +kernel
theorem dX0_begin_0 : decode cX0_begin 0 = .ok (.aload_n 0, 1) := by decide +kernel
theorem dX0_begin_1 : decode cX0_begin 1 = .ok (.getfield 39, 3) := by decide +kernel
theorem dX0_begin_4 : decode cX0_begin 4 = .ok (.invokevirtual 43, 3) := by decide +kernel
theorem dX0_begin_7 : decode cX0_begin 7 = .ok (.aload_n 0, 1) := by decide +kernel
theorem dX0_begin_8 : decode cX0_begin 8 = .ok (.iconst 0, 1) := by decide +kernel
theorem dX0_begin_9 : decode cX0_begin 9 = .ok (.putfield 46, 3) := by decide +kernel
theorem dX0_begin_12 : decode cX0_begin 12 = .ok (.aload_n 0, 1) := by decide +kernel
theorem dX0_begin_13 : decode cX0_begin 13 = .ok (.iconst 0, 1) := by decide +kernel
theorem dX0_begin_14 : decode cX0_begin 14 = .ok (.putfield 50, 3) := by decide +kernel
theorem dX0_begin_17 : decode cX0_begin 17 = .ok (.aload_n 0, 1) := by decide +kernel
theorem dX0_begin_18 : decode cX0_begin 18 = .ok (.iconst 0, 1) := by decide +kernel
theorem dX0_begin_19 : decode cX0_begin 19 = .ok (.putfield 53, 3) := by decide +kernel
theorem dX0_begin_22 : decode cX0_begin 22 = .ok (.aload_n 0, 1) := by decide +kernel
theorem dX0_begin_23 : decode cX0_begin 23 = .ok (.aconst_null, 1) := by decide +kernel
theorem dX0_begin_24 : decode cX0_begin 24 = .ok (.putfield 56, 3) := by decide +kernel
theorem dX0_begin_27 : decode cX0_begin 27 = .ok (.aload_n 0, 1) := by decide +kernel
theorem dX0_begin_28 : decode cX0_begin 28 = .ok (.aload_n 1, 1) := by decide +kernel
theorem dX0_begin_29 : decode cX0_begin 29 = .ok (.iconst 0, 1) := by decide +kernel
theorem dX0_begin_30 : decode cX0_begin 30 = .ok (.aload_n 1, 1) := by decide +kernel
theorem dX0_begin_31 : decode cX0_begin 31 = .ok (.getfield 60, 3) := by decide +kernel
theorem dX0_begin_34 : decode cX0_begin 34 = .ok (.aconst_null, 1) := by decide +kernel
theorem dX0_begin_35 : decode cX0_begin 35 = .ok (.iconst 0, 1) := by decide +kernel
theorem dX0_begin_36 : decode cX0_begin 36 = .ok (.invokevirtual 63, 3) := by decide +kernel
theorem dX0_begin_39 : decode cX0_begin 39 = .ok (.pop, 1) := by decide +kernel
theorem dX0_begin_40 : decode cX0_begin 40 = .ok (.aload_n 0, 1) := by decide +kernel
theorem dX0_begin_41 : decode cX0_begin 41 = .ok (.getfield 56, 3) := by decide +kernel
theorem dX0_begin_44 : decode cX0_begin 44 = .ok (.ifnonnull 7, 3) := by decide +kernel
theorem dX0_begin_47 : decode cX0_begin 47 = .ok (.iconst 0, 1) := by decide +kernel
theorem dX0_begin_48 : decode cX0_begin 48 = .ok (.goto 10, 3) := by decide +kernel
theorem dX0_begin_51 : decode cX0_begin 51 = .ok (.aload_n 0, 1) := by decide +kernel
theorem dX0_begin_52 : decode cX0_begin 52 = .ok (.getfield 56, 3) := by decide +kernel
theorem dX0_begin_55 : decode cX0_begin 55 = .ok (.getfield 67, 3) := by decide +kernel
theorem dX0_begin_58 : decode cX0_begin 58 = .ok (.ireturn, 1) := by decide +kernel
theorem dX0_doSteps_0 : decode cX0_doSteps 0 = .ok (.iload_n 2, 1) := by decide +kernel
theorem dX0_doSteps_1 : decode cX0_doSteps 1 = .ok (.istore 6, 2) := by decide +kernel
theorem dX0_doSteps_3 : decode cX0_doSteps 3 = .ok (.iload 6, 2) := by decide +kernel
theorem dX0_doSteps_5 : decode cX0_doSteps 5 = .ok (.iload_n 3, 1) := by decide +kernel
theorem dX0_doSteps_6 : decode cX0_doSteps 6 = .ok (.if_icmp .ge 56, 3) := by decide +kernel
theorem dX0_doSteps_9 : decode cX0_doSteps 9 = .ok (.aload_n 1, 1) := by decide +kernel
theorem dX0_doSteps_10 : decode cX0_doSteps 10 = .ok (.iload 6, 2) := by decide +kernel
theorem dX0_doSteps_12 : decode cX0_doSteps 12 = .ok (.invokevirtual 72, 3) := by decide +kernel
theorem dX0_doSteps_15 : decode cX0_doSteps 15 = .ok (.astore 7, 2) := by decide +kernel
theorem dX0_doSteps_17 : decode cX0_doSteps 17 = .ok (.aload 7, 2) := by decide +kernel
theorem dX0_doSteps_19 : decode cX0_doSteps 19 = .ok (.ifnonnull 5, 3) := by decide +kernel
theorem dX0_doSteps_22 : decode cX0_doSteps 22 = .ok (.iconst 0, 1) := by decide +kernel
theorem dX0_doSteps_23 : decode cX0_doSteps 23 = .ok (.ireturn, 1) := by decide +kernel
theorem dX0_doSteps_24 : decode cX0_doSteps 24 = .ok (.aload_n 0, 1) := by decide +kernel
theorem dX0_doSteps_25 : decode cX0_doSteps 25 = .ok (.aload_n 1, 1) := by decide +kernel
theorem dX0_doSteps_26 : decode cX0_doSteps 26 = .ok (.aload 7, 2) := by decide +kernel
theorem dX0_doSteps_28 : decode cX0_doSteps 28 = .ok (.aload 4, 2) := by decide +kernel
theorem dX0_doSteps_30 : decode cX0_doSteps 30 = .ok (.iload 5, 2) := by decide +kernel
theorem dX0_doSteps_32 : decode cX0_doSteps 32 = .ok (.invokevirtual 76, 3) := by decide +kernel
theorem dX0_doSteps_35 : decode cX0_doSteps 35 = .ok (.istore 8, 2) := by decide +kernel
theorem dX0_doSteps_37 : decode cX0_doSteps 37 = .ok (.iload 8, 2) := by decide +kernel
theorem dX0_doSteps_39 : decode cX0_doSteps 39 = .ok (.ifCond .eq 6, 3) := by decide +kernel
theorem dX0_doSteps_42 : decode cX0_doSteps 42 = .ok (.iload 8, 2) := by decide +kernel
theorem dX0_doSteps_44 : decode cX0_doSteps 44 = .ok (.ireturn, 1) := by decide +kernel
theorem dX0_doSteps_45 : decode cX0_doSteps 45 = .ok (.iload 6, 2) := by decide +kernel
theorem dX0_doSteps_47 : decode cX0_doSteps 47 = .ok (.aload 7, 2) := by decide +kernel
theorem dX0_doSteps_49 : decode cX0_doSteps 49 = .ok (.getfield 80, 3) := by decide +kernel
theorem dX0_doSteps_52 : decode cX0_doSteps 52 = .ok (.invokestatic 85, 3) := by decide +kernel
theorem dX0_doSteps_55 : decode cX0_doSteps 55 = .ok (.iconst 1, 1) := by decide +kernel
theorem dX0_doSteps_56 : decode cX0_doSteps 56 = .ok (.iadd, 1) := by decide +kernel
theorem dX0_doSteps_57 : decode cX0_doSteps 57 = .ok (.istore 6, 2) := by decide +kernel
theorem dX0_doSteps_59 : decode cX0_doSteps 59 = .ok (.goto (-56), 3) := by decide +kernel
theorem dX0_doSteps_62 : decode cX0_doSteps 62 = .ok (.iconst 0, 1) := by decide +kernel
theorem dX0_doSteps_63 : decode cX0_doSteps 63 = .ok (.ireturn, 1) := by decide +kernel
theorem dX0_doStep_0 : decode cX0_doStep 0 = .ok (.aload_n 0, 1) := by decide +kernel
theorem dX0_doStep_1 : decode cX0_doStep 1 = .ok (.invokevirtual 91, 3) := by decide +kernel
theorem dX0_doStep_4 : decode cX0_doStep 4 = .ok (.ifCond .ne 11, 3) := by decide +kernel
theorem dX0_doStep_7 : decode cX0_doStep 7 = .ok (.aload_n 0, 1) := by decide +kernel
theorem dX0_doStep_8 : decode cX0_doStep 8 = .ok (.bipush 10, 2) := by decide +kernel
theorem dX0_doStep_10 : decode cX0_doStep 10 = .ok (.aload_n 2, 1) := by decide +kernel
theorem dX0_doStep_11 : decode cX0_doStep 11 = .ok (.invokevirtual 95, 3) := by decide +kernel
theorem dX0_doStep_14 : decode cX0_doStep 14 = .ok (.ireturn, 1) := by decide +kernel
theorem dX0_doStep_15 : decode cX0_doStep 15 = .ok (.aload_n 2, 1) := by decide +kernel
theorem dX0_doStep_16 : decode cX0_doStep 16 = .ok (.getfield 99, 3) := by decide +kernel
theorem dX0_doStep_19 : decode cX0_doStep 19 = .ok (.tableswitch 153 1 12 #[61, 153, 153, 71, 111, 113, 115, 138, 138, 138, 81, 103], 61) := by decide +kernel
theorem dX0_doStep_80 : decode cX0_doStep 80 = .ok (.aload_n 0, 1) := by decide +kernel
theorem dX0_doStep_81 : decode cX0_doStep 81 = .ok (.aload_n 1, 1) := by decide +kernel
theorem dX0_doStep_82 : decode cX0_doStep 82 = .ok (.aload_n 2, 1) := by decide +kernel
theorem dX0_doStep_83 : decode cX0_doStep 83 = .ok (.aload_n 3, 1) := by decide +kernel
theorem dX0_doStep_84 : decode cX0_doStep 84 = .ok (.iload 4, 2) := by decide +kernel
theorem dX0_doStep_86 : decode cX0_doStep 86 = .ok (.invokevirtual 102, 3) := by decide +kernel
theorem dX0_doStep_89 : decode cX0_doStep 89 = .ok (.ireturn, 1) := by decide +kernel
theorem dX0_doStep_90 : decode cX0_doStep 90 = .ok (.aload_n 0, 1) := by decide +kernel
theorem dX0_doStep_91 : decode cX0_doStep 91 = .ok (.aload_n 1, 1) := by decide +kernel
theorem dX0_doStep_92 : decode cX0_doStep 92 = .ok (.aload_n 2, 1) := by decide +kernel
theorem dX0_doStep_93 : decode cX0_doStep 93 = .ok (.aload_n 3, 1) := by decide +kernel
theorem dX0_doStep_94 : decode cX0_doStep 94 = .ok (.iload 4, 2) := by decide +kernel
theorem dX0_doStep_96 : decode cX0_doStep 96 = .ok (.invokevirtual 105, 3) := by decide +kernel
theorem dX0_doStep_99 : decode cX0_doStep 99 = .ok (.ireturn, 1) := by decide +kernel
theorem dX0_doStep_100 : decode cX0_doStep 100 = .ok (.aload_n 0, 1) := by decide +kernel
theorem dX0_doStep_101 : decode cX0_doStep 101 = .ok (.aload_n 2, 1) := by decide +kernel
theorem dX0_doStep_102 : decode cX0_doStep 102 = .ok (.invokevirtual 108, 3) := by decide +kernel
theorem dX0_doStep_105 : decode cX0_doStep 105 = .ok (.ifCond .eq 15, 3) := by decide +kernel
theorem dX0_doStep_108 : decode cX0_doStep 108 = .ok (.aload_n 0, 1) := by decide +kernel
theorem dX0_doStep_109 : decode cX0_doStep 109 = .ok (.aload_n 1, 1) := by decide +kernel
theorem dX0_doStep_110 : decode cX0_doStep 110 = .ok (.aload_n 2, 1) := by decide +kernel
theorem dX0_doStep_111 : decode cX0_doStep 111 = .ok (.aload_n 3, 1) := by decide +kernel
theorem dX0_doStep_112 : decode cX0_doStep 112 = .ok (.iload 4, 2) := by decide +kernel
theorem dX0_doStep_114 : decode cX0_doStep 114 = .ok (.invokevirtual 112, 3) := by decide +kernel
theorem dX0_doStep_117 : decode cX0_doStep 117 = .ok (.goto 4, 3) := by decide +kernel
theorem dX0_doStep_120 : decode cX0_doStep 120 = .ok (.iconst 0, 1) := by decide +kernel
theorem dX0_doStep_121 : decode cX0_doStep 121 = .ok (.ireturn, 1) := by decide +kernel
theorem dX0_doStep_122 : decode cX0_doStep 122 = .ok (.aload_n 0, 1) := by decide +kernel
theorem dX0_doStep_123 : decode cX0_doStep 123 = .ok (.aload_n 2, 1) := by decide +kernel
theorem dX0_doStep_124 : decode cX0_doStep 124 = .ok (.iload 4, 2) := by decide +kernel
theorem dX0_doStep_126 : decode cX0_doStep 126 = .ok (.invokevirtual 115, 3) := by decide +kernel
theorem dX0_doStep_129 : decode cX0_doStep 129 = .ok (.ireturn, 1) := by decide +kernel
theorem dX0_doStep_130 : decode cX0_doStep 130 = .ok (.iconst 1, 1) := by decide +kernel
theorem dX0_doStep_131 : decode cX0_doStep 131 = .ok (.ireturn, 1) := by decide +kernel
theorem dX0_doStep_132 : decode cX0_doStep 132 = .ok (.iconst 2, 1) := by decide +kernel
theorem dX0_doStep_133 : decode cX0_doStep 133 = .ok (.ireturn, 1) := by decide +kernel
theorem dX0_doStep_134 : decode cX0_doStep 134 = .ok (.aload_n 0, 1) := by decide +kernel
theorem dX0_doStep_135 : decode cX0_doStep 135 = .ok (.new 68, 3) := by decide +kernel
theorem dX0_doStep_138 : decode cX0_doStep 138 = .ok (.dup, 1) := by decide +kernel
theorem dX0_doStep_139 : decode cX0_doStep 139 = .ok (.bipush 9, 2) := by decide +kernel
theorem dX0_doStep_141 : decode cX0_doStep 141 = .ok (.aload_n 2, 1) := by decide +kernel
theorem dX0_doStep_142 : decode cX0_doStep 142 = .ok (.getfield 119, 3) := by decide +kernel
theorem dX0_doStep_145 : decode cX0_doStep 145 = .ok (.aload_n 2, 1) := by decide +kernel
theorem dX0_doStep_146 : decode cX0_doStep 146 = .ok (.getfield 122, 3) := by decide +kernel
theorem dX0_doStep_149 : decode cX0_doStep 149 = .ok (.aconst_null, 1) := by decide +kernel
theorem dX0_doStep_150 : decode cX0_doStep 150 = .ok (.invokespecial 125, 3) := by decide +kernel
theorem dX0_doStep_153 : decode cX0_doStep 153 = .ok (.invokevirtual 128, 3) := by decide +kernel
theorem dX0_doStep_156 : decode cX0_doStep 156 = .ok (.ireturn, 1) := by decide +kernel
theorem dX0_doStep_157 : decode cX0_doStep 157 = .ok (.aload_n 3, 1) := by decide +kernel
theorem dX0_doStep_158 : decode cX0_doStep 158 = .ok (.ifnonnull 7, 3) := by decide +kernel
theorem dX0_doStep_161 : decode cX0_doStep 161 = .ok (.iconst 0, 1) := by decide +kernel
theorem dX0_doStep_162 : decode cX0_doStep 162 = .ok (.goto 9, 3) := by decide +kernel
theorem dX0_doStep_165 : decode cX0_doStep 165 = .ok (.aload_n 0, 1) := by decide +kernel
theorem dX0_doStep_166 : decode cX0_doStep 166 = .ok (.aload_n 2, 1) := by decide +kernel
theorem dX0_doStep_167 : decode cX0_doStep 167 = .ok (.aload_n 3, 1) := by decide +kernel
theorem dX0_doStep_168 : decode cX0_doStep 168 = .ok (.invokevirtual 132, 3) := by decide +kernel
theorem dX0_doStep_171 : decode cX0_doStep 171 = .ok (.ireturn, 1) := by decide +kernel
theorem dX0_doStep_172 : decode cX0_doStep 172 = .ok (.aload_n 0, 1) := by decide +kernel
theorem dX0_doStep_173 : decode cX0_doStep 173 = .ok (.aload_n 2, 1) := by decide +kernel
theorem dX0_doStep_174 : decode cX0_doStep 174 = .ok (.getfield 99, 3) := by decide +kernel
theorem dX0_doStep_177 : decode cX0_doStep 177 = .ok (.bipush 19, 2) := by decide +kernel
theorem dX0_doStep_179 : decode cX0_doStep 179 = .ok (.if_icmp .ge 11, 3) := by decide +kernel
theorem dX0_doStep_182 : decode cX0_doStep 182 = .ok (.aload_n 0, 1) := by decide +kernel
theorem dX0_doStep_183 : decode cX0_doStep 183 = .ok (.aload_n 2, 1) := by decide +kernel
theorem dX0_doStep_184 : decode cX0_doStep 184 = .ok (.invokevirtual 136, 3) := by decide +kernel
theorem dX0_doStep_187 : decode cX0_doStep 187 = .ok (.goto 8, 3) := by decide +kernel
theorem dX0_doStep_190 : decode cX0_doStep 190 = .ok (.aload_n 0, 1) := by decide +kernel
theorem dX0_doStep_191 : decode cX0_doStep 191 = .ok (.aload_n 2, 1) := by decide +kernel
theorem dX0_doStep_192 : decode cX0_doStep 192 = .ok (.invokevirtual 140, 3) := by decide +kernel
theorem dX0_doStep_195 : decode cX0_doStep 195 = .ok (.aload_n 2, 1) := by decide +kernel
theorem dX0_doStep_196 : decode cX0_doStep 196 = .ok (.invokevirtual 95, 3) := by decide +kernel
theorem dX0_doStep_199 : decode cX0_doStep 199 = .ok (.ireturn, 1) := by decide +kernel
theorem dX0_isCounted_0 : decode cX0_isCounted 0 = .ok (.aload_n 0, 1) := by decide +kernel
theorem dX0_isCounted_1 : decode cX0_isCounted 1 = .ok (.getfield 46, 3) := by decide +kernel
theorem dX0_isCounted_4 : decode cX0_isCounted 4 = .ok (.sipush 200, 3) := by decide +kernel
theorem dX0_isCounted_7 : decode cX0_isCounted 7 = .ok (.if_icmp .lt 5, 3) := by decide +kernel
theorem dX0_isCounted_10 : decode cX0_isCounted 10 = .ok (.iconst 0, 1) := by decide +kernel
theorem dX0_isCounted_11 : decode cX0_isCounted 11 = .ok (.ireturn, 1) := by decide +kernel
theorem dX0_isCounted_12 : decode cX0_isCounted 12 = .ok (.aload_n 0, 1) := by decide +kernel
theorem dX0_isCounted_13 : decode cX0_isCounted 13 = .ok (.dup, 1) := by decide +kernel
theorem dX0_isCounted_14 : decode cX0_isCounted 14 = .ok (.getfield 46, 3) := by decide +kernel
theorem dX0_isCounted_17 : decode cX0_isCounted 17 = .ok (.iconst 1, 1) := by decide +kernel
theorem dX0_isCounted_18 : decode cX0_isCounted 18 = .ok (.iadd, 1) := by decide +kernel
theorem dX0_isCounted_19 : decode cX0_isCounted 19 = .ok (.putfield 46, 3) := by decide +kernel
theorem dX0_isCounted_22 : decode cX0_isCounted 22 = .ok (.iconst 1, 1) := by decide +kernel
theorem dX0_isCounted_23 : decode cX0_isCounted 23 = .ok (.ireturn, 1) := by decide +kernel
theorem dX0_throwNew_0 : decode cX0_throwNew 0 = .ok (.iload_n 1, 1) := by decide +kernel
theorem dX0_throwNew_1 : decode cX0_throwNew 1 = .ok (.ifCond .ne 7, 3) := by decide +kernel
theorem dX0_throwNew_4 : decode cX0_throwNew 4 = .ok (.iconst 0, 1) := by decide +kernel
theorem dX0_throwNew_5 : decode cX0_throwNew 5 = .ok (.goto 21, 3) := by decide +kernel
theorem dX0_throwNew_8 : decode cX0_throwNew 8 = .ok (.aload_n 0, 1) := by decide +kernel
theorem dX0_throwNew_9 : decode cX0_throwNew 9 = .ok (.new 68, 3) := by decide +kernel
theorem dX0_throwNew_12 : decode cX0_throwNew 12 = .ok (.dup, 1) := by decide +kernel
theorem dX0_throwNew_13 : decode cX0_throwNew 13 = .ok (.iload_n 1, 1) := by decide +kernel
theorem dX0_throwNew_14 : decode cX0_throwNew 14 = .ok (.aload_n 2, 1) := by decide +kernel
theorem dX0_throwNew_15 : decode cX0_throwNew 15 = .ok (.getfield 119, 3) := by decide +kernel
theorem dX0_throwNew_18 : decode cX0_throwNew 18 = .ok (.iconst 0, 1) := by decide +kernel
theorem dX0_throwNew_19 : decode cX0_throwNew 19 = .ok (.aconst_null, 1) := by decide +kernel
theorem dX0_throwNew_20 : decode cX0_throwNew 20 = .ok (.invokespecial 125, 3) := by decide +kernel
theorem dX0_throwNew_23 : decode cX0_throwNew 23 = .ok (.invokevirtual 128, 3) := by decide +kernel
theorem dX0_throwNew_26 : decode cX0_throwNew 26 = .ok (.ireturn, 1) := by decide +kernel
theorem dX0_leaveBy_0 : decode cX0_leaveBy 0 = .ok (.aload_n 0, 1) := by decide +kernel
theorem dX0_leaveBy_1 : decode cX0_leaveBy 1 = .ok (.aload_n 1, 1) := by decide +kernel
theorem dX0_leaveBy_2 : decode cX0_leaveBy 2 = .ok (.putfield 56, 3) := by decide +kernel
theorem dX0_leaveBy_5 : decode cX0_leaveBy 5 = .ok (.iconst 3, 1) := by decide +kernel
theorem dX0_leaveBy_6 : decode cX0_leaveBy 6 = .ok (.ireturn, 1) := by decide +kernel
theorem dX0_doPart_0 : decode cX0_doPart 0 = .ok (.aload_n 0, 1) := by decide +kernel
theorem dX0_doPart_1 : decode cX0_doPart 1 = .ok (.aload_n 1, 1) := by decide +kernel
theorem dX0_doPart_2 : decode cX0_doPart 2 = .ok (.aload_n 2, 1) := by decide +kernel
theorem dX0_doPart_3 : decode cX0_doPart 3 = .ok (.getfield 143, 3) := by decide +kernel
theorem dX0_doPart_6 : decode cX0_doPart 6 = .ok (.iconst 1, 1) := by decide +kernel
theorem dX0_doPart_7 : decode cX0_doPart 7 = .ok (.iadd, 1) := by decide +kernel
theorem dX0_doPart_8 : decode cX0_doPart 8 = .ok (.aload_n 2, 1) := by decide +kernel
theorem dX0_doPart_9 : decode cX0_doPart 9 = .ok (.invokevirtual 146, 3) := by decide +kernel
theorem dX0_doPart_12 : decode cX0_doPart 12 = .ok (.aload_n 3, 1) := by decide +kernel
theorem dX0_doPart_13 : decode cX0_doPart 13 = .ok (.iload 4, 2) := by decide +kernel
theorem dX0_doPart_15 : decode cX0_doPart 15 = .ok (.invokevirtual 63, 3) := by decide +kernel
theorem dX0_doPart_18 : decode cX0_doPart 18 = .ok (.ireturn, 1) := by decide +kernel
theorem dX0_doTry_0 : decode cX0_doTry 0 = .ok (.aload_n 0, 1) := by decide +kernel
theorem dX0_doTry_1 : decode cX0_doTry 1 = .ok (.aload_n 1, 1) := by decide +kernel
theorem dX0_doTry_2 : decode cX0_doTry 2 = .ok (.aload_n 2, 1) := by decide +kernel
theorem dX0_doTry_3 : decode cX0_doTry 3 = .ok (.aload_n 3, 1) := by decide +kernel
theorem dX0_doTry_4 : decode cX0_doTry 4 = .ok (.iload 4, 2) := by decide +kernel
theorem dX0_doTry_6 : decode cX0_doTry 6 = .ok (.invokevirtual 112, 3) := by decide +kernel
theorem dX0_doTry_9 : decode cX0_doTry 9 = .ok (.istore 5, 2) := by decide +kernel
theorem dX0_doTry_11 : decode cX0_doTry 11 = .ok (.aload_n 0, 1) := by decide +kernel
theorem dX0_doTry_12 : decode cX0_doTry 12 = .ok (.getfield 56, 3) := by decide +kernel
theorem dX0_doTry_15 : decode cX0_doTry 15 = .ok (.astore 6, 2) := by decide +kernel
theorem dX0_doTry_17 : decode cX0_doTry 17 = .ok (.aload 6, 2) := by decide +kernel
theorem dX0_doTry_19 : decode cX0_doTry 19 = .ok (.ifnonnull 7, 3) := by decide +kernel
theorem dX0_doTry_22 : decode cX0_doTry 22 = .ok (.aconst_null, 1) := by decide +kernel
theorem dX0_doTry_23 : decode cX0_doTry 23 = .ok (.goto 12, 3) := by decide +kernel
theorem dX0_doTry_26 : decode cX0_doTry 26 = .ok (.aload_n 2, 1) := by decide +kernel
theorem dX0_doTry_27 : decode cX0_doTry 27 = .ok (.aload 6, 2) := by decide +kernel
theorem dX0_doTry_29 : decode cX0_doTry 29 = .ok (.getfield 67, 3) := by decide +kernel
theorem dX0_doTry_32 : decode cX0_doTry 32 = .ok (.invokevirtual 150, 3) := by decide +kernel
theorem dX0_doTry_35 : decode cX0_doTry 35 = .ok (.astore 7, 2) := by decide +kernel
theorem dX0_doTry_37 : decode cX0_doTry 37 = .ok (.aload 7, 2) := by decide +kernel
theorem dX0_doTry_39 : decode cX0_doTry 39 = .ok (.ifnull 31, 3) := by decide +kernel
theorem dX0_doTry_42 : decode cX0_doTry 42 = .ok (.aload_n 0, 1) := by decide +kernel
theorem dX0_doTry_43 : decode cX0_doTry 43 = .ok (.aconst_null, 1) := by decide +kernel
theorem dX0_doTry_44 : decode cX0_doTry 44 = .ok (.putfield 56, 3) := by decide +kernel
theorem dX0_doTry_47 : decode cX0_doTry 47 = .ok (.aload_n 0, 1) := by decide +kernel
theorem dX0_doTry_48 : decode cX0_doTry 48 = .ok (.dup, 1) := by decide +kernel
theorem dX0_doTry_49 : decode cX0_doTry 49 = .ok (.getfield 50, 3) := by decide +kernel
theorem dX0_doTry_52 : decode cX0_doTry 52 = .ok (.iconst 1, 1) := by decide +kernel
theorem dX0_doTry_53 : decode cX0_doTry 53 = .ok (.iadd, 1) := by decide +kernel
theorem dX0_doTry_54 : decode cX0_doTry 54 = .ok (.putfield 50, 3) := by decide +kernel
theorem dX0_doTry_57 : decode cX0_doTry 57 = .ok (.aload_n 0, 1) := by decide +kernel
theorem dX0_doTry_58 : decode cX0_doTry 58 = .ok (.aload_n 1, 1) := by decide +kernel
theorem dX0_doTry_59 : decode cX0_doTry 59 = .ok (.aload 7, 2) := by decide +kernel
theorem dX0_doTry_61 : decode cX0_doTry 61 = .ok (.aload 6, 2) := by decide +kernel
theorem dX0_doTry_63 : decode cX0_doTry 63 = .ok (.iload 4, 2) := by decide +kernel
theorem dX0_doTry_65 : decode cX0_doTry 65 = .ok (.invokevirtual 112, 3) := by decide +kernel
theorem dX0_doTry_68 : decode cX0_doTry 68 = .ok (.istore 5, 2) := by decide +kernel
theorem dX0_doTry_70 : decode cX0_doTry 70 = .ok (.aload_n 2, 1) := by decide +kernel
theorem dX0_doTry_71 : decode cX0_doTry 71 = .ok (.invokevirtual 153, 3) := by decide +kernel
theorem dX0_doTry_74 : decode cX0_doTry 74 = .ok (.astore 8, 2) := by decide +kernel
theorem dX0_doTry_76 : decode cX0_doTry 76 = .ok (.aload 8, 2) := by decide +kernel
theorem dX0_doTry_78 : decode cX0_doTry 78 = .ok (.ifnonnull 8, 3) := by decide +kernel
theorem dX0_doTry_81 : decode cX0_doTry 81 = .ok (.iload 5, 2) := by decide +kernel
theorem dX0_doTry_83 : decode cX0_doTry 83 = .ok (.goto 15, 3) := by decide +kernel
theorem dX0_doTry_86 : decode cX0_doTry 86 = .ok (.aload_n 0, 1) := by decide +kernel
theorem dX0_doTry_87 : decode cX0_doTry 87 = .ok (.aload_n 1, 1) := by decide +kernel
theorem dX0_doTry_88 : decode cX0_doTry 88 = .ok (.aload 8, 2) := by decide +kernel
theorem dX0_doTry_90 : decode cX0_doTry 90 = .ok (.iload 5, 2) := by decide +kernel
theorem dX0_doTry_92 : decode cX0_doTry 92 = .ok (.aload_n 3, 1) := by decide +kernel
theorem dX0_doTry_93 : decode cX0_doTry 93 = .ok (.iload 4, 2) := by decide +kernel
theorem dX0_doTry_95 : decode cX0_doTry 95 = .ok (.invokevirtual 157, 3) := by decide +kernel
theorem dX0_doTry_98 : decode cX0_doTry 98 = .ok (.ireturn, 1) := by decide +kernel
theorem dX0_doFinally_0 : decode cX0_doFinally 0 = .ok (.aload_n 0, 1) := by decide +kernel
theorem dX0_doFinally_1 : decode cX0_doFinally 1 = .ok (.getfield 56, 3) := by decide +kernel
theorem dX0_doFinally_4 : decode cX0_doFinally 4 = .ok (.astore 6, 2) := by decide +kernel
theorem dX0_doFinally_6 : decode cX0_doFinally 6 = .ok (.aload_n 0, 1) := by decide +kernel
theorem dX0_doFinally_7 : decode cX0_doFinally 7 = .ok (.aconst_null, 1) := by decide +kernel
theorem dX0_doFinally_8 : decode cX0_doFinally 8 = .ok (.putfield 56, 3) := by decide +kernel
theorem dX0_doFinally_11 : decode cX0_doFinally 11 = .ok (.aload_n 0, 1) := by decide +kernel
theorem dX0_doFinally_12 : decode cX0_doFinally 12 = .ok (.dup, 1) := by decide +kernel
theorem dX0_doFinally_13 : decode cX0_doFinally 13 = .ok (.getfield 53, 3) := by decide +kernel
theorem dX0_doFinally_16 : decode cX0_doFinally 16 = .ok (.iconst 1, 1) := by decide +kernel
theorem dX0_doFinally_17 : decode cX0_doFinally 17 = .ok (.iadd, 1) := by decide +kernel
theorem dX0_doFinally_18 : decode cX0_doFinally 18 = .ok (.putfield 53, 3) := by decide +kernel
theorem dX0_doFinally_21 : decode cX0_doFinally 21 = .ok (.aload_n 0, 1) := by decide +kernel
theorem dX0_doFinally_22 : decode cX0_doFinally 22 = .ok (.aload_n 1, 1) := by decide +kernel
theorem dX0_doFinally_23 : decode cX0_doFinally 23 = .ok (.aload_n 2, 1) := by decide +kernel
theorem dX0_doFinally_24 : decode cX0_doFinally 24 = .ok (.aload 4, 2) := by decide +kernel
theorem dX0_doFinally_26 : decode cX0_doFinally 26 = .ok (.iload 5, 2) := by decide +kernel
theorem dX0_doFinally_28 : decode cX0_doFinally 28 = .ok (.invokevirtual 112, 3) := by decide +kernel
theorem dX0_doFinally_31 : decode cX0_doFinally 31 = .ok (.istore 7, 2) := by decide +kernel
theorem dX0_doFinally_33 : decode cX0_doFinally 33 = .ok (.iload 7, 2) := by decide +kernel
theorem dX0_doFinally_35 : decode cX0_doFinally 35 = .ok (.ifCond .eq 6, 3) := by decide +kernel
theorem dX0_doFinally_38 : decode cX0_doFinally 38 = .ok (.iload 7, 2) := by decide +kernel
theorem dX0_doFinally_40 : decode cX0_doFinally 40 = .ok (.ireturn, 1) := by decide +kernel
theorem dX0_doFinally_41 : decode cX0_doFinally 41 = .ok (.aload_n 0, 1) := by decide +kernel
theorem dX0_doFinally_42 : decode cX0_doFinally 42 = .ok (.aload 6, 2) := by decide +kernel
theorem dX0_doFinally_44 : decode cX0_doFinally 44 = .ok (.putfield 56, 3) := by decide +kernel
theorem dX0_doFinally_47 : decode cX0_doFinally 47 = .ok (.iload_n 3, 1) := by decide +kernel
theorem dX0_doFinally_48 : decode cX0_doFinally 48 = .ok (.ireturn, 1) := by decide +kernel
theorem dX0_doLoop_0 : decode cX0_doLoop 0 = .ok (.iconst 0, 1) := by decide +kernel
theorem dX0_doLoop_1 : decode cX0_doLoop 1 = .ok (.istore 5, 2) := by decide +kernel
theorem dX0_doLoop_3 : decode cX0_doLoop 3 = .ok (.iload 5, 2) := by decide +kernel
theorem dX0_doLoop_5 : decode cX0_doLoop 5 = .ok (.aload_n 2, 1) := by decide +kernel
theorem dX0_doLoop_6 : decode cX0_doLoop 6 = .ok (.getfield 122, 3) := by decide +kernel
theorem dX0_doLoop_9 : decode cX0_doLoop 9 = .ok (.if_icmp .ge 53, 3) := by decide +kernel
theorem dX0_doLoop_12 : decode cX0_doLoop 12 = .ok (.aload_n 0, 1) := by decide +kernel
theorem dX0_doLoop_13 : decode cX0_doLoop 13 = .ok (.invokevirtual 91, 3) := by decide +kernel
theorem dX0_doLoop_16 : decode cX0_doLoop 16 = .ok (.ifCond .ne 11, 3) := by decide +kernel
theorem dX0_doLoop_19 : decode cX0_doLoop 19 = .ok (.aload_n 0, 1) := by decide +kernel
theorem dX0_doLoop_20 : decode cX0_doLoop 20 = .ok (.bipush 10, 2) := by decide +kernel
theorem dX0_doLoop_22 : decode cX0_doLoop 22 = .ok (.aload_n 2, 1) := by decide +kernel
theorem dX0_doLoop_23 : decode cX0_doLoop 23 = .ok (.invokevirtual 95, 3) := by decide +kernel
theorem dX0_doLoop_26 : decode cX0_doLoop 26 = .ok (.ireturn, 1) := by decide +kernel
theorem dX0_doLoop_27 : decode cX0_doLoop 27 = .ok (.aload_n 0, 1) := by decide +kernel
theorem dX0_doLoop_28 : decode cX0_doLoop 28 = .ok (.aload_n 1, 1) := by decide +kernel
theorem dX0_doLoop_29 : decode cX0_doLoop 29 = .ok (.aload_n 2, 1) := by decide +kernel
theorem dX0_doLoop_30 : decode cX0_doLoop 30 = .ok (.aload_n 3, 1) := by decide +kernel
theorem dX0_doLoop_31 : decode cX0_doLoop 31 = .ok (.iload 4, 2) := by decide +kernel
theorem dX0_doLoop_33 : decode cX0_doLoop 33 = .ok (.invokevirtual 112, 3) := by decide +kernel
theorem dX0_doLoop_36 : decode cX0_doLoop 36 = .ok (.istore 6, 2) := by decide +kernel
theorem dX0_doLoop_38 : decode cX0_doLoop 38 = .ok (.iload 6, 2) := by decide +kernel
theorem dX0_doLoop_40 : decode cX0_doLoop 40 = .ok (.ifCond .eq 16, 3) := by decide +kernel
theorem dX0_doLoop_43 : decode cX0_doLoop 43 = .ok (.iload 6, 2) := by decide +kernel
theorem dX0_doLoop_45 : decode cX0_doLoop 45 = .ok (.iconst 1, 1) := by decide +kernel
theorem dX0_doLoop_46 : decode cX0_doLoop 46 = .ok (.if_icmp .ne 7, 3) := by decide +kernel
theorem dX0_doLoop_49 : decode cX0_doLoop 49 = .ok (.iconst 0, 1) := by decide +kernel
theorem dX0_doLoop_50 : decode cX0_doLoop 50 = .ok (.goto 5, 3) := by decide +kernel
theorem dX0_doLoop_53 : decode cX0_doLoop 53 = .ok (.iload 6, 2) := by decide +kernel
theorem dX0_doLoop_55 : decode cX0_doLoop 55 = .ok (.ireturn, 1) := by decide +kernel
theorem dX0_doLoop_56 : decode cX0_doLoop 56 = .ok (.iinc 5 1, 3) := by decide +kernel
theorem dX0_doLoop_59 : decode cX0_doLoop 59 = .ok (.goto (-56), 3) := by decide +kernel
theorem dX0_doLoop_62 : decode cX0_doLoop 62 = .ok (.iconst 0, 1) := by decide +kernel
theorem dX0_doLoop_63 : decode cX0_doLoop 63 = .ok (.ireturn, 1) := by decide +kernel
theorem dX0_doCall_0 : decode cX0_doCall 0 = .ok (.aload_n 0, 1) := by decide +kernel
theorem dX0_doCall_1 : decode cX0_doCall 1 = .ok (.aload_n 1, 1) := by decide +kernel
theorem dX0_doCall_2 : decode cX0_doCall 2 = .ok (.getfield 122, 3) := by decide +kernel
theorem dX0_doCall_5 : decode cX0_doCall 5 = .ok (.invokevirtual 161, 3) := by decide +kernel
theorem dX0_doCall_8 : decode cX0_doCall 8 = .ok (.astore_n 3, 1) := by decide +kernel
theorem dX0_doCall_9 : decode cX0_doCall 9 = .ok (.aload_n 3, 1) := by decide +kernel
theorem dX0_doCall_10 : decode cX0_doCall 10 = .ok (.ifnull 15, 3) := by decide +kernel
theorem dX0_doCall_13 : decode cX0_doCall 13 = .ok (.aload_n 3, 1) := by decide +kernel
theorem dX0_doCall_14 : decode cX0_doCall 14 = .ok (.getfield 165, 3) := by decide +kernel
theorem dX0_doCall_17 : decode cX0_doCall 17 = .ok (.ifCond .gt 8, 3) := by decide +kernel
theorem dX0_doCall_20 : decode cX0_doCall 20 = .ok (.iload_n 2, 1) := by decide +kernel
theorem dX0_doCall_21 : decode cX0_doCall 21 = .ok (.iconst 4, 1) := by decide +kernel
theorem dX0_doCall_22 : decode cX0_doCall 22 = .ok (.if_icmp .lt 11, 3) := by decide +kernel
theorem dX0_doCall_25 : decode cX0_doCall 25 = .ok (.aload_n 0, 1) := by decide +kernel
theorem dX0_doCall_26 : decode cX0_doCall 26 = .ok (.bipush 10, 2) := by decide +kernel
theorem dX0_doCall_28 : decode cX0_doCall 28 = .ok (.aload_n 1, 1) := by decide +kernel
theorem dX0_doCall_29 : decode cX0_doCall 29 = .ok (.invokevirtual 95, 3) := by decide +kernel
theorem dX0_doCall_32 : decode cX0_doCall 32 = .ok (.ireturn, 1) := by decide +kernel
theorem dX0_doCall_33 : decode cX0_doCall 33 = .ok (.aload_n 0, 1) := by decide +kernel
theorem dX0_doCall_34 : decode cX0_doCall 34 = .ok (.aload_n 3, 1) := by decide +kernel
theorem dX0_doCall_35 : decode cX0_doCall 35 = .ok (.iconst 0, 1) := by decide +kernel
theorem dX0_doCall_36 : decode cX0_doCall 36 = .ok (.aload_n 3, 1) := by decide +kernel
theorem dX0_doCall_37 : decode cX0_doCall 37 = .ok (.getfield 60, 3) := by decide +kernel
theorem dX0_doCall_40 : decode cX0_doCall 40 = .ok (.aconst_null, 1) := by decide +kernel
theorem dX0_doCall_41 : decode cX0_doCall 41 = .ok (.iload_n 2, 1) := by decide +kernel
theorem dX0_doCall_42 : decode cX0_doCall 42 = .ok (.iconst 1, 1) := by decide +kernel
theorem dX0_doCall_43 : decode cX0_doCall 43 = .ok (.iadd, 1) := by decide +kernel
theorem dX0_doCall_44 : decode cX0_doCall 44 = .ok (.invokevirtual 63, 3) := by decide +kernel
theorem dX0_doCall_47 : decode cX0_doCall 47 = .ok (.istore 4, 2) := by decide +kernel
theorem dX0_doCall_49 : decode cX0_doCall 49 = .ok (.iload 4, 2) := by decide +kernel
theorem dX0_doCall_51 : decode cX0_doCall 51 = .ok (.iconst 3, 1) := by decide +kernel
theorem dX0_doCall_52 : decode cX0_doCall 52 = .ok (.if_icmp .ne 7, 3) := by decide +kernel
theorem dX0_doCall_55 : decode cX0_doCall 55 = .ok (.iconst 3, 1) := by decide +kernel
theorem dX0_doCall_56 : decode cX0_doCall 56 = .ok (.goto 4, 3) := by decide +kernel
theorem dX0_doCall_59 : decode cX0_doCall 59 = .ok (.iconst 0, 1) := by decide +kernel
theorem dX0_doCall_60 : decode cX0_doCall 60 = .ok (.ireturn, 1) := by decide +kernel
theorem dX0_isSo_0 : decode cX0_isSo 0 = .ok (.aload_n 0, 1) := by decide +kernel
theorem dX0_isSo_1 : decode cX0_isSo 1 = .ok (.getfield 32, 3) := by decide +kernel
theorem dX0_isSo_4 : decode cX0_isSo 4 = .ok (.aload_n 1, 1) := by decide +kernel
theorem dX0_isSo_5 : decode cX0_isSo 5 = .ok (.getfield 122, 3) := by decide +kernel
theorem dX0_isSo_8 : decode cX0_isSo 8 = .ok (.invokevirtual 168, 3) := by decide +kernel
theorem dX0_isSo_11 : decode cX0_isSo 11 = .ok (.dstore_n 2, 1) := by decide +kernel
theorem dX0_isSo_12 : decode cX0_isSo 12 = .ok (.aload_n 0, 1) := by decide +kernel
theorem dX0_isSo_13 : decode cX0_isSo 13 = .ok (.getfield 32, 3) := by decide +kernel
theorem dX0_isSo_16 : decode cX0_isSo 16 = .ok (.aload_n 1, 1) := by decide +kernel
theorem dX0_isSo_17 : decode cX0_isSo 17 = .ok (.getfield 172, 3) := by decide +kernel
theorem dX0_isSo_20 : decode cX0_isSo 20 = .ok (.invokevirtual 168, 3) := by decide +kernel
theorem dX0_isSo_23 : decode cX0_isSo 23 = .ok (.dstore 4, 2) := by decide +kernel
theorem dX0_isSo_25 : decode cX0_isSo 25 = .ok (.aload_n 1, 1) := by decide +kernel
theorem dX0_isSo_26 : decode cX0_isSo 26 = .ok (.getfield 175, 3) := by decide +kernel
theorem dX0_isSo_29 : decode cX0_isSo 29 = .ok (.tableswitch 66 0 2 #[27, 40, 53], 27) := by decide +kernel
theorem dX0_isSo_56 : decode cX0_isSo 56 = .ok (.dload_n 2, 1) := by decide +kernel
theorem dX0_isSo_57 : decode cX0_isSo 57 = .ok (.dload 4, 2) := by decide +kernel
theorem dX0_isSo_59 : decode cX0_isSo 59 = .ok (.dcmp .g, 1) := by decide +kernel
theorem dX0_isSo_60 : decode cX0_isSo 60 = .ok (.ifCond .ge 7, 3) := by decide +kernel
theorem dX0_isSo_63 : decode cX0_isSo 63 = .ok (.iconst 1, 1) := by decide +kernel
theorem dX0_isSo_64 : decode cX0_isSo 64 = .ok (.goto 4, 3) := by decide +kernel
theorem dX0_isSo_67 : decode cX0_isSo 67 = .ok (.iconst 0, 1) := by decide +kernel
theorem dX0_isSo_68 : decode cX0_isSo 68 = .ok (.ireturn, 1) := by decide +kernel
theorem dX0_isSo_69 : decode cX0_isSo 69 = .ok (.dload_n 2, 1) := by decide +kernel
theorem dX0_isSo_70 : decode cX0_isSo 70 = .ok (.dload 4, 2) := by decide +kernel
theorem dX0_isSo_72 : decode cX0_isSo 72 = .ok (.dcmp .l, 1) := by decide +kernel
theorem dX0_isSo_73 : decode cX0_isSo 73 = .ok (.ifCond .ne 7, 3) := by decide +kernel
theorem dX0_isSo_76 : decode cX0_isSo 76 = .ok (.iconst 1, 1) := by decide +kernel
theorem dX0_isSo_77 : decode cX0_isSo 77 = .ok (.goto 4, 3) := by decide +kernel
theorem dX0_isSo_80 : decode cX0_isSo 80 = .ok (.iconst 0, 1) := by decide +kernel
theorem dX0_isSo_81 : decode cX0_isSo 81 = .ok (.ireturn, 1) := by decide +kernel
theorem dX0_isSo_82 : decode cX0_isSo 82 = .ok (.dload_n 2, 1) := by decide +kernel
theorem dX0_isSo_83 : decode cX0_isSo 83 = .ok (.dload 4, 2) := by decide +kernel
theorem dX0_isSo_85 : decode cX0_isSo 85 = .ok (.dcmp .l, 1) := by decide +kernel
theorem dX0_isSo_86 : decode cX0_isSo 86 = .ok (.ifCond .eq 7, 3) := by decide +kernel
theorem dX0_isSo_89 : decode cX0_isSo 89 = .ok (.iconst 1, 1) := by decide +kernel
theorem dX0_isSo_90 : decode cX0_isSo 90 = .ok (.goto 4, 3) := by decide +kernel
theorem dX0_isSo_93 : decode cX0_isSo 93 = .ok (.iconst 0, 1) := by decide +kernel
theorem dX0_isSo_94 : decode cX0_isSo 94 = .ok (.ireturn, 1) := by decide +kernel
theorem dX0_isSo_95 : decode cX0_isSo 95 = .ok (.dload_n 2, 1) := by decide +kernel
theorem dX0_isSo_96 : decode cX0_isSo 96 = .ok (.dload 4, 2) := by decide +kernel
theorem dX0_isSo_98 : decode cX0_isSo 98 = .ok (.dcmp .l, 1) := by decide +kernel
theorem dX0_isSo_99 : decode cX0_isSo 99 = .ok (.ifCond .lt 7, 3) := by decide +kernel
theorem dX0_isSo_102 : decode cX0_isSo 102 = .ok (.iconst 1, 1) := by decide +kernel
theorem dX0_isSo_103 : decode cX0_isSo 103 = .ok (.goto 4, 3) := by decide +kernel
theorem dX0_isSo_106 : decode cX0_isSo 106 = .ok (.iconst 0, 1) := by decide +kernel
theorem dX0_isSo_107 : decode cX0_isSo 107 = .ok (.ireturn, 1) := by decide +kernel
theorem dX0_useCaught_0 : decode cX0_useCaught 0 = .ok (.aload_n 1, 1) := by decide +kernel
theorem dX0_useCaught_1 : decode cX0_useCaught 1 = .ok (.getfield 99, 3) := by decide +kernel
theorem dX0_useCaught_4 : decode cX0_useCaught 4 = .ok (.lookupswitch 75 #[(8, 28), (9, 34)], 28) := by decide +kernel
theorem dX0_useCaught_32 : decode cX0_useCaught 32 = .ok (.aload_n 0, 1) := by decide +kernel
theorem dX0_useCaught_33 : decode cX0_useCaught 33 = .ok (.aload_n 2, 1) := by decide +kernel
theorem dX0_useCaught_34 : decode cX0_useCaught 34 = .ok (.invokevirtual 128, 3) := by decide +kernel
theorem dX0_useCaught_37 : decode cX0_useCaught 37 = .ok (.ireturn, 1) := by decide +kernel
theorem dX0_useCaught_38 : decode cX0_useCaught 38 = .ok (.aload_n 2, 1) := by decide +kernel
theorem dX0_useCaught_39 : decode cX0_useCaught 39 = .ok (.getfield 178, 3) := by decide +kernel
theorem dX0_useCaught_42 : decode cX0_useCaught 42 = .ok (.iconst 5, 1) := by decide +kernel
theorem dX0_useCaught_43 : decode cX0_useCaught 43 = .ok (.if_icmp .lt 13, 3) := by decide +kernel
theorem dX0_useCaught_46 : decode cX0_useCaught 46 = .ok (.aload_n 0, 1) := by decide +kernel
theorem dX0_useCaught_47 : decode cX0_useCaught 47 = .ok (.bipush 10, 2) := by decide +kernel
theorem dX0_useCaught_49 : decode cX0_useCaught 49 = .ok (.aload_n 1, 1) := by decide +kernel
theorem dX0_useCaught_50 : decode cX0_useCaught 50 = .ok (.invokevirtual 95, 3) := by decide +kernel
theorem dX0_useCaught_53 : decode cX0_useCaught 53 = .ok (.goto 25, 3) := by decide +kernel
theorem dX0_useCaught_56 : decode cX0_useCaught 56 = .ok (.aload_n 0, 1) := by decide +kernel
theorem dX0_useCaught_57 : decode cX0_useCaught 57 = .ok (.new 68, 3) := by decide +kernel
theorem dX0_useCaught_60 : decode cX0_useCaught 60 = .ok (.dup, 1) := by decide +kernel
theorem dX0_useCaught_61 : decode cX0_useCaught 61 = .ok (.bipush 11, 2) := by decide +kernel
theorem dX0_useCaught_63 : decode cX0_useCaught 63 = .ok (.aload_n 1, 1) := by decide +kernel
theorem dX0_useCaught_64 : decode cX0_useCaught 64 = .ok (.getfield 119, 3) := by decide +kernel
theorem dX0_useCaught_67 : decode cX0_useCaught 67 = .ok (.aload_n 1, 1) := by decide +kernel
theorem dX0_useCaught_68 : decode cX0_useCaught 68 = .ok (.getfield 122, 3) := by decide +kernel
theorem dX0_useCaught_71 : decode cX0_useCaught 71 = .ok (.aload_n 2, 1) := by decide +kernel
theorem dX0_useCaught_72 : decode cX0_useCaught 72 = .ok (.invokespecial 125, 3) := by decide +kernel
theorem dX0_useCaught_75 : decode cX0_useCaught 75 = .ok (.invokevirtual 128, 3) := by decide +kernel
theorem dX0_useCaught_78 : decode cX0_useCaught 78 = .ok (.ireturn, 1) := by decide +kernel
theorem dX0_useCaught_79 : decode cX0_useCaught 79 = .ok (.aload_n 0, 1) := by decide +kernel
theorem dX0_useCaught_80 : decode cX0_useCaught 80 = .ok (.getfield 39, 3) := by decide +kernel
theorem dX0_useCaught_83 : decode cX0_useCaught 83 = .ok (.aload_n 2, 1) := by decide +kernel
theorem dX0_useCaught_84 : decode cX0_useCaught 84 = .ok (.getfield 67, 3) := by decide +kernel
theorem dX0_useCaught_87 : decode cX0_useCaught 87 = .ok (.i2d, 1) := by decide +kernel
theorem dX0_useCaught_88 : decode cX0_useCaught 88 = .ok (.invokevirtual 181, 3) := by decide +kernel
theorem dX0_useCaught_91 : decode cX0_useCaught 91 = .ok (.aload_n 0, 1) := by decide +kernel
theorem dX0_useCaught_92 : decode cX0_useCaught 92 = .ok (.getfield 39, 3) := by decide +kernel
theorem dX0_useCaught_95 : decode cX0_useCaught 95 = .ok (.aload_n 2, 1) := by decide +kernel
theorem dX0_useCaught_96 : decode cX0_useCaught 96 = .ok (.getfield 185, 3) := by decide +kernel
theorem dX0_useCaught_99 : decode cX0_useCaught 99 = .ok (.i2d, 1) := by decide +kernel
theorem dX0_useCaught_100 : decode cX0_useCaught 100 = .ok (.invokevirtual 181, 3) := by decide +kernel
theorem dX0_useCaught_103 : decode cX0_useCaught 103 = .ok (.aload_n 0, 1) := by decide +kernel
theorem dX0_useCaught_104 : decode cX0_useCaught 104 = .ok (.getfield 39, 3) := by decide +kernel
theorem dX0_useCaught_107 : decode cX0_useCaught 107 = .ok (.aload_n 2, 1) := by decide +kernel
theorem dX0_useCaught_108 : decode cX0_useCaught 108 = .ok (.getfield 186, 3) := by decide +kernel
theorem dX0_useCaught_111 : decode cX0_useCaught 111 = .ok (.i2d, 1) := by decide +kernel
theorem dX0_useCaught_112 : decode cX0_useCaught 112 = .ok (.invokevirtual 181, 3) := by decide +kernel
theorem dX0_useCaught_115 : decode cX0_useCaught 115 = .ok (.aload_n 0, 1) := by decide +kernel
theorem dX0_useCaught_116 : decode cX0_useCaught 116 = .ok (.getfield 39, 3) := by decide +kernel
theorem dX0_useCaught_119 : decode cX0_useCaught 119 = .ok (.aload_n 2, 1) := by decide +kernel
theorem dX0_useCaught_120 : decode cX0_useCaught 120 = .ok (.getfield 178, 3) := by decide +kernel
theorem dX0_useCaught_123 : decode cX0_useCaught 123 = .ok (.i2d, 1) := by decide +kernel
theorem dX0_useCaught_124 : decode cX0_useCaught 124 = .ok (.invokevirtual 181, 3) := by decide +kernel
theorem dX0_useCaught_127 : decode cX0_useCaught 127 = .ok (.iconst 0, 1) := by decide +kernel
theorem dX0_useCaught_128 : decode cX0_useCaught 128 = .ok (.ireturn, 1) := by decide +kernel
theorem dX0_workWithRow_0 : decode cX0_workWithRow 0 = .ok (.aload_n 0, 1) := by decide +kernel
theorem dX0_workWithRow_1 : decode cX0_workWithRow 1 = .ok (.aload_n 1, 1) := by decide +kernel
theorem dX0_workWithRow_2 : decode cX0_workWithRow 2 = .ok (.getfield 122, 3) := by decide +kernel
theorem dX0_workWithRow_5 : decode cX0_workWithRow 5 = .ok (.invokevirtual 189, 3) := by decide +kernel
theorem dX0_workWithRow_8 : decode cX0_workWithRow 8 = .ok (.astore_n 2, 1) := by decide +kernel
theorem dX0_workWithRow_9 : decode cX0_workWithRow 9 = .ok (.aload_n 2, 1) := by decide +kernel
theorem dX0_workWithRow_10 : decode cX0_workWithRow 10 = .ok (.ifnonnull 5, 3) := by decide +kernel
theorem dX0_workWithRow_13 : decode cX0_workWithRow 13 = .ok (.iconst 3, 1) := by decide +kernel
theorem dX0_workWithRow_14 : decode cX0_workWithRow 14 = .ok (.ireturn, 1) := by decide +kernel
theorem dX0_workWithRow_15 : decode cX0_workWithRow 15 = .ok (.aload_n 0, 1) := by decide +kernel
theorem dX0_workWithRow_16 : decode cX0_workWithRow 16 = .ok (.getfield 32, 3) := by decide +kernel
theorem dX0_workWithRow_19 : decode cX0_workWithRow 19 = .ok (.aload_n 1, 1) := by decide +kernel
theorem dX0_workWithRow_20 : decode cX0_workWithRow 20 = .ok (.getfield 175, 3) := by decide +kernel
theorem dX0_workWithRow_23 : decode cX0_workWithRow 23 = .ok (.invokevirtual 193, 3) := by decide +kernel
theorem dX0_workWithRow_26 : decode cX0_workWithRow 26 = .ok (.istore_n 3, 1) := by decide +kernel
theorem dX0_workWithRow_27 : decode cX0_workWithRow 27 = .ok (.aload_n 1, 1) := by decide +kernel
theorem dX0_workWithRow_28 : decode cX0_workWithRow 28 = .ok (.getfield 99, 3) := by decide +kernel
theorem dX0_workWithRow_31 : decode cX0_workWithRow 31 = .ok (.tableswitch 101 13 17 #[33, 39, 45, 73, 84], 33) := by decide +kernel
theorem dX0_workWithRow_64 : decode cX0_workWithRow 64 = .ok (.aload_n 2, 1) := by decide +kernel
theorem dX0_workWithRow_65 : decode cX0_workWithRow 65 = .ok (.iload_n 3, 1) := by decide +kernel
theorem dX0_workWithRow_66 : decode cX0_workWithRow 66 = .ok (.invokevirtual 197, 3) := by decide +kernel
theorem dX0_workWithRow_69 : decode cX0_workWithRow 69 = .ok (.ireturn, 1) := by decide +kernel
theorem dX0_workWithRow_70 : decode cX0_workWithRow 70 = .ok (.aload_n 2, 1) := by decide +kernel
theorem dX0_workWithRow_71 : decode cX0_workWithRow 71 = .ok (.invokevirtual 200, 3) := by decide +kernel
theorem dX0_workWithRow_74 : decode cX0_workWithRow 74 = .ok (.iconst 0, 1) := by decide +kernel
theorem dX0_workWithRow_75 : decode cX0_workWithRow 75 = .ok (.ireturn, 1) := by decide +kernel
theorem dX0_workWithRow_76 : decode cX0_workWithRow 76 = .ok (.aload_n 2, 1) := by decide +kernel
theorem dX0_workWithRow_77 : decode cX0_workWithRow 77 = .ok (.getfield 203, 3) := by decide +kernel
theorem dX0_workWithRow_80 : decode cX0_workWithRow 80 = .ok (.ifCond .ge 7, 3) := by decide +kernel
theorem dX0_workWithRow_83 : decode cX0_workWithRow 83 = .ok (.iconst 3, 1) := by decide +kernel
theorem dX0_workWithRow_84 : decode cX0_workWithRow 84 = .ok (.goto 19, 3) := by decide +kernel
theorem dX0_workWithRow_87 : decode cX0_workWithRow 87 = .ok (.aload_n 0, 1) := by decide +kernel
theorem dX0_workWithRow_88 : decode cX0_workWithRow 88 = .ok (.getfield 32, 3) := by decide +kernel
theorem dX0_workWithRow_91 : decode cX0_workWithRow 91 = .ok (.aload_n 1, 1) := by decide +kernel
theorem dX0_workWithRow_92 : decode cX0_workWithRow 92 = .ok (.getfield 175, 3) := by decide +kernel
theorem dX0_workWithRow_95 : decode cX0_workWithRow 95 = .ok (.aload_n 2, 1) := by decide +kernel
theorem dX0_workWithRow_96 : decode cX0_workWithRow 96 = .ok (.getfield 203, 3) := by decide +kernel
theorem dX0_workWithRow_99 : decode cX0_workWithRow 99 = .ok (.i2d, 1) := by decide +kernel
theorem dX0_workWithRow_100 : decode cX0_workWithRow 100 = .ok (.invokevirtual 206, 3) := by decide +kernel
theorem dX0_workWithRow_103 : decode cX0_workWithRow 103 = .ok (.ireturn, 1) := by decide +kernel
theorem dX0_workWithRow_104 : decode cX0_workWithRow 104 = .ok (.aload_n 0, 1) := by decide +kernel
theorem dX0_workWithRow_105 : decode cX0_workWithRow 105 = .ok (.aload_n 1, 1) := by decide +kernel
theorem dX0_workWithRow_106 : decode cX0_workWithRow 106 = .ok (.getfield 172, 3) := by decide +kernel
theorem dX0_workWithRow_109 : decode cX0_workWithRow 109 = .ok (.aload_n 2, 1) := by decide +kernel
theorem dX0_workWithRow_110 : decode cX0_workWithRow 110 = .ok (.iload_n 3, 1) := by decide +kernel
theorem dX0_workWithRow_111 : decode cX0_workWithRow 111 = .ok (.invokevirtual 210, 3) := by decide +kernel
theorem dX0_workWithRow_114 : decode cX0_workWithRow 114 = .ok (.ireturn, 1) := by decide +kernel
theorem dX0_workWithRow_115 : decode cX0_workWithRow 115 = .ok (.aload_n 2, 1) := by decide +kernel
theorem dX0_workWithRow_116 : decode cX0_workWithRow 116 = .ok (.iload_n 3, 1) := by decide +kernel
theorem dX0_workWithRow_117 : decode cX0_workWithRow 117 = .ok (.aload_n 0, 1) := by decide +kernel
theorem dX0_workWithRow_118 : decode cX0_workWithRow 118 = .ok (.getfield 32, 3) := by decide +kernel
theorem dX0_workWithRow_121 : decode cX0_workWithRow 121 = .ok (.aload_n 1, 1) := by decide +kernel
theorem dX0_workWithRow_122 : decode cX0_workWithRow 122 = .ok (.getfield 172, 3) := by decide +kernel
theorem dX0_workWithRow_125 : decode cX0_workWithRow 125 = .ok (.invokevirtual 168, 3) := by decide +kernel
theorem dX0_workWithRow_128 : decode cX0_workWithRow 128 = .ok (.invokevirtual 214, 3) := by decide +kernel
theorem dX0_workWithRow_131 : decode cX0_workWithRow 131 = .ok (.ireturn, 1) := by decide +kernel
theorem dX0_workWithRow_132 : decode cX0_workWithRow 132 = .ok (.aload_n 2, 1) := by decide +kernel
theorem dX0_workWithRow_133 : decode cX0_workWithRow 133 = .ok (.iload_n 3, 1) := by decide +kernel
theorem dX0_workWithRow_134 : decode cX0_workWithRow 134 = .ok (.invokevirtual 217, 3) := by decide +kernel
theorem dX0_workWithRow_137 : decode cX0_workWithRow 137 = .ok (.ireturn, 1) := by decide +kernel
theorem dX0_getInto_0 : decode cX0_getInto 0 = .ok (.aload_n 2, 1) := by decide +kernel
theorem dX0_getInto_1 : decode cX0_getInto 1 = .ok (.iload_n 3, 1) := by decide +kernel
theorem dX0_getInto_2 : decode cX0_getInto 2 = .ok (.iconst 0, 1) := by decide +kernel
theorem dX0_getInto_3 : decode cX0_getInto 3 = .ok (.invokevirtual 220, 3) := by decide +kernel
theorem dX0_getInto_6 : decode cX0_getInto 6 = .ok (.istore 4, 2) := by decide +kernel
theorem dX0_getInto_8 : decode cX0_getInto 8 = .ok (.iload 4, 2) := by decide +kernel
theorem dX0_getInto_10 : decode cX0_getInto 10 = .ok (.ifCond .ne 19, 3) := by decide +kernel
theorem dX0_getInto_13 : decode cX0_getInto 13 = .ok (.aload_n 0, 1) := by decide +kernel
theorem dX0_getInto_14 : decode cX0_getInto 14 = .ok (.getfield 32, 3) := by decide +kernel
theorem dX0_getInto_17 : decode cX0_getInto 17 = .ok (.iload_n 1, 1) := by decide +kernel
theorem dX0_getInto_18 : decode cX0_getInto 18 = .ok (.aload_n 2, 1) := by decide +kernel
theorem dX0_getInto_19 : decode cX0_getInto 19 = .ok (.iload_n 3, 1) := by decide +kernel
theorem dX0_getInto_20 : decode cX0_getInto 20 = .ok (.invokevirtual 224, 3) := by decide +kernel
theorem dX0_getInto_23 : decode cX0_getInto 23 = .ok (.invokevirtual 206, 3) := by decide +kernel
theorem dX0_getInto_26 : decode cX0_getInto 26 = .ok (.goto 5, 3) := by decide +kernel
theorem dX0_getInto_29 : decode cX0_getInto 29 = .ok (.iload 4, 2) := by decide +kernel
theorem dX0_getInto_31 : decode cX0_getInto 31 = .ok (.ireturn, 1) := by decide +kernel
theorem dX0_workWithDials_0 : decode cX0_workWithDials 0 = .ok (.aload_n 1, 1) := by decide +kernel
theorem dX0_workWithDials_1 : decode cX0_workWithDials 1 = .ok (.getfield 99, 3) := by decide +kernel
theorem dX0_workWithDials_4 : decode cX0_workWithDials 4 = .ok (.tableswitch 81 19 23 #[36, 57, 63, 69, 75], 36) := by decide +kernel
theorem dX0_workWithDials_40 : decode cX0_workWithDials 40 = .ok (.aload_n 0, 1) := by decide +kernel
theorem dX0_workWithDials_41 : decode cX0_workWithDials 41 = .ok (.getfield 32, 3) := by decide +kernel
theorem dX0_workWithDials_44 : decode cX0_workWithDials 44 = .ok (.aload_n 1, 1) := by decide +kernel
theorem dX0_workWithDials_45 : decode cX0_workWithDials 45 = .ok (.getfield 122, 3) := by decide +kernel
theorem dX0_workWithDials_48 : decode cX0_workWithDials 48 = .ok (.aload_n 1, 1) := by decide +kernel
theorem dX0_workWithDials_49 : decode cX0_workWithDials 49 = .ok (.getfield 175, 3) := by decide +kernel
theorem dX0_workWithDials_52 : decode cX0_workWithDials 52 = .ok (.i2d, 1) := by decide +kernel
theorem dX0_workWithDials_53 : decode cX0_workWithDials 53 = .ok (.ldc2_w 227, 3) := by decide +kernel
theorem dX0_workWithDials_56 : decode cX0_workWithDials 56 = .ok (.ddiv, 1) := by decide +kernel
theorem dX0_workWithDials_57 : decode cX0_workWithDials 57 = .ok (.invokevirtual 206, 3) := by decide +kernel
theorem dX0_workWithDials_60 : decode cX0_workWithDials 60 = .ok (.ireturn, 1) := by decide +kernel
theorem dX0_workWithDials_61 : decode cX0_workWithDials 61 = .ok (.aload_n 0, 1) := by decide +kernel
theorem dX0_workWithDials_62 : decode cX0_workWithDials 62 = .ok (.aload_n 1, 1) := by decide +kernel
theorem dX0_workWithDials_63 : decode cX0_workWithDials 63 = .ok (.invokevirtual 229, 3) := by decide +kernel
theorem dX0_workWithDials_66 : decode cX0_workWithDials 66 = .ok (.ireturn, 1) := by decide +kernel
theorem dX0_workWithDials_67 : decode cX0_workWithDials 67 = .ok (.aload_n 0, 1) := by decide +kernel
theorem dX0_workWithDials_68 : decode cX0_workWithDials 68 = .ok (.aload_n 1, 1) := by decide +kernel
theorem dX0_workWithDials_69 : decode cX0_workWithDials 69 = .ok (.invokevirtual 232, 3) := by decide +kernel
theorem dX0_workWithDials_72 : decode cX0_workWithDials 72 = .ok (.ireturn, 1) := by decide +kernel
theorem dX0_workWithDials_73 : decode cX0_workWithDials 73 = .ok (.aload_n 0, 1) := by decide +kernel
theorem dX0_workWithDials_74 : decode cX0_workWithDials 74 = .ok (.aload_n 1, 1) := by decide +kernel
theorem dX0_workWithDials_75 : decode cX0_workWithDials 75 = .ok (.invokevirtual 235, 3) := by decide +kernel
theorem dX0_workWithDials_78 : decode cX0_workWithDials 78 = .ok (.ireturn, 1) := by decide +kernel
theorem dX0_workWithDials_79 : decode cX0_workWithDials 79 = .ok (.aload_n 0, 1) := by decide +kernel
theorem dX0_workWithDials_80 : decode cX0_workWithDials 80 = .ok (.aload_n 1, 1) := by decide +kernel
theorem dX0_workWithDials_81 : decode cX0_workWithDials 81 = .ok (.invokevirtual 238, 3) := by decide +kernel
theorem dX0_workWithDials_84 : decode cX0_workWithDials 84 = .ok (.ireturn, 1) := by decide +kernel
theorem dX0_workWithDials_85 : decode cX0_workWithDials 85 = .ok (.aload_n 0, 1) := by decide +kernel
theorem dX0_workWithDials_86 : decode cX0_workWithDials 86 = .ok (.getfield 39, 3) := by decide +kernel
theorem dX0_workWithDials_89 : decode cX0_workWithDials 89 = .ok (.aload_n 0, 1) := by decide +kernel
theorem dX0_workWithDials_90 : decode cX0_workWithDials 90 = .ok (.getfield 32, 3) := by decide +kernel
theorem dX0_workWithDials_93 : decode cX0_workWithDials 93 = .ok (.aload_n 1, 1) := by decide +kernel
theorem dX0_workWithDials_94 : decode cX0_workWithDials 94 = .ok (.getfield 122, 3) := by decide +kernel
theorem dX0_workWithDials_97 : decode cX0_workWithDials 97 = .ok (.invokevirtual 168, 3) := by decide +kernel
theorem dX0_workWithDials_100 : decode cX0_workWithDials 100 = .ok (.invokevirtual 181, 3) := by decide +kernel
theorem dX0_workWithDials_103 : decode cX0_workWithDials 103 = .ok (.iconst 0, 1) := by decide +kernel
theorem dX0_workWithDials_104 : decode cX0_workWithDials 104 = .ok (.ireturn, 1) := by decide +kernel
theorem dX0_doFine_0 : decode cX0_doFine 0 = .ok (.aload_n 0, 1) := by decide +kernel
theorem dX0_doFine_1 : decode cX0_doFine 1 = .ok (.getfield 32, 3) := by decide +kernel
theorem dX0_doFine_4 : decode cX0_doFine 4 = .ok (.aload_n 1, 1) := by decide +kernel
theorem dX0_doFine_5 : decode cX0_doFine 5 = .ok (.getfield 175, 3) := by decide +kernel
theorem dX0_doFine_8 : decode cX0_doFine 8 = .ok (.invokevirtual 168, 3) := by decide +kernel
theorem dX0_doFine_11 : decode cX0_doFine 11 = .ok (.dstore_n 2, 1) := by decide +kernel
theorem dX0_doFine_12 : decode cX0_doFine 12 = .ok (.aload_n 0, 1) := by decide +kernel
theorem dX0_doFine_13 : decode cX0_doFine 13 = .ok (.getfield 32, 3) := by decide +kernel
theorem dX0_doFine_16 : decode cX0_doFine 16 = .ok (.aload_n 1, 1) := by decide +kernel
theorem dX0_doFine_17 : decode cX0_doFine 17 = .ok (.getfield 172, 3) := by decide +kernel
theorem dX0_doFine_20 : decode cX0_doFine 20 = .ok (.invokevirtual 168, 3) := by decide +kernel
theorem dX0_doFine_23 : decode cX0_doFine 23 = .ok (.dstore 4, 2) := by decide +kernel
theorem dX0_doFine_25 : decode cX0_doFine 25 = .ok (.aload_n 1, 1) := by decide +kernel
theorem dX0_doFine_26 : decode cX0_doFine 26 = .ok (.getfield 122, 3) := by decide +kernel
theorem dX0_doFine_29 : decode cX0_doFine 29 = .ok (.invokestatic 241, 3) := by decide +kernel
theorem dX0_doFine_32 : decode cX0_doFine 32 = .ok (.ifCond .eq 13, 3) := by decide +kernel
theorem dX0_doFine_35 : decode cX0_doFine 35 = .ok (.dload 4, 2) := by decide +kernel
theorem dX0_doFine_37 : decode cX0_doFine 37 = .ok (.dconst 0, 1) := by decide +kernel
theorem dX0_doFine_38 : decode cX0_doFine 38 = .ok (.dcmp .l, 1) := by decide +kernel
theorem dX0_doFine_39 : decode cX0_doFine 39 = .ok (.ifCond .ne 6, 3) := by decide +kernel
theorem dX0_doFine_42 : decode cX0_doFine 42 = .ok (.bipush 7, 2) := by decide +kernel
theorem dX0_doFine_44 : decode cX0_doFine 44 = .ok (.ireturn, 1) := by decide +kernel
theorem dX0_doFine_45 : decode cX0_doFine 45 = .ok (.aload_n 0, 1) := by decide +kernel
theorem dX0_doFine_46 : decode cX0_doFine 46 = .ok (.getfield 32, 3) := by decide +kernel
theorem dX0_doFine_49 : decode cX0_doFine 49 = .ok (.aload_n 1, 1) := by decide +kernel
theorem dX0_doFine_50 : decode cX0_doFine 50 = .ok (.getfield 175, 3) := by decide +kernel
theorem dX0_doFine_53 : decode cX0_doFine 53 = .ok (.aload_n 1, 1) := by decide +kernel
theorem dX0_doFine_54 : decode cX0_doFine 54 = .ok (.getfield 122, 3) := by decide +kernel
theorem dX0_doFine_57 : decode cX0_doFine 57 = .ok (.dload_n 2, 1) := by decide +kernel
theorem dX0_doFine_58 : decode cX0_doFine 58 = .ok (.dload 4, 2) := by decide +kernel
theorem dX0_doFine_60 : decode cX0_doFine 60 = .ok (.invokestatic 247, 3) := by decide +kernel
theorem dX0_doFine_63 : decode cX0_doFine 63 = .ok (.invokevirtual 206, 3) := by decide +kernel
theorem dX0_doFine_66 : decode cX0_doFine 66 = .ok (.ireturn, 1) := by decide +kernel
theorem dX0_doRough_0 : decode cX0_doRough 0 = .ok (.aload_n 0, 1) := by decide +kernel
theorem dX0_doRough_1 : decode cX0_doRough 1 = .ok (.getfield 32, 3) := by decide +kernel
theorem dX0_doRough_4 : decode cX0_doRough 4 = .ok (.aload_n 1, 1) := by decide +kernel
theorem dX0_doRough_5 : decode cX0_doRough 5 = .ok (.getfield 175, 3) := by decide +kernel
theorem dX0_doRough_8 : decode cX0_doRough 8 = .ok (.invokevirtual 168, 3) := by decide +kernel
theorem dX0_doRough_11 : decode cX0_doRough 11 = .ok (.d2f, 1) := by decide +kernel
theorem dX0_doRough_12 : decode cX0_doRough 12 = .ok (.fstore_n 2, 1) := by decide +kernel
theorem dX0_doRough_13 : decode cX0_doRough 13 = .ok (.aload_n 0, 1) := by decide +kernel
theorem dX0_doRough_14 : decode cX0_doRough 14 = .ok (.getfield 32, 3) := by decide +kernel
theorem dX0_doRough_17 : decode cX0_doRough 17 = .ok (.aload_n 1, 1) := by decide +kernel
theorem dX0_doRough_18 : decode cX0_doRough 18 = .ok (.getfield 172, 3) := by decide +kernel
theorem dX0_doRough_21 : decode cX0_doRough 21 = .ok (.invokevirtual 168, 3) := by decide +kernel
theorem dX0_doRough_24 : decode cX0_doRough 24 = .ok (.d2f, 1) := by decide +kernel
theorem dX0_doRough_25 : decode cX0_doRough 25 = .ok (.fstore_n 3, 1) := by decide +kernel
theorem dX0_doRough_26 : decode cX0_doRough 26 = .ok (.aload_n 1, 1) := by decide +kernel
theorem dX0_doRough_27 : decode cX0_doRough 27 = .ok (.getfield 122, 3) := by decide +kernel
theorem dX0_doRough_30 : decode cX0_doRough 30 = .ok (.invokestatic 241, 3) := by decide +kernel
theorem dX0_doRough_33 : decode cX0_doRough 33 = .ok (.ifCond .eq 12, 3) := by decide +kernel
theorem dX0_doRough_36 : decode cX0_doRough 36 = .ok (.fload_n 3, 1) := by decide +kernel
theorem dX0_doRough_37 : decode cX0_doRough 37 = .ok (.fconst 0, 1) := by decide +kernel
theorem dX0_doRough_38 : decode cX0_doRough 38 = .ok (.fcmp .l, 1) := by decide +kernel
theorem dX0_doRough_39 : decode cX0_doRough 39 = .ok (.ifCond .ne 6, 3) := by decide +kernel
theorem dX0_doRough_42 : decode cX0_doRough 42 = .ok (.bipush 7, 2) := by decide +kernel
theorem dX0_doRough_44 : decode cX0_doRough 44 = .ok (.ireturn, 1) := by decide +kernel
theorem dX0_doRough_45 : decode cX0_doRough 45 = .ok (.aload_n 0, 1) := by decide +kernel
theorem dX0_doRough_46 : decode cX0_doRough 46 = .ok (.getfield 32, 3) := by decide +kernel
theorem dX0_doRough_49 : decode cX0_doRough 49 = .ok (.aload_n 1, 1) := by decide +kernel
theorem dX0_doRough_50 : decode cX0_doRough 50 = .ok (.getfield 175, 3) := by decide +kernel
theorem dX0_doRough_53 : decode cX0_doRough 53 = .ok (.aload_n 1, 1) := by decide +kernel
theorem dX0_doRough_54 : decode cX0_doRough 54 = .ok (.getfield 122, 3) := by decide +kernel
theorem dX0_doRough_57 : decode cX0_doRough 57 = .ok (.invokestatic 251, 3) := by decide +kernel
theorem dX0_doRough_60 : decode cX0_doRough 60 = .ok (.ifCond .eq 16, 3) := by decide +kernel
theorem dX0_doRough_63 : decode cX0_doRough 63 = .ok (.aload_n 1, 1) := by decide +kernel
theorem dX0_doRough_64 : decode cX0_doRough 64 = .ok (.getfield 122, 3) := by decide +kernel
theorem dX0_doRough_67 : decode cX0_doRough 67 = .ok (.fload_n 2, 1) := by decide +kernel
theorem dX0_doRough_68 : decode cX0_doRough 68 = .ok (.fload_n 3, 1) := by decide +kernel
theorem dX0_doRough_69 : decode cX0_doRough 69 = .ok (.invokestatic 254, 3) := by decide +kernel
theorem dX0_doRough_72 : decode cX0_doRough 72 = .ok (.f2d, 1) := by decide +kernel
theorem dX0_doRough_73 : decode cX0_doRough 73 = .ok (.goto 14, 3) := by decide +kernel
theorem dX0_doRough_76 : decode cX0_doRough 76 = .ok (.aload_n 1, 1) := by decide +kernel
theorem dX0_doRough_77 : decode cX0_doRough 77 = .ok (.getfield 122, 3) := by decide +kernel
theorem dX0_doRough_80 : decode cX0_doRough 80 = .ok (.fload_n 2, 1) := by decide +kernel
theorem dX0_doRough_81 : decode cX0_doRough 81 = .ok (.f2d, 1) := by decide +kernel
theorem dX0_doRough_82 : decode cX0_doRough 82 = .ok (.fload_n 3, 1) := by decide +kernel
theorem dX0_doRough_83 : decode cX0_doRough 83 = .ok (.f2d, 1) := by decide +kernel
theorem dX0_doRough_84 : decode cX0_doRough 84 = .ok (.invokestatic 247, 3) := by decide +kernel
theorem dX0_doRough_87 : decode cX0_doRough 87 = .ok (.invokevirtual 206, 3) := by decide +kernel
theorem dX0_doRough_90 : decode cX0_doRough 90 = .ok (.ireturn, 1) := by decide +kernel
theorem dX0_doWhole_0 : decode cX0_doWhole 0 = .ok (.aload_n 0, 1) := by decide +kernel
theorem dX0_doWhole_1 : decode cX0_doWhole 1 = .ok (.getfield 32, 3) := by decide +kernel
theorem dX0_doWhole_4 : decode cX0_doWhole 4 = .ok (.aload_n 1, 1) := by decide +kernel
theorem dX0_doWhole_5 : decode cX0_doWhole 5 = .ok (.getfield 175, 3) := by decide +kernel
theorem dX0_doWhole_8 : decode cX0_doWhole 8 = .ok (.invokevirtual 193, 3) := by decide +kernel
theorem dX0_doWhole_11 : decode cX0_doWhole 11 = .ok (.istore_n 2, 1) := by decide +kernel
theorem dX0_doWhole_12 : decode cX0_doWhole 12 = .ok (.aload_n 0, 1) := by decide +kernel
theorem dX0_doWhole_13 : decode cX0_doWhole 13 = .ok (.getfield 32, 3) := by decide +kernel
theorem dX0_doWhole_16 : decode cX0_doWhole 16 = .ok (.aload_n 1, 1) := by decide +kernel
theorem dX0_doWhole_17 : decode cX0_doWhole 17 = .ok (.getfield 172, 3) := by decide +kernel
theorem dX0_doWhole_20 : decode cX0_doWhole 20 = .ok (.invokevirtual 193, 3) := by decide +kernel
theorem dX0_doWhole_23 : decode cX0_doWhole 23 = .ok (.istore_n 3, 1) := by decide +kernel
theorem dX0_doWhole_24 : decode cX0_doWhole 24 = .ok (.aload_n 1, 1) := by decide +kernel
theorem dX0_doWhole_25 : decode cX0_doWhole 25 = .ok (.getfield 122, 3) := by decide +kernel
theorem dX0_doWhole_28 : decode cX0_doWhole 28 = .ok (.invokestatic 241, 3) := by decide +kernel
theorem dX0_doWhole_31 : decode cX0_doWhole 31 = .ok (.ifCond .eq 10, 3) := by decide +kernel
theorem dX0_doWhole_34 : decode cX0_doWhole 34 = .ok (.iload_n 3, 1) := by decide +kernel
theorem dX0_doWhole_35 : decode cX0_doWhole 35 = .ok (.ifCond .ne 6, 3) := by decide +kernel
theorem dX0_doWhole_38 : decode cX0_doWhole 38 = .ok (.bipush 7, 2) := by decide +kernel
theorem dX0_doWhole_40 : decode cX0_doWhole 40 = .ok (.ireturn, 1) := by decide +kernel
theorem dX0_doWhole_41 : decode cX0_doWhole 41 = .ok (.aload_n 0, 1) := by decide +kernel
theorem dX0_doWhole_42 : decode cX0_doWhole 42 = .ok (.getfield 32, 3) := by decide +kernel
theorem dX0_doWhole_45 : decode cX0_doWhole 45 = .ok (.aload_n 1, 1) := by decide +kernel
theorem dX0_doWhole_46 : decode cX0_doWhole 46 = .ok (.getfield 175, 3) := by decide +kernel
theorem dX0_doWhole_49 : decode cX0_doWhole 49 = .ok (.aload_n 1, 1) := by decide +kernel
theorem dX0_doWhole_50 : decode cX0_doWhole 50 = .ok (.getfield 122, 3) := by decide +kernel
theorem dX0_doWhole_53 : decode cX0_doWhole 53 = .ok (.iload_n 2, 1) := by decide +kernel
theorem dX0_doWhole_54 : decode cX0_doWhole 54 = .ok (.iload_n 3, 1) := by decide +kernel
theorem dX0_doWhole_55 : decode cX0_doWhole 55 = .ok (.invokestatic 258, 3) := by decide +kernel
theorem dX0_doWhole_58 : decode cX0_doWhole 58 = .ok (.i2d, 1) := by decide +kernel
theorem dX0_doWhole_59 : decode cX0_doWhole 59 = .ok (.invokevirtual 206, 3) := by decide +kernel
theorem dX0_doWhole_62 : decode cX0_doWhole 62 = .ok (.ireturn, 1) := by decide +kernel
theorem dX0_doWide_0 : decode cX0_doWide 0 = .ok (.aload_n 0, 1) := by decide +kernel
theorem dX0_doWide_1 : decode cX0_doWide 1 = .ok (.getfield 32, 3) := by decide +kernel
theorem dX0_doWide_4 : decode cX0_doWide 4 = .ok (.aload_n 1, 1) := by decide +kernel
theorem dX0_doWide_5 : decode cX0_doWide 5 = .ok (.getfield 175, 3) := by decide +kernel
theorem dX0_doWide_8 : decode cX0_doWide 8 = .ok (.invokevirtual 168, 3) := by decide +kernel
theorem dX0_doWide_11 : decode cX0_doWide 11 = .ok (.d2l, 1) := by decide +kernel
theorem dX0_doWide_12 : decode cX0_doWide 12 = .ok (.lstore_n 2, 1) := by decide +kernel
theorem dX0_doWide_13 : decode cX0_doWide 13 = .ok (.aload_n 0, 1) := by decide +kernel
theorem dX0_doWide_14 : decode cX0_doWide 14 = .ok (.getfield 32, 3) := by decide +kernel
theorem dX0_doWide_17 : decode cX0_doWide 17 = .ok (.aload_n 1, 1) := by decide +kernel
theorem dX0_doWide_18 : decode cX0_doWide 18 = .ok (.getfield 172, 3) := by decide +kernel
theorem dX0_doWide_21 : decode cX0_doWide 21 = .ok (.invokevirtual 168, 3) := by decide +kernel
theorem dX0_doWide_24 : decode cX0_doWide 24 = .ok (.d2l, 1) := by decide +kernel
theorem dX0_doWide_25 : decode cX0_doWide 25 = .ok (.lstore 4, 2) := by decide +kernel
theorem dX0_doWide_27 : decode cX0_doWide 27 = .ok (.aload_n 1, 1) := by decide +kernel
theorem dX0_doWide_28 : decode cX0_doWide 28 = .ok (.getfield 122, 3) := by decide +kernel
theorem dX0_doWide_31 : decode cX0_doWide 31 = .ok (.invokestatic 241, 3) := by decide +kernel
theorem dX0_doWide_34 : decode cX0_doWide 34 = .ok (.ifCond .eq 13, 3) := by decide +kernel
theorem dX0_doWide_37 : decode cX0_doWide 37 = .ok (.lload 4, 2) := by decide +kernel
theorem dX0_doWide_39 : decode cX0_doWide 39 = .ok (.lconst 0, 1) := by decide +kernel
theorem dX0_doWide_40 : decode cX0_doWide 40 = .ok (.lcmp, 1) := by decide +kernel
theorem dX0_doWide_41 : decode cX0_doWide 41 = .ok (.ifCond .ne 6, 3) := by decide +kernel
theorem dX0_doWide_44 : decode cX0_doWide 44 = .ok (.bipush 7, 2) := by decide +kernel
theorem dX0_doWide_46 : decode cX0_doWide 46 = .ok (.ireturn, 1) := by decide +kernel
theorem dX0_doWide_47 : decode cX0_doWide 47 = .ok (.aload_n 0, 1) := by decide +kernel
theorem dX0_doWide_48 : decode cX0_doWide 48 = .ok (.getfield 32, 3) := by decide +kernel
theorem dX0_doWide_51 : decode cX0_doWide 51 = .ok (.aload_n 1, 1) := by decide +kernel
theorem dX0_doWide_52 : decode cX0_doWide 52 = .ok (.getfield 175, 3) := by decide +kernel
theorem dX0_doWide_55 : decode cX0_doWide 55 = .ok (.aload_n 1, 1) := by decide +kernel
theorem dX0_doWide_56 : decode cX0_doWide 56 = .ok (.getfield 122, 3) := by decide +kernel
theorem dX0_doWide_59 : decode cX0_doWide 59 = .ok (.lload_n 2, 1) := by decide +kernel
theorem dX0_doWide_60 : decode cX0_doWide 60 = .ok (.lload 4, 2) := by decide +kernel
theorem dX0_doWide_62 : decode cX0_doWide 62 = .ok (.invokestatic 262, 3) := by decide +kernel
theorem dX0_doWide_65 : decode cX0_doWide 65 = .ok (.l2d, 1) := by decide +kernel
theorem dX0_doWide_66 : decode cX0_doWide 66 = .ok (.invokevirtual 206, 3) := by decide +kernel
theorem dX0_doWide_69 : decode cX0_doWide 69 = .ok (.ireturn, 1) := by decide +kernel
theorem dX1_init_0 : decode cX1_init 0 = .ok (.aload_n 0, 1) := by decide +kernel
theorem dX1_init_1 : decode cX1_init 1 = .ok (.invokespecial 1, 3) := by decide +kernel
theorem dX1_init_4 : decode cX1_init 4 = .ok (.aload_n 0, 1) := by decide +kernel
theorem dX1_init_5 : decode cX1_init 5 = .ok (.aload_n 1, 1) := by decide +kernel
theorem dX1_init_6 : decode cX1_init 6 = .ok (.putfield 7, 3) := by decide +kernel
theorem dX1_init_9 : decode cX1_init 9 = .ok (.aload_n 0, 1) := by decide +kernel
theorem dX1_init_10 : decode cX1_init 10 = .ok (.aload_n 2, 1) := by decide +kernel
theorem dX1_init_11 : decode cX1_init 11 = .ok (.putfield 13, 3) := by decide +kernel
theorem dX1_init_14 : decode cX1_init 14 = .ok (.aload_n 0, 1) := by decide +kernel
theorem dX1_init_15 : decode cX1_init 15 = .ok (.aload_n 1, 1) := by decide +kernel
theorem dX1_init_16 : decode cX1_init 16 = .ok (.putfield 17, 3) := by decide +kernel
theorem dX1_init_19 : decode cX1_init 19 = .ok (.return_, 1) := by decide +kernel
theorem dX1_beginPart_0 : decode cX1_beginPart 0 = .ok (.aload_n 0, 1) := by decide +kernel
theorem dX1_beginPart_1 : decode cX1_beginPart 1 = .ok (.getfield 17, 3) := by decide +kernel
theorem dX1_beginPart_4 : decode cX1_beginPart 4 = .ok (.aload_n 1, 1) := by decide +kernel
theorem dX1_beginPart_5 : decode cX1_beginPart 5 = .ok (.putfield 20, 3) := by decide +kernel
theorem dX1_beginPart_8 : decode cX1_beginPart 8 = .ok (.aload_n 0, 1) := by decide +kernel
theorem dX1_beginPart_9 : decode cX1_beginPart 9 = .ok (.aload_n 1, 1) := by decide +kernel
theorem dX1_beginPart_10 : decode cX1_beginPart 10 = .ok (.putfield 17, 3) := by decide +kernel
theorem dX1_beginPart_13 : decode cX1_beginPart 13 = .ok (.aload_n 1, 1) := by decide +kernel
theorem dX1_beginPart_14 : decode cX1_beginPart 14 = .ok (.getfield 25, 3) := by decide +kernel
theorem dX1_beginPart_17 : decode cX1_beginPart 17 = .ok (.iconst 2, 1) := by decide +kernel
theorem dX1_beginPart_18 : decode cX1_beginPart 18 = .ok (.if_icmp .ne 13, 3) := by decide +kernel
theorem dX1_beginPart_21 : decode cX1_beginPart 21 = .ok (.aload_n 0, 1) := by decide +kernel
theorem dX1_beginPart_22 : decode cX1_beginPart 22 = .ok (.dup, 1) := by decide +kernel
theorem dX1_beginPart_23 : decode cX1_beginPart 23 = .ok (.getfield 29, 3) := by decide +kernel
theorem dX1_beginPart_26 : decode cX1_beginPart 26 = .ok (.iconst 1, 1) := by decide +kernel
theorem dX1_beginPart_27 : decode cX1_beginPart 27 = .ok (.iadd, 1) := by decide +kernel
theorem dX1_beginPart_28 : decode cX1_beginPart 28 = .ok (.putfield 29, 3) := by decide +kernel
theorem dX1_beginPart_31 : decode cX1_beginPart 31 = .ok (.return_, 1) := by decide +kernel
theorem dX1_takesPart_0 : decode cX1_takesPart 0 = .ok (.aload_n 0, 1) := by decide +kernel
theorem dX1_takesPart_1 : decode cX1_takesPart 1 = .ok (.getfield 7, 3) := by decide +kernel
theorem dX1_takesPart_4 : decode cX1_takesPart 4 = .ok (.getfield 25, 3) := by decide +kernel
theorem dX1_takesPart_7 : decode cX1_takesPart 7 = .ok (.iconst 1, 1) := by decide +kernel
theorem dX1_takesPart_8 : decode cX1_takesPart 8 = .ok (.if_icmp .ne 31, 3) := by decide +kernel
theorem dX1_takesPart_11 : decode cX1_takesPart 11 = .ok (.aload_n 0, 1) := by decide +kernel
theorem dX1_takesPart_12 : decode cX1_takesPart 12 = .ok (.getfield 17, 3) := by decide +kernel
theorem dX1_takesPart_15 : decode cX1_takesPart 15 = .ok (.getfield 25, 3) := by decide +kernel
theorem dX1_takesPart_18 : decode cX1_takesPart 18 = .ok (.iconst 3, 1) := by decide +kernel
theorem dX1_takesPart_19 : decode cX1_takesPart 19 = .ok (.if_icmp .eq 20, 3) := by decide +kernel
theorem dX1_takesPart_22 : decode cX1_takesPart 22 = .ok (.iload_n 1, 1) := by decide +kernel
theorem dX1_takesPart_23 : decode cX1_takesPart 23 = .ok (.iconst 2, 1) := by decide +kernel
theorem dX1_takesPart_24 : decode cX1_takesPart 24 = .ok (.if_icmp .ne 11, 3) := by decide +kernel
theorem dX1_takesPart_27 : decode cX1_takesPart 27 = .ok (.aload_n 0, 1) := by decide +kernel
theorem dX1_takesPart_28 : decode cX1_takesPart 28 = .ok (.getfield 29, 3) := by decide +kernel
theorem dX1_takesPart_31 : decode cX1_takesPart 31 = .ok (.iconst 3, 1) := by decide +kernel
theorem dX1_takesPart_32 : decode cX1_takesPart 32 = .ok (.if_icmp .ge 7, 3) := by decide +kernel
theorem dX1_takesPart_35 : decode cX1_takesPart 35 = .ok (.iconst 1, 1) := by decide +kernel
theorem dX1_takesPart_36 : decode cX1_takesPart 36 = .ok (.goto 4, 3) := by decide +kernel
theorem dX1_takesPart_39 : decode cX1_takesPart 39 = .ok (.iconst 0, 1) := by decide +kernel
theorem dX1_takesPart_40 : decode cX1_takesPart 40 = .ok (.ireturn, 1) := by decide +kernel
theorem dX2_init_0 : decode cX2_init 0 = .ok (.aload_n 0, 1) := by decide +kernel
theorem dX2_init_1 : decode cX2_init 1 = .ok (.invokespecial 1, 3) := by decide +kernel
theorem dX2_init_4 : decode cX2_init 4 = .ok (.aload_n 0, 1) := by decide +kernel
theorem dX2_init_5 : decode cX2_init 5 = .ok (.bipush 8, 2) := by decide +kernel
theorem dX2_init_7 : decode cX2_init 7 = .ok (.newarray .double, 2) := by decide +kernel
theorem dX2_init_9 : decode cX2_init 9 = .ok (.putfield 9, 3) := by decide +kernel
theorem dX2_init_12 : decode cX2_init 12 = .ok (.return_, 1) := by decide +kernel
theorem dX2_at_0 : decode cX2_at 0 = .ok (.iload_n 1, 1) := by decide +kernel
theorem dX2_at_1 : decode cX2_at 1 = .ok (.ifCond .lt 18, 3) := by decide +kernel
theorem dX2_at_4 : decode cX2_at 4 = .ok (.iload_n 1, 1) := by decide +kernel
theorem dX2_at_5 : decode cX2_at 5 = .ok (.bipush 8, 2) := by decide +kernel
theorem dX2_at_7 : decode cX2_at 7 = .ok (.if_icmp .ge 12, 3) := by decide +kernel
theorem dX2_at_10 : decode cX2_at 10 = .ok (.aload_n 0, 1) := by decide +kernel
theorem dX2_at_11 : decode cX2_at 11 = .ok (.getfield 9, 3) := by decide +kernel
theorem dX2_at_14 : decode cX2_at 14 = .ok (.iload_n 1, 1) := by decide +kernel
theorem dX2_at_15 : decode cX2_at 15 = .ok (.daload, 1) := by decide +kernel
theorem dX2_at_16 : decode cX2_at 16 = .ok (.goto 4, 3) := by decide +kernel
theorem dX2_at_19 : decode cX2_at 19 = .ok (.dconst 0, 1) := by decide +kernel
theorem dX2_at_20 : decode cX2_at 20 = .ok (.dreturn, 1) := by decide +kernel
theorem dX2_wholeAt_0 : decode cX2_wholeAt 0 = .ok (.aload_n 0, 1) := by decide +kernel
theorem dX2_wholeAt_1 : decode cX2_wholeAt 1 = .ok (.iload_n 1, 1) := by decide +kernel
theorem dX2_wholeAt_2 : decode cX2_wholeAt 2 = .ok (.invokevirtual 13, 3) := by decide +kernel
theorem dX2_wholeAt_5 : decode cX2_wholeAt 5 = .ok (.d2i, 1) := by decide +kernel
theorem dX2_wholeAt_6 : decode cX2_wholeAt 6 = .ok (.ireturn, 1) := by decide +kernel
theorem dX2_turn_0 : decode cX2_turn 0 = .ok (.dload_n 2, 1) := by decide +kernel
theorem dX2_turn_1 : decode cX2_turn 1 = .ok (.ldc2_w 17, 3) := by decide +kernel
theorem dX2_turn_4 : decode cX2_turn 4 = .ok (.dcmp .l, 1) := by decide +kernel
theorem dX2_turn_5 : decode cX2_turn 5 = .ok (.ifCond .gt 11, 3) := by decide +kernel
theorem dX2_turn_8 : decode cX2_turn 8 = .ok (.dload_n 2, 1) := by decide +kernel
theorem dX2_turn_9 : decode cX2_turn 9 = .ok (.ldc2_w 19, 3) := by decide +kernel
theorem dX2_turn_12 : decode cX2_turn 12 = .ok (.dcmp .g, 1) := by decide +kernel
theorem dX2_turn_13 : decode cX2_turn 13 = .ok (.ifCond .ge 6, 3) := by decide +kernel
theorem dX2_turn_16 : decode cX2_turn 16 = .ok (.bipush 8, 2) := by decide +kernel
theorem dX2_turn_18 : decode cX2_turn 18 = .ok (.ireturn, 1) := by decide +kernel
theorem dX2_turn_19 : decode cX2_turn 19 = .ok (.iload_n 1, 1) := by decide +kernel
theorem dX2_turn_20 : decode cX2_turn 20 = .ok (.ifCond .lt 16, 3) := by decide +kernel
theorem dX2_turn_23 : decode cX2_turn 23 = .ok (.iload_n 1, 1) := by decide +kernel
theorem dX2_turn_24 : decode cX2_turn 24 = .ok (.bipush 8, 2) := by decide +kernel
theorem dX2_turn_26 : decode cX2_turn 26 = .ok (.if_icmp .ge 10, 3) := by decide +kernel
theorem dX2_turn_29 : decode cX2_turn 29 = .ok (.aload_n 0, 1) := by decide +kernel
theorem dX2_turn_30 : decode cX2_turn 30 = .ok (.getfield 9, 3) := by decide +kernel
theorem dX2_turn_33 : decode cX2_turn 33 = .ok (.iload_n 1, 1) := by decide +kernel
theorem dX2_turn_34 : decode cX2_turn 34 = .ok (.dload_n 2, 1) := by decide +kernel
