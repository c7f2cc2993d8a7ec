theorem dX8_wholeBelow_3 : decode cX8_wholeBelow 3 = .ok (.ifCond .ne 5, 3) := by decide +kernel
theorem dX8_wholeBelow_6 : decode cX8_wholeBelow 6 = .ok (.dload_n 0, 1) := by decide +kernel
theorem dX8_wholeBelow_7 : decode cX8_wholeBelow 7 = .ok (.dreturn, 1) := by decide +kernel
theorem dX8_wholeBelow_8 : decode cX8_wholeBelow 8 = .ok (.dload_n 0, 1) := by decide +kernel
theorem dX8_wholeBelow_9 : decode cX8_wholeBelow 9 = .ok (.d2l, 1) := by decide +kernel
theorem dX8_wholeBelow_10 : decode cX8_wholeBelow 10 = .ok (.l2d, 1) := by decide +kernel
theorem dX8_wholeBelow_11 : decode cX8_wholeBelow 11 = .ok (.dstore_n 2, 1) := by decide +kernel
theorem dX8_wholeBelow_12 : decode cX8_wholeBelow 12 = .ok (.dload_n 2, 1) := by decide +kernel
theorem dX8_wholeBelow_13 : decode cX8_wholeBelow 13 = .ok (.dload_n 0, 1) := by decide +kernel
theorem dX8_wholeBelow_14 : decode cX8_wholeBelow 14 = .ok (.dcmp .l, 1) := by decide +kernel
theorem dX8_wholeBelow_15 : decode cX8_wholeBelow 15 = .ok (.ifCond .le 9, 3) := by decide +kernel
theorem dX8_wholeBelow_18 : decode cX8_wholeBelow 18 = .ok (.dload_n 2, 1) := by decide +kernel
theorem dX8_wholeBelow_19 : decode cX8_wholeBelow 19 = .ok (.dconst 1, 1) := by decide +kernel
theorem dX8_wholeBelow_20 : decode cX8_wholeBelow 20 = .ok (.dsub, 1) := by decide +kernel
theorem dX8_wholeBelow_21 : decode cX8_wholeBelow 21 = .ok (.goto 4, 3) := by decide +kernel
theorem dX8_wholeBelow_24 : decode cX8_wholeBelow 24 = .ok (.dload_n 2, 1) := by decide +kernel
theorem dX8_wholeBelow_25 : decode cX8_wholeBelow 25 = .ok (.dreturn, 1) := by decide +kernel
theorem dX8_nearestWhole_0 : decode cX8_nearestWhole 0 = .ok (.dload_n 0, 1) := by decide +kernel
theorem dX8_nearestWhole_1 : decode cX8_nearestWhole 1 = .ok (.dconst 0, 1) := by decide +kernel
theorem dX8_nearestWhole_2 : decode cX8_nearestWhole 2 = .ok (.dcmp .l, 1) := by decide +kernel
theorem dX8_nearestWhole_3 : decode cX8_nearestWhole 3 = .ok (.ifCond .ne 5, 3) := by decide +kernel
theorem dX8_nearestWhole_6 : decode cX8_nearestWhole 6 = .ok (.dload_n 0, 1) := by decide +kernel
theorem dX8_nearestWhole_7 : decode cX8_nearestWhole 7 = .ok (.dreturn, 1) := by decide +kernel
theorem dX8_nearestWhole_8 : decode cX8_nearestWhole 8 = .ok (.dload_n 0, 1) := by decide +kernel
theorem dX8_nearestWhole_9 : decode cX8_nearestWhole 9 = .ok (.dconst 0, 1) := by decide +kernel
theorem dX8_nearestWhole_10 : decode cX8_nearestWhole 10 = .ok (.dcmp .g, 1) := by decide +kernel
theorem dX8_nearestWhole_11 : decode cX8_nearestWhole 11 = .ok (.ifCond .ge 8, 3) := by decide +kernel
theorem dX8_nearestWhole_14 : decode cX8_nearestWhole 14 = .ok (.dload_n 0, 1) := by decide +kernel
theorem dX8_nearestWhole_15 : decode cX8_nearestWhole 15 = .ok (.dneg, 1) := by decide +kernel
theorem dX8_nearestWhole_16 : decode cX8_nearestWhole 16 = .ok (.goto 4, 3) := by decide +kernel
theorem dX8_nearestWhole_19 : decode cX8_nearestWhole 19 = .ok (.dload_n 0, 1) := by decide +kernel
theorem dX8_nearestWhole_20 : decode cX8_nearestWhole 20 = .ok (.dstore_n 2, 1) := by decide +kernel
theorem dX8_nearestWhole_21 : decode cX8_nearestWhole 21 = .ok (.dload_n 2, 1) := by decide +kernel
theorem dX8_nearestWhole_22 : decode cX8_nearestWhole 22 = .ok (.d2l, 1) := by decide +kernel
theorem dX8_nearestWhole_23 : decode cX8_nearestWhole 23 = .ok (.lstore 4, 2) := by decide +kernel
theorem dX8_nearestWhole_25 : decode cX8_nearestWhole 25 = .ok (.dload_n 2, 1) := by decide +kernel
theorem dX8_nearestWhole_26 : decode cX8_nearestWhole 26 = .ok (.lload 4, 2) := by decide +kernel
theorem dX8_nearestWhole_28 : decode cX8_nearestWhole 28 = .ok (.l2d, 1) := by decide +kernel
theorem dX8_nearestWhole_29 : decode cX8_nearestWhole 29 = .ok (.dsub, 1) := by decide +kernel
theorem dX8_nearestWhole_30 : decode cX8_nearestWhole 30 = .ok (.dstore 6, 2) := by decide +kernel
theorem dX8_nearestWhole_32 : decode cX8_nearestWhole 32 = .ok (.dload 6, 2) := by decide +kernel
theorem dX8_nearestWhole_34 : decode cX8_nearestWhole 34 = .ok (.ldc2_w 34, 3) := by decide +kernel
theorem dX8_nearestWhole_37 : decode cX8_nearestWhole 37 = .ok (.dcmp .l, 1) := by decide +kernel
theorem dX8_nearestWhole_38 : decode cX8_nearestWhole 38 = .ok (.ifCond .gt 23, 3) := by decide +kernel
theorem dX8_nearestWhole_41 : decode cX8_nearestWhole 41 = .ok (.dload 6, 2) := by decide +kernel
theorem dX8_nearestWhole_43 : decode cX8_nearestWhole 43 = .ok (.ldc2_w 34, 3) := by decide +kernel
theorem dX8_nearestWhole_46 : decode cX8_nearestWhole 46 = .ok (.dcmp .l, 1) := by decide +kernel
theorem dX8_nearestWhole_47 : decode cX8_nearestWhole 47 = .ok (.ifCond .ne 20, 3) := by decide +kernel
theorem dX8_nearestWhole_50 : decode cX8_nearestWhole 50 = .ok (.lload 4, 2) := by decide +kernel
theorem dX8_nearestWhole_52 : decode cX8_nearestWhole 52 = .ok (.ldc2_w 36, 3) := by decide +kernel
theorem dX8_nearestWhole_55 : decode cX8_nearestWhole 55 = .ok (.lrem, 1) := by decide +kernel
theorem dX8_nearestWhole_56 : decode cX8_nearestWhole 56 = .ok (.lconst 1, 1) := by decide +kernel
theorem dX8_nearestWhole_57 : decode cX8_nearestWhole 57 = .ok (.lcmp, 1) := by decide +kernel
theorem dX8_nearestWhole_58 : decode cX8_nearestWhole 58 = .ok (.ifCond .ne 9, 3) := by decide +kernel
theorem dX8_nearestWhole_61 : decode cX8_nearestWhole 61 = .ok (.lload 4, 2) := by decide +kernel
theorem dX8_nearestWhole_63 : decode cX8_nearestWhole 63 = .ok (.lconst 1, 1) := by decide +kernel
theorem dX8_nearestWhole_64 : decode cX8_nearestWhole 64 = .ok (.ladd, 1) := by decide +kernel
theorem dX8_nearestWhole_65 : decode cX8_nearestWhole 65 = .ok (.lstore 4, 2) := by decide +kernel
theorem dX8_nearestWhole_67 : decode cX8_nearestWhole 67 = .ok (.lload 4, 2) := by decide +kernel
theorem dX8_nearestWhole_69 : decode cX8_nearestWhole 69 = .ok (.l2d, 1) := by decide +kernel
theorem dX8_nearestWhole_70 : decode cX8_nearestWhole 70 = .ok (.dstore 8, 2) := by decide +kernel
theorem dX8_nearestWhole_72 : decode cX8_nearestWhole 72 = .ok (.dload_n 0, 1) := by decide +kernel
theorem dX8_nearestWhole_73 : decode cX8_nearestWhole 73 = .ok (.dconst 0, 1) := by decide +kernel
theorem dX8_nearestWhole_74 : decode cX8_nearestWhole 74 = .ok (.dcmp .g, 1) := by decide +kernel
theorem dX8_nearestWhole_75 : decode cX8_nearestWhole 75 = .ok (.ifCond .ge 9, 3) := by decide +kernel
theorem dX8_nearestWhole_78 : decode cX8_nearestWhole 78 = .ok (.dload 8, 2) := by decide +kernel
theorem dX8_nearestWhole_80 : decode cX8_nearestWhole 80 = .ok (.dneg, 1) := by decide +kernel
theorem dX8_nearestWhole_81 : decode cX8_nearestWhole 81 = .ok (.goto 5, 3) := by decide +kernel
theorem dX8_nearestWhole_84 : decode cX8_nearestWhole 84 = .ok (.dload 8, 2) := by decide +kernel
theorem dX8_nearestWhole_86 : decode cX8_nearestWhole 86 = .ok (.dreturn, 1) := by decide +kernel
theorem dX8_rest_0 : decode cX8_rest 0 = .ok (.dload_n 0, 1) := by decide +kernel
theorem dX8_rest_1 : decode cX8_rest 1 = .ok (.dconst 0, 1) := by decide +kernel
theorem dX8_rest_2 : decode cX8_rest 2 = .ok (.dcmp .l, 1) := by decide +kernel
theorem dX8_rest_3 : decode cX8_rest 3 = .ok (.ifCond .ne 5, 3) := by decide +kernel
theorem dX8_rest_6 : decode cX8_rest 6 = .ok (.dload_n 0, 1) := by decide +kernel
theorem dX8_rest_7 : decode cX8_rest 7 = .ok (.dreturn, 1) := by decide +kernel
theorem dX8_rest_8 : decode cX8_rest 8 = .ok (.dload_n 2, 1) := by decide +kernel
theorem dX8_rest_9 : decode cX8_rest 9 = .ok (.dconst 0, 1) := by decide +kernel
theorem dX8_rest_10 : decode cX8_rest 10 = .ok (.dcmp .g, 1) := by decide +kernel
theorem dX8_rest_11 : decode cX8_rest 11 = .ok (.ifCond .ge 8, 3) := by decide +kernel
theorem dX8_rest_14 : decode cX8_rest 14 = .ok (.dload_n 2, 1) := by decide +kernel
theorem dX8_rest_15 : decode cX8_rest 15 = .ok (.dneg, 1) := by decide +kernel
theorem dX8_rest_16 : decode cX8_rest 16 = .ok (.goto 4, 3) := by decide +kernel
theorem dX8_rest_19 : decode cX8_rest 19 = .ok (.dload_n 2, 1) := by decide +kernel
theorem dX8_rest_20 : decode cX8_rest 20 = .ok (.dstore 4, 2) := by decide +kernel
theorem dX8_rest_22 : decode cX8_rest 22 = .ok (.dload_n 0, 1) := by decide +kernel
theorem dX8_rest_23 : decode cX8_rest 23 = .ok (.dconst 0, 1) := by decide +kernel
theorem dX8_rest_24 : decode cX8_rest 24 = .ok (.dcmp .g, 1) := by decide +kernel
theorem dX8_rest_25 : decode cX8_rest 25 = .ok (.ifCond .ge 8, 3) := by decide +kernel
theorem dX8_rest_28 : decode cX8_rest 28 = .ok (.dload_n 0, 1) := by decide +kernel
theorem dX8_rest_29 : decode cX8_rest 29 = .ok (.dneg, 1) := by decide +kernel
theorem dX8_rest_30 : decode cX8_rest 30 = .ok (.goto 4, 3) := by decide +kernel
theorem dX8_rest_33 : decode cX8_rest 33 = .ok (.dload_n 0, 1) := by decide +kernel
theorem dX8_rest_34 : decode cX8_rest 34 = .ok (.dstore 6, 2) := by decide +kernel
theorem dX8_rest_36 : decode cX8_rest 36 = .ok (.dload 4, 2) := by decide +kernel
theorem dX8_rest_38 : decode cX8_rest 38 = .ok (.dstore 8, 2) := by decide +kernel
theorem dX8_rest_40 : decode cX8_rest 40 = .ok (.iconst 0, 1) := by decide +kernel
theorem dX8_rest_41 : decode cX8_rest 41 = .ok (.istore 10, 2) := by decide +kernel
theorem dX8_rest_43 : decode cX8_rest 43 = .ok (.iload 10, 2) := by decide +kernel
theorem dX8_rest_45 : decode cX8_rest 45 = .ok (.sipush 1200, 3) := by decide +kernel
theorem dX8_rest_48 : decode cX8_rest 48 = .ok (.if_icmp .ge 27, 3) := by decide +kernel
theorem dX8_rest_51 : decode cX8_rest 51 = .ok (.dload 8, 2) := by decide +kernel
theorem dX8_rest_53 : decode cX8_rest 53 = .ok (.dload 8, 2) := by decide +kernel
theorem dX8_rest_55 : decode cX8_rest 55 = .ok (.dadd, 1) := by decide +kernel
theorem dX8_rest_56 : decode cX8_rest 56 = .ok (.dload 6, 2) := by decide +kernel
theorem dX8_rest_58 : decode cX8_rest 58 = .ok (.dcmp .g, 1) := by decide +kernel
theorem dX8_rest_59 : decode cX8_rest 59 = .ok (.ifCond .gt 16, 3) := by decide +kernel
theorem dX8_rest_62 : decode cX8_rest 62 = .ok (.dload 8, 2) := by decide +kernel
theorem dX8_rest_64 : decode cX8_rest 64 = .ok (.dload 8, 2) := by decide +kernel
theorem dX8_rest_66 : decode cX8_rest 66 = .ok (.dadd, 1) := by decide +kernel
theorem dX8_rest_67 : decode cX8_rest 67 = .ok (.dstore 8, 2) := by decide +kernel
theorem dX8_rest_69 : decode cX8_rest 69 = .ok (.iinc 10 1, 3) := by decide +kernel
theorem dX8_rest_72 : decode cX8_rest 72 = .ok (.goto (-29), 3) := by decide +kernel
theorem dX8_rest_75 : decode cX8_rest 75 = .ok (.iload 10, 2) := by decide +kernel
theorem dX8_rest_77 : decode cX8_rest 77 = .ok (.istore 11, 2) := by decide +kernel
theorem dX8_rest_79 : decode cX8_rest 79 = .ok (.iload 11, 2) := by decide +kernel
theorem dX8_rest_81 : decode cX8_rest 81 = .ok (.ifCond .lt 40, 3) := by decide +kernel
theorem dX8_rest_84 : decode cX8_rest 84 = .ok (.dload 6, 2) := by decide +kernel
theorem dX8_rest_86 : decode cX8_rest 86 = .ok (.dload 4, 2) := by decide +kernel
theorem dX8_rest_88 : decode cX8_rest 88 = .ok (.dcmp .l, 1) := by decide +kernel
theorem dX8_rest_89 : decode cX8_rest 89 = .ok (.ifCond .lt 32, 3) := by decide +kernel
theorem dX8_rest_92 : decode cX8_rest 92 = .ok (.dload 6, 2) := by decide +kernel
theorem dX8_rest_94 : decode cX8_rest 94 = .ok (.dload 8, 2) := by decide +kernel
theorem dX8_rest_96 : decode cX8_rest 96 = .ok (.dcmp .l, 1) := by decide +kernel
theorem dX8_rest_97 : decode cX8_rest 97 = .ok (.ifCond .lt 10, 3) := by decide +kernel
theorem dX8_rest_100 : decode cX8_rest 100 = .ok (.dload 6, 2) := by decide +kernel
theorem dX8_rest_102 : decode cX8_rest 102 = .ok (.dload 8, 2) := by decide +kernel
theorem dX8_rest_104 : decode cX8_rest 104 = .ok (.dsub, 1) := by decide +kernel
theorem dX8_rest_105 : decode cX8_rest 105 = .ok (.dstore 6, 2) := by decide +kernel
theorem dX8_rest_107 : decode cX8_rest 107 = .ok (.dload 8, 2) := by decide +kernel
theorem dX8_rest_109 : decode cX8_rest 109 = .ok (.ldc2_w 38, 3) := by decide +kernel
theorem dX8_rest_112 : decode cX8_rest 112 = .ok (.ddiv, 1) := by decide +kernel
theorem dX8_rest_113 : decode cX8_rest 113 = .ok (.dstore 8, 2) := by decide +kernel
theorem dX8_rest_115 : decode cX8_rest 115 = .ok (.iinc 11 (-1), 3) := by decide +kernel
theorem dX8_rest_118 : decode cX8_rest 118 = .ok (.goto (-39), 3) := by decide +kernel
theorem dX8_rest_121 : decode cX8_rest 121 = .ok (.dload_n 0, 1) := by decide +kernel
theorem dX8_rest_122 : decode cX8_rest 122 = .ok (.dconst 0, 1) := by decide +kernel
theorem dX8_rest_123 : decode cX8_rest 123 = .ok (.dcmp .g, 1) := by decide +kernel
theorem dX8_rest_124 : decode cX8_rest 124 = .ok (.ifCond .ge 9, 3) := by decide +kernel
theorem dX8_rest_127 : decode cX8_rest 127 = .ok (.dload 6, 2) := by decide +kernel
theorem dX8_rest_129 : decode cX8_rest 129 = .ok (.dneg, 1) := by decide +kernel
theorem dX8_rest_130 : decode cX8_rest 130 = .ok (.goto 5, 3) := by decide +kernel
theorem dX8_rest_133 : decode cX8_rest 133 = .ok (.dload 6, 2) := by decide +kernel
theorem dX8_rest_135 : decode cX8_rest 135 = .ok (.dreturn, 1) := by decide +kernel
theorem dX9_init_0 : decode cX9_init 0 = .ok (.aload_n 0, 1) := by decide +kernel
theorem dX9_init_1 : decode cX9_init 1 = .ok (.invokespecial 1, 3) := by decide +kernel
theorem dX9_init_4 : decode cX9_init 4 = .ok (.aload_n 0, 1) := by decide +kernel
theorem dX9_init_5 : decode cX9_init 5 = .ok (.new 7, 3) := by decide +kernel
theorem dX9_init_8 : decode cX9_init 8 = .ok (.dup, 1) := by decide +kernel
theorem dX9_init_9 : decode cX9_init 9 = .ok (.invokespecial 9, 3) := by decide +kernel
theorem dX9_init_12 : decode cX9_init 12 = .ok (.putfield 10, 3) := by decide +kernel
theorem dX9_init_15 : decode cX9_init 15 = .ok (.return_, 1) := by decide +kernel
theorem dX9_choose_0 : decode cX9_choose 0 = .ok (.aload_n 0, 1) := by decide +kernel
theorem dX9_choose_1 : decode cX9_choose 1 = .ok (.getfield 10, 3) := by decide +kernel
theorem dX9_choose_4 : decode cX9_choose 4 = .ok (.iload_n 1, 1) := by decide +kernel
theorem dX9_choose_5 : decode cX9_choose 5 = .ok (.invokevirtual 16, 3) := by decide +kernel
theorem dX9_choose_8 : decode cX9_choose 8 = .ok (.astore_n 2, 1) := by decide +kernel
theorem dX9_choose_9 : decode cX9_choose 9 = .ok (.aload_n 2, 1) := by decide +kernel
theorem dX9_choose_10 : decode cX9_choose 10 = .ok (.ifnonnull 5, 3) := by decide +kernel
theorem dX9_choose_13 : decode cX9_choose 13 = .ok (.iconst (-1), 1) := by decide +kernel
theorem dX9_choose_14 : decode cX9_choose 14 = .ok (.ireturn, 1) := by decide +kernel
theorem dX9_choose_15 : decode cX9_choose 15 = .ok (.aload_n 0, 1) := by decide +kernel
theorem dX9_choose_16 : decode cX9_choose 16 = .ok (.getfield 10, 3) := by decide +kernel
theorem dX9_choose_19 : decode cX9_choose 19 = .ok (.aload_n 2, 1) := by decide +kernel
theorem dX9_choose_20 : decode cX9_choose 20 = .ok (.putfield 20, 3) := by decide +kernel
theorem dX9_choose_23 : decode cX9_choose 23 = .ok (.aload_n 2, 1) := by decide +kernel
theorem dX9_choose_24 : decode cX9_choose 24 = .ok (.getfield 24, 3) := by decide +kernel
theorem dX9_choose_27 : decode cX9_choose 27 = .ok (.ireturn, 1) := by decide +kernel
theorem dX9_step_0 : decode cX9_step 0 = .ok (.iload_n 1, 1) := by decide +kernel
theorem dX9_step_1 : decode cX9_step 1 = .ok (.iload_n 2, 1) := by decide +kernel
theorem dX9_step_2 : decode cX9_step 2 = .ok (.iload_n 3, 1) := by decide +kernel
theorem dX9_step_3 : decode cX9_step 3 = .ok (.iload 4, 2) := by decide +kernel
theorem dX9_step_5 : decode cX9_step 5 = .ok (.invokestatic 30, 3) := by decide +kernel
theorem dX9_step_8 : decode cX9_step 8 = .ok (.ifCond .eq 21, 3) := by decide +kernel
theorem dX9_step_11 : decode cX9_step 11 = .ok (.aload_n 0, 1) := by decide +kernel
theorem dX9_step_12 : decode cX9_step 12 = .ok (.getfield 10, 3) := by decide +kernel
theorem dX9_step_15 : decode cX9_step 15 = .ok (.getfield 20, 3) := by decide +kernel
theorem dX9_step_18 : decode cX9_step 18 = .ok (.iload_n 1, 1) := by decide +kernel
theorem dX9_step_19 : decode cX9_step 19 = .ok (.iload_n 2, 1) := by decide +kernel
theorem dX9_step_20 : decode cX9_step 20 = .ok (.iload_n 3, 1) := by decide +kernel
theorem dX9_step_21 : decode cX9_step 21 = .ok (.iload 4, 2) := by decide +kernel
theorem dX9_step_23 : decode cX9_step 23 = .ok (.invokevirtual 36, 3) := by decide +kernel
theorem dX9_step_26 : decode cX9_step 26 = .ok (.goto 4, 3) := by decide +kernel
theorem dX9_step_29 : decode cX9_step 29 = .ok (.iconst (-1), 1) := by decide +kernel
theorem dX9_step_30 : decode cX9_step 30 = .ok (.ireturn, 1) := by decide +kernel
theorem dX9_clear_0 : decode cX9_clear 0 = .ok (.aload_n 0, 1) := by decide +kernel
theorem dX9_clear_1 : decode cX9_clear 1 = .ok (.getfield 10, 3) := by decide +kernel
theorem dX9_clear_4 : decode cX9_clear 4 = .ok (.getfield 20, 3) := by decide +kernel
theorem dX9_clear_7 : decode cX9_clear 7 = .ok (.invokevirtual 40, 3) := by decide +kernel
theorem dX9_clear_10 : decode cX9_clear 10 = .ok (.ireturn, 1) := by decide +kernel
theorem dX9_run_0 : decode cX9_run 0 = .ok (.aload_n 0, 1) := by decide +kernel
theorem dX9_run_1 : decode cX9_run 1 = .ok (.getfield 10, 3) := by decide +kernel
theorem dX9_run_4 : decode cX9_run 4 = .ok (.getfield 20, 3) := by decide +kernel
theorem dX9_run_7 : decode cX9_run 7 = .ok (.getfield 44, 3) := by decide +kernel
theorem dX9_run_10 : decode cX9_run 10 = .ok (.ifCond .le 7, 3) := by decide +kernel
theorem dX9_run_13 : decode cX9_run 13 = .ok (.iconst (-1), 1) := by decide +kernel
theorem dX9_run_14 : decode cX9_run 14 = .ok (.goto 17, 3) := by decide +kernel
theorem dX9_run_17 : decode cX9_run 17 = .ok (.aload_n 0, 1) := by decide +kernel
theorem dX9_run_18 : decode cX9_run 18 = .ok (.getfield 10, 3) := by decide +kernel
theorem dX9_run_21 : decode cX9_run 21 = .ok (.aload_n 0, 1) := by decide +kernel
theorem dX9_run_22 : decode cX9_run 22 = .ok (.getfield 10, 3) := by decide +kernel
theorem dX9_run_25 : decode cX9_run 25 = .ok (.getfield 20, 3) := by decide +kernel
theorem dX9_run_28 : decode cX9_run 28 = .ok (.invokevirtual 47, 3) := by decide +kernel
theorem dX9_run_31 : decode cX9_run 31 = .ok (.ireturn, 1) := by decide +kernel
theorem dX9_dial_0 : decode cX9_dial 0 = .ok (.aload_n 0, 1) := by decide +kernel
theorem dX9_dial_1 : decode cX9_dial 1 = .ok (.getfield 10, 3) := by decide +kernel
theorem dX9_dial_4 : decode cX9_dial 4 = .ok (.getfield 51, 3) := by decide +kernel
theorem dX9_dial_7 : decode cX9_dial 7 = .ok (.iload_n 1, 1) := by decide +kernel
theorem dX9_dial_8 : decode cX9_dial 8 = .ok (.invokevirtual 55, 3) := by decide +kernel
theorem dX9_dial_11 : decode cX9_dial 11 = .ok (.dreturn, 1) := by decide +kernel
theorem dX9_size_0 : decode cX9_size 0 = .ok (.aload_n 0, 1) := by decide +kernel
theorem dX9_size_1 : decode cX9_size 1 = .ok (.getfield 10, 3) := by decide +kernel
theorem dX9_size_4 : decode cX9_size 4 = .ok (.iload_n 1, 1) := by decide +kernel
theorem dX9_size_5 : decode cX9_size 5 = .ok (.invokevirtual 61, 3) := by decide +kernel
theorem dX9_size_8 : decode cX9_size 8 = .ok (.astore_n 2, 1) := by decide +kernel
theorem dX9_size_9 : decode cX9_size 9 = .ok (.aload_n 2, 1) := by decide +kernel
theorem dX9_size_10 : decode cX9_size 10 = .ok (.ifnonnull 8, 3) := by decide +kernel
theorem dX9_size_13 : decode cX9_size 13 = .ok (.bipush (-2), 2) := by decide +kernel
theorem dX9_size_15 : decode cX9_size 15 = .ok (.goto 7, 3) := by decide +kernel
theorem dX9_size_18 : decode cX9_size 18 = .ok (.aload_n 2, 1) := by decide +kernel
theorem dX9_size_19 : decode cX9_size 19 = .ok (.getfield 65, 3) := by decide +kernel
theorem dX9_size_22 : decode cX9_size 22 = .ok (.ireturn, 1) := by decide +kernel
theorem dX9_value_0 : decode cX9_value 0 = .ok (.aload_n 0, 1) := by decide +kernel
theorem dX9_value_1 : decode cX9_value 1 = .ok (.getfield 10, 3) := by decide +kernel
theorem dX9_value_4 : decode cX9_value 4 = .ok (.iload_n 1, 1) := by decide +kernel
theorem dX9_value_5 : decode cX9_value 5 = .ok (.invokevirtual 61, 3) := by decide +kernel
theorem dX9_value_8 : decode cX9_value 8 = .ok (.astore_n 3, 1) := by decide +kernel
theorem dX9_value_9 : decode cX9_value 9 = .ok (.aload_n 3, 1) := by decide +kernel
theorem dX9_value_10 : decode cX9_value 10 = .ok (.ifnonnull 7, 3) := by decide +kernel
theorem dX9_value_13 : decode cX9_value 13 = .ok (.dconst 0, 1) := by decide +kernel
theorem dX9_value_14 : decode cX9_value 14 = .ok (.goto 8, 3) := by decide +kernel
theorem dX9_value_17 : decode cX9_value 17 = .ok (.aload_n 3, 1) := by decide +kernel
theorem dX9_value_18 : decode cX9_value 18 = .ok (.iload_n 2, 1) := by decide +kernel
theorem dX9_value_19 : decode cX9_value 19 = .ok (.invokevirtual 70, 3) := by decide +kernel
theorem dX9_value_22 : decode cX9_value 22 = .ok (.dreturn, 1) := by decide +kernel
theorem dX9_isFitted_0 : decode cX9_isFitted 0 = .ok (.aload_n 0, 1) := by decide +kernel
theorem dX9_isFitted_1 : decode cX9_isFitted 1 = .ok (.getfield 10, 3) := by decide +kernel
theorem dX9_isFitted_4 : decode cX9_isFitted 4 = .ok (.iload_n 1, 1) := by decide +kernel
theorem dX9_isFitted_5 : decode cX9_isFitted 5 = .ok (.invokevirtual 61, 3) := by decide +kernel
theorem dX9_isFitted_8 : decode cX9_isFitted 8 = .ok (.astore_n 3, 1) := by decide +kernel
theorem dX9_isFitted_9 : decode cX9_isFitted 9 = .ok (.aload_n 3, 1) := by decide +kernel
theorem dX9_isFitted_10 : decode cX9_isFitted 10 = .ok (.ifnull 15, 3) := by decide +kernel
theorem dX9_isFitted_13 : decode cX9_isFitted 13 = .ok (.aload_n 3, 1) := by decide +kernel
theorem dX9_isFitted_14 : decode cX9_isFitted 14 = .ok (.iload_n 2, 1) := by decide +kernel
theorem dX9_isFitted_15 : decode cX9_isFitted 15 = .ok (.invokevirtual 73, 3) := by decide +kernel
theorem dX9_isFitted_18 : decode cX9_isFitted 18 = .ok (.ifCond .eq 7, 3) := by decide +kernel
theorem dX9_isFitted_21 : decode cX9_isFitted 21 = .ok (.iconst 1, 1) := by decide +kernel
theorem dX9_isFitted_22 : decode cX9_isFitted 22 = .ok (.goto 4, 3) := by decide +kernel
theorem dX9_isFitted_25 : decode cX9_isFitted 25 = .ok (.iconst 0, 1) := by decide +kernel
theorem dX9_isFitted_26 : decode cX9_isFitted 26 = .ok (.ireturn, 1) := by decide +kernel
theorem dX9_log_0 : decode cX9_log 0 = .ok (.aload_n 0, 1) := by decide +kernel
theorem dX9_log_1 : decode cX9_log 1 = .ok (.getfield 10, 3) := by decide +kernel
theorem dX9_log_4 : decode cX9_log 4 = .ok (.getfield 77, 3) := by decide +kernel
theorem dX9_log_7 : decode cX9_log 7 = .ok (.iload_n 1, 1) := by decide +kernel
theorem dX9_log_8 : decode cX9_log 8 = .ok (.invokevirtual 81, 3) := by decide +kernel
theorem dX9_log_11 : decode cX9_log 11 = .ok (.dreturn, 1) := by decide +kernel
theorem dX9_isMinus_0 : decode cX9_isMinus 0 = .ok (.aload_n 0, 1) := by decide +kernel
theorem dX9_isMinus_1 : decode cX9_isMinus 1 = .ok (.getfield 10, 3) := by decide +kernel
theorem dX9_isMinus_4 : decode cX9_isMinus 4 = .ok (.getfield 77, 3) := by decide +kernel
theorem dX9_isMinus_7 : decode cX9_isMinus 7 = .ok (.iload_n 1, 1) := by decide +kernel
theorem dX9_isMinus_8 : decode cX9_isMinus 8 = .ok (.invokevirtual 81, 3) := by decide +kernel
theorem dX9_isMinus_11 : decode cX9_isMinus 11 = .ok (.invokestatic 84, 3) := by decide +kernel
theorem dX9_isMinus_14 : decode cX9_isMinus 14 = .ok (.ireturn, 1) := by decide +kernel
theorem dX9_count_0 : decode cX9_count 0 = .ok (.iload_n 1, 1) := by decide +kernel
theorem dX9_count_1 : decode cX9_count 1 = .ok (.tableswitch 96 0 5 #[39, 50, 61, 69, 80, 88], 39) := by decide +kernel
theorem dX9_count_40 : decode cX9_count 40 = .ok (.aload_n 0, 1) := by decide +kernel
theorem dX9_count_41 : decode cX9_count 41 = .ok (.getfield 10, 3) := by decide +kernel
theorem dX9_count_44 : decode cX9_count 44 = .ok (.getfield 20, 3) := by decide +kernel
theorem dX9_count_47 : decode cX9_count 47 = .ok (.getfield 24, 3) := by decide +kernel
theorem dX9_count_50 : decode cX9_count 50 = .ok (.ireturn, 1) := by decide +kernel
theorem dX9_count_51 : decode cX9_count 51 = .ok (.aload_n 0, 1) := by decide +kernel
theorem dX9_count_52 : decode cX9_count 52 = .ok (.getfield 10, 3) := by decide +kernel
theorem dX9_count_55 : decode cX9_count 55 = .ok (.getfield 20, 3) := by decide +kernel
theorem dX9_count_58 : decode cX9_count 58 = .ok (.getfield 44, 3) := by decide +kernel
theorem dX9_count_61 : decode cX9_count 61 = .ok (.ireturn, 1) := by decide +kernel
theorem dX9_count_62 : decode cX9_count 62 = .ok (.aload_n 0, 1) := by decide +kernel
theorem dX9_count_63 : decode cX9_count 63 = .ok (.getfield 10, 3) := by decide +kernel
theorem dX9_count_66 : decode cX9_count 66 = .ok (.getfield 90, 3) := by decide +kernel
theorem dX9_count_69 : decode cX9_count 69 = .ok (.ireturn, 1) := by decide +kernel
theorem dX9_count_70 : decode cX9_count 70 = .ok (.aload_n 0, 1) := by decide +kernel
theorem dX9_count_71 : decode cX9_count 71 = .ok (.getfield 10, 3) := by decide +kernel
theorem dX9_count_74 : decode cX9_count 74 = .ok (.getfield 77, 3) := by decide +kernel
theorem dX9_count_77 : decode cX9_count 77 = .ok (.getfield 93, 3) := by decide +kernel
theorem dX9_count_80 : decode cX9_count 80 = .ok (.ireturn, 1) := by decide +kernel
theorem dX9_count_81 : decode cX9_count 81 = .ok (.aload_n 0, 1) := by decide +kernel
theorem dX9_count_82 : decode cX9_count 82 = .ok (.getfield 10, 3) := by decide +kernel
theorem dX9_count_85 : decode cX9_count 85 = .ok (.getfield 94, 3) := by decide +kernel
theorem dX9_count_88 : decode cX9_count 88 = .ok (.ireturn, 1) := by decide +kernel
theorem dX9_count_89 : decode cX9_count 89 = .ok (.aload_n 0, 1) := by decide +kernel
theorem dX9_count_90 : decode cX9_count 90 = .ok (.getfield 10, 3) := by decide +kernel
theorem dX9_count_93 : decode cX9_count 93 = .ok (.getfield 97, 3) := by decide +kernel
theorem dX9_count_96 : decode cX9_count 96 = .ok (.ireturn, 1) := by decide +kernel
theorem dX9_count_97 : decode cX9_count 97 = .ok (.iconst (-1), 1) := by decide +kernel
theorem dX9_count_98 : decode cX9_count 98 = .ok (.ireturn, 1) := by decide +kernel
theorem dX9_fault_0 : decode cX9_fault 0 = .ok (.aload_n 0, 1) := by decide +kernel
theorem dX9_fault_1 : decode cX9_fault 1 = .ok (.getfield 10, 3) := by decide +kernel
theorem dX9_fault_4 : decode cX9_fault 4 = .ok (.getfield 100, 3) := by decide +kernel
theorem dX9_fault_7 : decode cX9_fault 7 = .ok (.astore_n 2, 1) := by decide +kernel
theorem dX9_fault_8 : decode cX9_fault 8 = .ok (.aload_n 2, 1) := by decide +kernel
theorem dX9_fault_9 : decode cX9_fault 9 = .ok (.ifnonnull 5, 3) := by decide +kernel
theorem dX9_fault_12 : decode cX9_fault 12 = .ok (.iconst (-1), 1) := by decide +kernel
theorem dX9_fault_13 : decode cX9_fault 13 = .ok (.ireturn, 1) := by decide +kernel
theorem dX9_fault_14 : decode cX9_fault 14 = .ok (.iload_n 1, 1) := by decide +kernel
theorem dX9_fault_15 : decode cX9_fault 15 = .ok (.tableswitch 67 0 5 #[37, 42, 47, 52, 57, 62], 37) := by decide +kernel
theorem dX9_fault_52 : decode cX9_fault 52 = .ok (.aload_n 2, 1) := by decide +kernel
theorem dX9_fault_53 : decode cX9_fault 53 = .ok (.getfield 104, 3) := by decide +kernel
theorem dX9_fault_56 : decode cX9_fault 56 = .ok (.ireturn, 1) := by decide +kernel
theorem dX9_fault_57 : decode cX9_fault 57 = .ok (.aload_n 2, 1) := by decide +kernel
theorem dX9_fault_58 : decode cX9_fault 58 = .ok (.getfield 109, 3) := by decide +kernel
theorem dX9_fault_61 : decode cX9_fault 61 = .ok (.ireturn, 1) := by decide +kernel
theorem dX9_fault_62 : decode cX9_fault 62 = .ok (.aload_n 2, 1) := by decide +kernel
theorem dX9_fault_63 : decode cX9_fault 63 = .ok (.getfield 112, 3) := by decide +kernel
theorem dX9_fault_66 : decode cX9_fault 66 = .ok (.ireturn, 1) := by decide +kernel
theorem dX9_fault_67 : decode cX9_fault 67 = .ok (.aload_n 2, 1) := by decide +kernel
theorem dX9_fault_68 : decode cX9_fault 68 = .ok (.getfield 115, 3) := by decide +kernel
theorem dX9_fault_71 : decode cX9_fault 71 = .ok (.ireturn, 1) := by decide +kernel
theorem dX9_fault_72 : decode cX9_fault 72 = .ok (.aload_n 2, 1) := by decide +kernel
theorem dX9_fault_73 : decode cX9_fault 73 = .ok (.getfield 118, 3) := by decide +kernel
theorem dX9_fault_76 : decode cX9_fault 76 = .ok (.ireturn, 1) := by decide +kernel
theorem dX9_fault_77 : decode cX9_fault 77 = .ok (.aload_n 2, 1) := by decide +kernel
theorem dX9_fault_78 : decode cX9_fault 78 = .ok (.getfield 121, 3) := by decide +kernel
theorem dX9_fault_81 : decode cX9_fault 81 = .ok (.ireturn, 1) := by decide +kernel
theorem dX9_fault_82 : decode cX9_fault 82 = .ok (.iconst (-1), 1) := by decide +kernel
theorem dX9_fault_83 : decode cX9_fault 83 = .ok (.ireturn, 1) := by decide +kernel
theorem dX10_init_0 : decode cX10_init 0 = .ok (.aload_n 0, 1) := by decide +kernel
theorem dX10_init_1 : decode cX10_init 1 = .ok (.invokespecial 1, 3) := by decide +kernel
theorem dX10_init_4 : decode cX10_init 4 = .ok (.aload_n 0, 1) := by decide +kernel
theorem dX10_init_5 : decode cX10_init 5 = .ok (.sipush 160, 3) := by decide +kernel
theorem dX10_init_8 : decode cX10_init 8 = .ok (.newarray .int, 2) := by decide +kernel
theorem dX10_init_10 : decode cX10_init 10 = .ok (.putfield 7, 3) := by decide +kernel
theorem dX10_init_13 : decode cX10_init 13 = .ok (.aload_n 0, 1) := by decide +kernel
theorem dX10_init_14 : decode cX10_init 14 = .ok (.sipush 160, 3) := by decide +kernel
theorem dX10_init_17 : decode cX10_init 17 = .ok (.newarray .int, 2) := by decide +kernel
theorem dX10_init_19 : decode cX10_init 19 = .ok (.putfield 13, 3) := by decide +kernel
theorem dX10_init_22 : decode cX10_init 22 = .ok (.aload_n 0, 1) := by decide +kernel
theorem dX10_init_23 : decode cX10_init 23 = .ok (.sipush 160, 3) := by decide +kernel
theorem dX10_init_26 : decode cX10_init 26 = .ok (.newarray .int, 2) := by decide +kernel
theorem dX10_init_28 : decode cX10_init 28 = .ok (.putfield 16, 3) := by decide +kernel
theorem dX10_init_31 : decode cX10_init 31 = .ok (.aload_n 0, 1) := by decide +kernel
theorem dX10_init_32 : decode cX10_init 32 = .ok (.sipush 160, 3) := by decide +kernel
theorem dX10_init_35 : decode cX10_init 35 = .ok (.newarray .int, 2) := by decide +kernel
theorem dX10_init_37 : decode cX10_init 37 = .ok (.putfield 19, 3) := by decide +kernel
theorem dX10_init_40 : decode cX10_init 40 = .ok (.aload_n 0, 1) := by decide +kernel
theorem dX10_init_41 : decode cX10_init 41 = .ok (.sipush 160, 3) := by decide +kernel
theorem dX10_init_44 : decode cX10_init 44 = .ok (.newarray .int, 2) := by decide +kernel
theorem dX10_init_46 : decode cX10_init 46 = .ok (.putfield 22, 3) := by decide +kernel
theorem dX10_init_49 : decode cX10_init 49 = .ok (.aload_n 0, 1) := by decide +kernel
theorem dX10_init_50 : decode cX10_init 50 = .ok (.sipush 160, 3) := by decide +kernel
theorem dX10_init_53 : decode cX10_init 53 = .ok (.newarray .int, 2) := by decide +kernel
theorem dX10_init_55 : decode cX10_init 55 = .ok (.putfield 25, 3) := by decide +kernel
theorem dX10_init_58 : decode cX10_init 58 = .ok (.aload_n 0, 1) := by decide +kernel
theorem dX10_init_59 : decode cX10_init 59 = .ok (.iconst 4, 1) := by decide +kernel
theorem dX10_init_60 : decode cX10_init 60 = .ok (.newarray .int, 2) := by decide +kernel
theorem dX10_init_62 : decode cX10_init 62 = .ok (.putfield 28, 3) := by decide +kernel
theorem dX10_init_65 : decode cX10_init 65 = .ok (.aload_n 0, 1) := by decide +kernel
theorem dX10_init_66 : decode cX10_init 66 = .ok (.iconst 4, 1) := by decide +kernel
theorem dX10_init_67 : decode cX10_init 67 = .ok (.newarray .int, 2) := by decide +kernel
theorem dX10_init_69 : decode cX10_init 69 = .ok (.putfield 31, 3) := by decide +kernel
theorem dX10_init_72 : decode cX10_init 72 = .ok (.aload_n 0, 1) := by decide +kernel
theorem dX10_init_73 : decode cX10_init 73 = .ok (.bipush 24, 2) := by decide +kernel
theorem dX10_init_75 : decode cX10_init 75 = .ok (.newarray .int, 2) := by decide +kernel
theorem dX10_init_77 : decode cX10_init 77 = .ok (.putfield 34, 3) := by decide +kernel
theorem dX10_init_80 : decode cX10_init 80 = .ok (.aload_n 0, 1) := by decide +kernel
theorem dX10_init_81 : decode cX10_init 81 = .ok (.bipush 24, 2) := by decide +kernel
theorem dX10_init_83 : decode cX10_init 83 = .ok (.newarray .int, 2) := by decide +kernel
theorem dX10_init_85 : decode cX10_init 85 = .ok (.putfield 37, 3) := by decide +kernel
theorem dX10_init_88 : decode cX10_init 88 = .ok (.aload_n 0, 1) := by decide +kernel
theorem dX10_init_89 : decode cX10_init 89 = .ok (.bipush 24, 2) := by decide +kernel
theorem dX10_init_91 : decode cX10_init 91 = .ok (.newarray .int, 2) := by decide +kernel
theorem dX10_init_93 : decode cX10_init 93 = .ok (.putfield 40, 3) := by decide +kernel
theorem dX10_init_96 : decode cX10_init 96 = .ok (.aload_n 0, 1) := by decide +kernel
theorem dX10_init_97 : decode cX10_init 97 = .ok (.bipush 8, 2) := by decide +kernel
theorem dX10_init_99 : decode cX10_init 99 = .ok (.newarray .double, 2) := by decide +kernel
theorem dX10_init_101 : decode cX10_init 101 = .ok (.putfield 43, 3) := by decide +kernel
theorem dX10_init_104 : decode cX10_init 104 = .ok (.aload_n 0, 1) := by decide +kernel
theorem dX10_init_105 : decode cX10_init 105 = .ok (.bipush 18, 2) := by decide +kernel
theorem dX10_init_107 : decode cX10_init 107 = .ok (.newarray .boolean, 2) := by decide +kernel
theorem dX10_init_109 : decode cX10_init 109 = .ok (.putfield 47, 3) := by decide +kernel
theorem dX10_init_112 : decode cX10_init 112 = .ok (.aload_n 0, 1) := by decide +kernel
theorem dX10_init_113 : decode cX10_init 113 = .ok (.bipush 18, 2) := by decide +kernel
theorem dX10_init_115 : decode cX10_init 115 = .ok (.newarray .int, 2) := by decide +kernel
theorem dX10_init_117 : decode cX10_init 117 = .ok (.putfield 51, 3) := by decide +kernel
theorem dX10_init_120 : decode cX10_init 120 = .ok (.aload_n 0, 1) := by decide +kernel
theorem dX10_init_121 : decode cX10_init 121 = .ok (.sipush 288, 3) := by decide +kernel
theorem dX10_init_124 : decode cX10_init 124 = .ok (.newarray .double, 2) := by decide +kernel
theorem dX10_init_126 : decode cX10_init 126 = .ok (.putfield 54, 3) := by decide +kernel
theorem dX10_init_129 : decode cX10_init 129 = .ok (.aload_n 0, 1) := by decide +kernel
theorem dX10_init_130 : decode cX10_init 130 = .ok (.sipush 288, 3) := by decide +kernel
theorem dX10_init_133 : decode cX10_init 133 = .ok (.newarray .boolean, 2) := by decide +kernel
theorem dX10_init_135 : decode cX10_init 135 = .ok (.putfield 57, 3) := by decide +kernel
theorem dX10_init_138 : decode cX10_init 138 = .ok (.aload_n 0, 1) := by decide +kernel
theorem dX10_init_139 : decode cX10_init 139 = .ok (.sipush 600, 3) := by decide +kernel
theorem dX10_init_142 : decode cX10_init 142 = .ok (.newarray .int, 2) := by decide +kernel
theorem dX10_init_144 : decode cX10_init 144 = .ok (.putfield 60, 3) := by decide +kernel
theorem dX10_init_147 : decode cX10_init 147 = .ok (.aload_n 0, 1) := by decide +kernel
theorem dX10_init_148 : decode cX10_init 148 = .ok (.sipush 600, 3) := by decide +kernel
theorem dX10_init_151 : decode cX10_init 151 = .ok (.newarray .int, 2) := by decide +kernel
theorem dX10_init_153 : decode cX10_init 153 = .ok (.putfield 63, 3) := by decide +kernel
theorem dX10_init_156 : decode cX10_init 156 = .ok (.aload_n 0, 1) := by decide +kernel
theorem dX10_init_157 : decode cX10_init 157 = .ok (.sipush 600, 3) := by decide +kernel
theorem dX10_init_160 : decode cX10_init 160 = .ok (.newarray .int, 2) := by decide +kernel
theorem dX10_init_162 : decode cX10_init 162 = .ok (.putfield 66, 3) := by decide +kernel
theorem dX10_init_165 : decode cX10_init 165 = .ok (.aload_n 0, 1) := by decide +kernel
theorem dX10_init_166 : decode cX10_init 166 = .ok (.sipush 600, 3) := by decide +kernel
theorem dX10_init_169 : decode cX10_init 169 = .ok (.newarray .int, 2) := by decide +kernel
theorem dX10_init_171 : decode cX10_init 171 = .ok (.putfield 69, 3) := by decide +kernel
theorem dX10_init_174 : decode cX10_init 174 = .ok (.aload_n 0, 1) := by decide +kernel
theorem dX10_init_175 : decode cX10_init 175 = .ok (.sipush 600, 3) := by decide +kernel
theorem dX10_init_178 : decode cX10_init 178 = .ok (.newarray .int, 2) := by decide +kernel
theorem dX10_init_180 : decode cX10_init 180 = .ok (.putfield 72, 3) := by decide +kernel
theorem dX10_init_183 : decode cX10_init 183 = .ok (.aload_n 0, 1) := by decide +kernel
theorem dX10_init_184 : decode cX10_init 184 = .ok (.iconst (-1), 1) := by decide +kernel
theorem dX10_init_185 : decode cX10_init 185 = .ok (.putfield 75, 3) := by decide +kernel
theorem dX10_init_188 : decode cX10_init 188 = .ok (.aload_n 0, 1) := by decide +kernel
theorem dX10_init_189 : decode cX10_init 189 = .ok (.bipush 60, 2) := by decide +kernel
theorem dX10_init_191 : decode cX10_init 191 = .ok (.newarray .int, 2) := by decide +kernel
theorem dX10_init_193 : decode cX10_init 193 = .ok (.putfield 79, 3) := by decide +kernel
theorem dX10_init_196 : decode cX10_init 196 = .ok (.aload_n 0, 1) := by decide +kernel
theorem dX10_init_197 : decode cX10_init 197 = .ok (.bipush 60, 2) := by decide +kernel
theorem dX10_init_199 : decode cX10_init 199 = .ok (.newarray .int, 2) := by decide +kernel
theorem dX10_init_201 : decode cX10_init 201 = .ok (.putfield 82, 3) := by decide +kernel
theorem dX10_init_204 : decode cX10_init 204 = .ok (.aload_n 0, 1) := by decide +kernel
theorem dX10_init_205 : decode cX10_init 205 = .ok (.bipush 60, 2) := by decide +kernel
theorem dX10_init_207 : decode cX10_init 207 = .ok (.newarray .int, 2) := by decide +kernel
theorem dX10_init_209 : decode cX10_init 209 = .ok (.putfield 85, 3) := by decide +kernel
theorem dX10_init_212 : decode cX10_init 212 = .ok (.aload_n 0, 1) := by decide +kernel
theorem dX10_init_213 : decode cX10_init 213 = .ok (.bipush 60, 2) := by decide +kernel
theorem dX10_init_215 : decode cX10_init 215 = .ok (.newarray .int, 2) := by decide +kernel
theorem dX10_init_217 : decode cX10_init 217 = .ok (.putfield 88, 3) := by decide +kernel
theorem dX10_init_220 : decode cX10_init 220 = .ok (.aload_n 0, 1) := by decide +kernel
theorem dX10_init_221 : decode cX10_init 221 = .ok (.bipush 60, 2) := by decide +kernel
theorem dX10_init_223 : decode cX10_init 223 = .ok (.newarray .int, 2) := by decide +kernel
theorem dX10_init_225 : decode cX10_init 225 = .ok (.putfield 91, 3) := by decide +kernel
theorem dX10_init_228 : decode cX10_init 228 = .ok (.aload_n 0, 1) := by decide +kernel
theorem dX10_init_229 : decode cX10_init 229 = .ok (.sipush 1000, 3) := by decide +kernel
theorem dX10_init_232 : decode cX10_init 232 = .ok (.newarray .double, 2) := by decide +kernel
theorem dX10_init_234 : decode cX10_init 234 = .ok (.putfield 94, 3) := by decide +kernel
theorem dX10_init_237 : decode cX10_init 237 = .ok (.aload_n 0, 1) := by decide +kernel
theorem dX10_init_238 : decode cX10_init 238 = .ok (.bipush 12, 2) := by decide +kernel
theorem dX10_init_240 : decode cX10_init 240 = .ok (.newarray .int, 2) := by decide +kernel
theorem dX10_init_242 : decode cX10_init 242 = .ok (.dup, 1) := by decide +kernel
theorem dX10_init_243 : decode cX10_init 243 = .ok (.iconst 0, 1) := by decide +kernel
theorem dX10_init_244 : decode cX10_init 244 = .ok (.iconst 0, 1) := by decide +kernel
theorem dX10_init_245 : decode cX10_init 245 = .ok (.iastore, 1) := by decide +kernel
theorem dX10_init_246 : decode cX10_init 246 = .ok (.dup, 1) := by decide +kernel
theorem dX10_init_247 : decode cX10_init 247 = .ok (.iconst 1, 1) := by decide +kernel
theorem dX10_init_248 : decode cX10_init 248 = .ok (.iconst 0, 1) := by decide +kernel
theorem dX10_init_249 : decode cX10_init 249 = .ok (.iastore, 1) := by decide +kernel
theorem dX10_init_250 : decode cX10_init 250 = .ok (.dup, 1) := by decide +kernel
theorem dX10_init_251 : decode cX10_init 251 = .ok (.iconst 2, 1) := by decide +kernel
theorem dX10_init_252 : decode cX10_init 252 = .ok (.iconst 1, 1) := by decide +kernel
theorem dX10_init_253 : decode cX10_init 253 = .ok (.iastore, 1) := by decide +kernel
theorem dX10_init_254 : decode cX10_init 254 = .ok (.dup, 1) := by decide +kernel
theorem dX10_init_255 : decode cX10_init 255 = .ok (.iconst 3, 1) := by decide +kernel
theorem dX10_init_256 : decode cX10_init 256 = .ok (.iconst 2, 1) := by decide +kernel
theorem dX10_init_257 : decode cX10_init 257 = .ok (.iastore, 1) := by decide +kernel
theorem dX10_init_258 : decode cX10_init 258 = .ok (.dup, 1) := by decide +kernel
theorem dX10_init_259 : decode cX10_init 259 = .ok (.iconst 4, 1) := by decide +kernel
theorem dX10_init_260 : decode cX10_init 260 = .ok (.iconst 2, 1) := by decide +kernel
theorem dX10_init_261 : decode cX10_init 261 = .ok (.iastore, 1) := by decide +kernel
theorem dX10_init_262 : decode cX10_init 262 = .ok (.dup, 1) := by decide +kernel
theorem dX10_init_263 : decode cX10_init 263 = .ok (.iconst 5, 1) := by decide +kernel
theorem dX10_init_264 : decode cX10_init 264 = .ok (.iconst 2, 1) := by decide +kernel
theorem dX10_init_265 : decode cX10_init 265 = .ok (.iastore, 1) := by decide +kernel
theorem dX10_init_266 : decode cX10_init 266 = .ok (.dup, 1) := by decide +kernel
theorem dX10_init_267 : decode cX10_init 267 = .ok (.bipush 6, 2) := by decide +kernel
theorem dX10_init_269 : decode cX10_init 269 = .ok (.iconst 1, 1) := by decide +kernel
theorem dX10_init_270 : decode cX10_init 270 = .ok (.iastore, 1) := by decide +kernel
theorem dX10_init_271 : decode cX10_init 271 = .ok (.dup, 1) := by decide +kernel
theorem dX10_init_272 : decode cX10_init 272 = .ok (.bipush 7, 2) := by decide +kernel
theorem dX10_init_274 : decode cX10_init 274 = .ok (.bipush 6, 2) := by decide +kernel
theorem dX10_init_276 : decode cX10_init 276 = .ok (.iastore, 1) := by decide +kernel
theorem dX10_init_277 : decode cX10_init 277 = .ok (.dup, 1) := by decide +kernel
theorem dX10_init_278 : decode cX10_init 278 = .ok (.bipush 8, 2) := by decide +kernel
theorem dX10_init_280 : decode cX10_init 280 = .ok (.bipush 6, 2) := by decide +kernel
theorem dX10_init_282 : decode cX10_init 282 = .ok (.iastore, 1) := by decide +kernel
theorem dX10_init_283 : decode cX10_init 283 = .ok (.dup, 1) := by decide +kernel
theorem dX10_init_284 : decode cX10_init 284 = .ok (.bipush 9, 2) := by decide +kernel
theorem dX10_init_286 : decode cX10_init 286 = .ok (.iconst 1, 1) := by decide +kernel
theorem dX10_init_287 : decode cX10_init 287 = .ok (.iastore, 1) := by decide +kernel
theorem dX10_init_288 : decode cX10_init 288 = .ok (.dup, 1) := by decide +kernel
theorem dX10_init_289 : decode cX10_init 289 = .ok (.bipush 10, 2) := by decide +kernel
theorem dX10_init_291 : decode cX10_init 291 = .ok (.iconst 1, 1) := by decide +kernel
theorem dX10_init_292 : decode cX10_init 292 = .ok (.iastore, 1) := by decide +kernel
theorem dX10_init_293 : decode cX10_init 293 = .ok (.dup, 1) := by decide +kernel
theorem dX10_init_294 : decode cX10_init 294 = .ok (.bipush 11, 2) := by decide +kernel
theorem dX10_init_296 : decode cX10_init 296 = .ok (.bipush 9, 2) := by decide +kernel
theorem dX10_init_298 : decode cX10_init 298 = .ok (.iastore, 1) := by decide +kernel
theorem dX10_init_299 : decode cX10_init 299 = .ok (.putfield 97, 3) := by decide +kernel
theorem dX10_init_302 : decode cX10_init 302 = .ok (.return_, 1) := by decide +kernel
theorem dX10_isIn_0 : decode cX10_isIn 0 = .ok (.iload_n 0, 1) := by decide +kernel
theorem dX10_isIn_1 : decode cX10_isIn 1 = .ok (.iload_n 1, 1) := by decide +kernel
theorem dX10_isIn_2 : decode cX10_isIn 2 = .ok (.if_icmp .lt 12, 3) := by decide +kernel
theorem dX10_isIn_5 : decode cX10_isIn 5 = .ok (.iload_n 0, 1) := by decide +kernel
theorem dX10_isIn_6 : decode cX10_isIn 6 = .ok (.iload_n 2, 1) := by decide +kernel
theorem dX10_isIn_7 : decode cX10_isIn 7 = .ok (.if_icmp .gt 7, 3) := by decide +kernel
theorem dX10_isIn_10 : decode cX10_isIn 10 = .ok (.iconst 1, 1) := by decide +kernel
theorem dX10_isIn_11 : decode cX10_isIn 11 = .ok (.goto 4, 3) := by decide +kernel
theorem dX10_isIn_14 : decode cX10_isIn 14 = .ok (.iconst 0, 1) := by decide +kernel
theorem dX10_isIn_15 : decode cX10_isIn 15 = .ok (.ireturn, 1) := by decide +kernel
theorem dX10_choose_0 : decode cX10_choose 0 = .ok (.iload_n 1, 1) := by decide +kernel
theorem dX10_choose_1 : decode cX10_choose 1 = .ok (.iconst 0, 1) := by decide +kernel
theorem dX10_choose_2 : decode cX10_choose 2 = .ok (.iconst 3, 1) := by decide +kernel
theorem dX10_choose_3 : decode cX10_choose 3 = .ok (.invokestatic 100, 3) := by decide +kernel
theorem dX10_choose_6 : decode cX10_choose 6 = .ok (.ifCond .ne 5, 3) := by decide +kernel
theorem dX10_choose_9 : decode cX10_choose 9 = .ok (.iconst (-1), 1) := by decide +kernel
theorem dX10_choose_10 : decode cX10_choose 10 = .ok (.ireturn, 1) := by decide +kernel
theorem dX10_choose_11 : decode cX10_choose 11 = .ok (.aload_n 0, 1) := by decide +kernel
theorem dX10_choose_12 : decode cX10_choose 12 = .ok (.iload_n 1, 1) := by decide +kernel
theorem dX10_choose_13 : decode cX10_choose 13 = .ok (.putfield 104, 3) := by decide +kernel
theorem dX10_choose_16 : decode cX10_choose 16 = .ok (.aload_n 0, 1) := by decide +kernel
theorem dX10_choose_17 : decode cX10_choose 17 = .ok (.getfield 28, 3) := by decide +kernel
theorem dX10_choose_20 : decode cX10_choose 20 = .ok (.iload_n 1, 1) := by decide +kernel
theorem dX10_choose_21 : decode cX10_choose 21 = .ok (.iaload, 1) := by decide +kernel
theorem dX10_choose_22 : decode cX10_choose 22 = .ok (.ireturn, 1) := by decide +kernel
theorem dX10_isDial_0 : decode cX10_isDial 0 = .ok (.iload_n 0, 1) := by decide +kernel
theorem dX10_isDial_1 : decode cX10_isDial 1 = .ok (.iconst 0, 1) := by decide +kernel
theorem dX10_isDial_2 : decode cX10_isDial 2 = .ok (.bipush 7, 2) := by decide +kernel
theorem dX10_isDial_4 : decode cX10_isDial 4 = .ok (.invokestatic 100, 3) := by decide +kernel
theorem dX10_isDial_7 : decode cX10_isDial 7 = .ok (.ireturn, 1) := by decide +kernel
theorem dX10_isRow_0 : decode cX10_isRow 0 = .ok (.iload_n 0, 1) := by decide +kernel
theorem dX10_isRow_1 : decode cX10_isRow 1 = .ok (.iconst 0, 1) := by decide +kernel
theorem dX10_isRow_2 : decode cX10_isRow 2 = .ok (.bipush 17, 2) := by decide +kernel
theorem dX10_isRow_4 : decode cX10_isRow 4 = .ok (.invokestatic 100, 3) := by decide +kernel
theorem dX10_isRow_7 : decode cX10_isRow 7 = .ok (.ireturn, 1) := by decide +kernel
theorem dX10_areTold_0 : decode cX10_areTold 0 = .ok (.iload_n 0, 1) := by decide +kernel
theorem dX10_areTold_1 : decode cX10_areTold 1 = .ok (.tableswitch 318 0 24 #[115, 115, 117, 115, 125, 115, 115, 133, 115, 133, 115, 141, 170, 177, 197, 177, 202, 202, 229, 253, 258, 258, 288, 288, 253], 115) := by decide +kernel
theorem dX10_areTold_116 : decode cX10_areTold 116 = .ok (.iconst 1, 1) := by decide +kernel
theorem dX10_areTold_117 : decode cX10_areTold 117 = .ok (.ireturn, 1) := by decide +kernel
theorem dX10_areTold_118 : decode cX10_areTold 118 = .ok (.iload_n 1, 1) := by decide +kernel
theorem dX10_areTold_119 : decode cX10_areTold 119 = .ok (.iconst 1, 1) := by decide +kernel
theorem dX10_areTold_120 : decode cX10_areTold 120 = .ok (.bipush 11, 2) := by decide +kernel
theorem dX10_areTold_122 : decode cX10_areTold 122 = .ok (.invokestatic 100, 3) := by decide +kernel
theorem dX10_areTold_125 : decode cX10_areTold 125 = .ok (.ireturn, 1) := by decide +kernel
theorem dX10_areTold_126 : decode cX10_areTold 126 = .ok (.iload_n 1, 1) := by decide +kernel
theorem dX10_areTold_127 : decode cX10_areTold 127 = .ok (.iconst 0, 1) := by decide +kernel
theorem dX10_areTold_128 : decode cX10_areTold 128 = .ok (.bipush 6, 2) := by decide +kernel
theorem dX10_areTold_130 : decode cX10_areTold 130 = .ok (.invokestatic 100, 3) := by decide +kernel
theorem dX10_areTold_133 : decode cX10_areTold 133 = .ok (.ireturn, 1) := by decide +kernel
theorem dX10_areTold_134 : decode cX10_areTold 134 = .ok (.iload_n 1, 1) := by decide +kernel
theorem dX10_areTold_135 : decode cX10_areTold 135 = .ok (.iconst 0, 1) := by decide +kernel
theorem dX10_areTold_136 : decode cX10_areTold 136 = .ok (.bipush 99, 2) := by decide +kernel
theorem dX10_areTold_138 : decode cX10_areTold 138 = .ok (.invokestatic 100, 3) := by decide +kernel
theorem dX10_areTold_141 : decode cX10_areTold 141 = .ok (.ireturn, 1) := by decide +kernel
theorem dX10_areTold_142 : decode cX10_areTold 142 = .ok (.iload_n 1, 1) := by decide +kernel
theorem dX10_areTold_143 : decode cX10_areTold 143 = .ok (.invokestatic 107, 3) := by decide +kernel
theorem dX10_areTold_146 : decode cX10_areTold 146 = .ok (.ifCond .eq 23, 3) := by decide +kernel
theorem dX10_areTold_149 : decode cX10_areTold 149 = .ok (.iload_n 2, 1) := by decide +kernel
theorem dX10_areTold_150 : decode cX10_areTold 150 = .ok (.iconst 0, 1) := by decide +kernel
theorem dX10_areTold_151 : decode cX10_areTold 151 = .ok (.iconst 3, 1) := by decide +kernel
theorem dX10_areTold_152 : decode cX10_areTold 152 = .ok (.invokestatic 100, 3) := by decide +kernel
theorem dX10_areTold_155 : decode cX10_areTold 155 = .ok (.ifCond .eq 14, 3) := by decide +kernel
theorem dX10_areTold_158 : decode cX10_areTold 158 = .ok (.iload_n 3, 1) := by decide +kernel
theorem dX10_areTold_159 : decode cX10_areTold 159 = .ok (.invokestatic 107, 3) := by decide +kernel
theorem dX10_areTold_162 : decode cX10_areTold 162 = .ok (.ifCond .eq 7, 3) := by decide +kernel
theorem dX10_areTold_165 : decode cX10_areTold 165 = .ok (.iconst 1, 1) := by decide +kernel
theorem dX10_areTold_166 : decode cX10_areTold 166 = .ok (.goto 4, 3) := by decide +kernel
theorem dX10_areTold_169 : decode cX10_areTold 169 = .ok (.iconst 0, 1) := by decide +kernel
theorem dX10_areTold_170 : decode cX10_areTold 170 = .ok (.ireturn, 1) := by decide +kernel
theorem dX10_areTold_171 : decode cX10_areTold 171 = .ok (.iload_n 1, 1) := by decide +kernel
theorem dX10_areTold_172 : decode cX10_areTold 172 = .ok (.iconst 0, 1) := by decide +kernel
theorem dX10_areTold_173 : decode cX10_areTold 173 = .ok (.iconst 3, 1) := by decide +kernel
theorem dX10_areTold_174 : decode cX10_areTold 174 = .ok (.invokestatic 100, 3) := by decide +kernel
theorem dX10_areTold_177 : decode cX10_areTold 177 = .ok (.ireturn, 1) := by decide +kernel
theorem dX10_areTold_178 : decode cX10_areTold 178 = .ok (.iload_n 1, 1) := by decide +kernel
theorem dX10_areTold_179 : decode cX10_areTold 179 = .ok (.invokestatic 111, 3) := by decide +kernel
theorem dX10_areTold_182 : decode cX10_areTold 182 = .ok (.ifCond .eq 14, 3) := by decide +kernel
theorem dX10_areTold_185 : decode cX10_areTold 185 = .ok (.iload_n 2, 1) := by decide +kernel
theorem dX10_areTold_186 : decode cX10_areTold 186 = .ok (.invokestatic 107, 3) := by decide +kernel
theorem dX10_areTold_189 : decode cX10_areTold 189 = .ok (.ifCond .eq 7, 3) := by decide +kernel
theorem dX10_areTold_192 : decode cX10_areTold 192 = .ok (.iconst 1, 1) := by decide +kernel
theorem dX10_areTold_193 : decode cX10_areTold 193 = .ok (.goto 4, 3) := by decide +kernel
theorem dX10_areTold_196 : decode cX10_areTold 196 = .ok (.iconst 0, 1) := by decide +kernel
theorem dX10_areTold_197 : decode cX10_areTold 197 = .ok (.ireturn, 1) := by decide +kernel
theorem dX10_areTold_198 : decode cX10_areTold 198 = .ok (.iload_n 1, 1) := by decide +kernel
theorem dX10_areTold_199 : decode cX10_areTold 199 = .ok (.invokestatic 111, 3) := by decide +kernel
theorem dX10_areTold_202 : decode cX10_areTold 202 = .ok (.ireturn, 1) := by decide +kernel
theorem dX10_areTold_203 : decode cX10_areTold 203 = .ok (.iload_n 1, 1) := by decide +kernel
theorem dX10_areTold_204 : decode cX10_areTold 204 = .ok (.invokestatic 111, 3) := by decide +kernel
theorem dX10_areTold_207 : decode cX10_areTold 207 = .ok (.ifCond .eq 21, 3) := by decide +kernel
theorem dX10_areTold_210 : decode cX10_areTold 210 = .ok (.iload_n 2, 1) := by decide +kernel
theorem dX10_areTold_211 : decode cX10_areTold 211 = .ok (.invokestatic 107, 3) := by decide +kernel
theorem dX10_areTold_214 : decode cX10_areTold 214 = .ok (.ifCond .eq 14, 3) := by decide +kernel
theorem dX10_areTold_217 : decode cX10_areTold 217 = .ok (.iload_n 3, 1) := by decide +kernel
theorem dX10_areTold_218 : decode cX10_areTold 218 = .ok (.invokestatic 107, 3) := by decide +kernel
theorem dX10_areTold_221 : decode cX10_areTold 221 = .ok (.ifCond .eq 7, 3) := by decide +kernel
theorem dX10_areTold_224 : decode cX10_areTold 224 = .ok (.iconst 1, 1) := by decide +kernel
theorem dX10_areTold_225 : decode cX10_areTold 225 = .ok (.goto 4, 3) := by decide +kernel
theorem dX10_areTold_228 : decode cX10_areTold 228 = .ok (.iconst 0, 1) := by decide +kernel
theorem dX10_areTold_229 : decode cX10_areTold 229 = .ok (.ireturn, 1) := by decide +kernel
theorem dX10_areTold_230 : decode cX10_areTold 230 = .ok (.iload_n 1, 1) := by decide +kernel
theorem dX10_areTold_231 : decode cX10_areTold 231 = .ok (.bipush 16, 2) := by decide +kernel
theorem dX10_areTold_233 : decode cX10_areTold 233 = .ok (.bipush 17, 2) := by decide +kernel
theorem dX10_areTold_235 : decode cX10_areTold 235 = .ok (.invokestatic 100, 3) := by decide +kernel
theorem dX10_areTold_238 : decode cX10_areTold 238 = .ok (.ifCond .eq 14, 3) := by decide +kernel
theorem dX10_areTold_241 : decode cX10_areTold 241 = .ok (.iload_n 2, 1) := by decide +kernel
theorem dX10_areTold_242 : decode cX10_areTold 242 = .ok (.invokestatic 107, 3) := by decide +kernel
theorem dX10_areTold_245 : decode cX10_areTold 245 = .ok (.ifCond .eq 7, 3) := by decide +kernel
theorem dX10_areTold_248 : decode cX10_areTold 248 = .ok (.iconst 1, 1) := by decide +kernel
theorem dX10_areTold_249 : decode cX10_areTold 249 = .ok (.goto 4, 3) := by decide +kernel
theorem dX10_areTold_252 : decode cX10_areTold 252 = .ok (.iconst 0, 1) := by decide +kernel
theorem dX10_areTold_253 : decode cX10_areTold 253 = .ok (.ireturn, 1) := by decide +kernel
theorem dX10_areTold_254 : decode cX10_areTold 254 = .ok (.iload_n 1, 1) := by decide +kernel
theorem dX10_areTold_255 : decode cX10_areTold 255 = .ok (.invokestatic 107, 3) := by decide +kernel
theorem dX10_areTold_258 : decode cX10_areTold 258 = .ok (.ireturn, 1) := by decide +kernel
theorem dX10_areTold_259 : decode cX10_areTold 259 = .ok (.iload_n 1, 1) := by decide +kernel
theorem dX10_areTold_260 : decode cX10_areTold 260 = .ok (.iconst 0, 1) := by decide +kernel
theorem dX10_areTold_261 : decode cX10_areTold 261 = .ok (.bipush 13, 2) := by decide +kernel
theorem dX10_areTold_263 : decode cX10_areTold 263 = .ok (.invokestatic 100, 3) := by decide +kernel
theorem dX10_areTold_266 : decode cX10_areTold 266 = .ok (.ifCond .eq 21, 3) := by decide +kernel
theorem dX10_areTold_269 : decode cX10_areTold 269 = .ok (.iload_n 2, 1) := by decide +kernel
theorem dX10_areTold_270 : decode cX10_areTold 270 = .ok (.invokestatic 107, 3) := by decide +kernel
theorem dX10_areTold_273 : decode cX10_areTold 273 = .ok (.ifCond .eq 14, 3) := by decide +kernel
theorem dX10_areTold_276 : decode cX10_areTold 276 = .ok (.iload_n 3, 1) := by decide +kernel
theorem dX10_areTold_277 : decode cX10_areTold 277 = .ok (.invokestatic 107, 3) := by decide +kernel
theorem dX10_areTold_280 : decode cX10_areTold 280 = .ok (.ifCond .eq 7, 3) := by decide +kernel
theorem dX10_areTold_283 : decode cX10_areTold 283 = .ok (.iconst 1, 1) := by decide +kernel
theorem dX10_areTold_284 : decode cX10_areTold 284 = .ok (.goto 4, 3) := by decide +kernel
theorem dX10_areTold_287 : decode cX10_areTold 287 = .ok (.iconst 0, 1) := by decide +kernel
theorem dX10_areTold_288 : decode cX10_areTold 288 = .ok (.ireturn, 1) := by decide +kernel
theorem dX10_areTold_289 : decode cX10_areTold 289 = .ok (.iload_n 1, 1) := by decide +kernel
theorem dX10_areTold_290 : decode cX10_areTold 290 = .ok (.iconst 0, 1) := by decide +kernel
theorem dX10_areTold_291 : decode cX10_areTold 291 = .ok (.bipush 7, 2) := by decide +kernel
theorem dX10_areTold_293 : decode cX10_areTold 293 = .ok (.invokestatic 100, 3) := by decide +kernel
theorem dX10_areTold_296 : decode cX10_areTold 296 = .ok (.ifCond .eq 21, 3) := by decide +kernel
theorem dX10_areTold_299 : decode cX10_areTold 299 = .ok (.iload_n 2, 1) := by decide +kernel
theorem dX10_areTold_300 : decode cX10_areTold 300 = .ok (.invokestatic 107, 3) := by decide +kernel
theorem dX10_areTold_303 : decode cX10_areTold 303 = .ok (.ifCond .eq 14, 3) := by decide +kernel
theorem dX10_areTold_306 : decode cX10_areTold 306 = .ok (.iload_n 3, 1) := by decide +kernel
theorem dX10_areTold_307 : decode cX10_areTold 307 = .ok (.invokestatic 107, 3) := by decide +kernel
theorem dX10_areTold_310 : decode cX10_areTold 310 = .ok (.ifCond .eq 7, 3) := by decide +kernel
theorem dX10_areTold_313 : decode cX10_areTold 313 = .ok (.iconst 1, 1) := by decide +kernel
theorem dX10_areTold_314 : decode cX10_areTold 314 = .ok (.goto 4, 3) := by decide +kernel
theorem dX10_areTold_317 : decode cX10_areTold 317 = .ok (.iconst 0, 1) := by decide +kernel
theorem dX10_areTold_318 : decode cX10_areTold 318 = .ok (.ireturn, 1) := by decide +kernel
theorem dX10_areTold_319 : decode cX10_areTold 319 = .ok (.iconst 0, 1) := by decide +kernel
theorem dX10_areTold_320 : decode cX10_areTold 320 = .ok (.ireturn, 1) := by decide +kernel
theorem dX10_isBlock_0 : decode cX10_isBlock 0 = .ok (.iload_n 0, 1) := by decide +kernel
theorem dX10_isBlock_1 : decode cX10_isBlock 1 = .ok (.iconst 1, 1) := by decide +kernel
theorem dX10_isBlock_2 : decode cX10_isBlock 2 = .ok (.if_icmp .eq 14, 3) := by decide +kernel
theorem dX10_isBlock_5 : decode cX10_isBlock 5 = .ok (.iload_n 0, 1) := by decide +kernel
theorem dX10_isBlock_6 : decode cX10_isBlock 6 = .ok (.iconst 4, 1) := by decide +kernel
theorem dX10_isBlock_7 : decode cX10_isBlock 7 = .ok (.if_icmp .eq 9, 3) := by decide +kernel
theorem dX10_isBlock_10 : decode cX10_isBlock 10 = .ok (.iload_n 0, 1) := by decide +kernel
theorem dX10_isBlock_11 : decode cX10_isBlock 11 = .ok (.bipush 11, 2) := by decide +kernel
theorem dX10_isBlock_13 : decode cX10_isBlock 13 = .ok (.if_icmp .ne 7, 3) := by decide +kernel
theorem dX10_isBlock_16 : decode cX10_isBlock 16 = .ok (.iconst 1, 1) := by decide +kernel
theorem dX10_isBlock_17 : decode cX10_isBlock 17 = .ok (.goto 4, 3) := by decide +kernel
theorem dX10_isBlock_20 : decode cX10_isBlock 20 = .ok (.iconst 0, 1) := by decide +kernel
theorem dX10_isBlock_21 : decode cX10_isBlock 21 = .ok (.ireturn, 1) := by decide +kernel
theorem dX10_partAt_0 : decode cX10_partAt 0 = .ok (.aload_n 0, 1) := by decide +kernel
theorem dX10_partAt_1 : decode cX10_partAt 1 = .ok (.getfield 7, 3) := by decide +kernel
theorem dX10_partAt_4 : decode cX10_partAt 4 = .ok (.aload_n 0, 1) := by decide +kernel
theorem dX10_partAt_5 : decode cX10_partAt 5 = .ok (.getfield 37, 3) := by decide +kernel
theorem dX10_partAt_8 : decode cX10_partAt 8 = .ok (.bipush 6, 2) := by decide +kernel
theorem dX10_partAt_10 : decode cX10_partAt 10 = .ok (.aload_n 0, 1) := by decide +kernel
theorem dX10_partAt_11 : decode cX10_partAt 11 = .ok (.getfield 104, 3) := by decide +kernel
theorem dX10_partAt_14 : decode cX10_partAt 14 = .ok (.imul, 1) := by decide +kernel
theorem dX10_partAt_15 : decode cX10_partAt 15 = .ok (.iload_n 1, 1) := by decide +kernel
theorem dX10_partAt_16 : decode cX10_partAt 16 = .ok (.iadd, 1) := by decide +kernel
theorem dX10_partAt_17 : decode cX10_partAt 17 = .ok (.iaload, 1) := by decide +kernel
theorem dX10_partAt_18 : decode cX10_partAt 18 = .ok (.iaload, 1) := by decide +kernel
theorem dX10_partAt_19 : decode cX10_partAt 19 = .ok (.ireturn, 1) := by decide +kernel
theorem dX10_isPartOpen_0 : decode cX10_isPartOpen 0 = .ok (.iconst 0, 1) := by decide +kernel
theorem dX10_isPartOpen_1 : decode cX10_isPartOpen 1 = .ok (.istore_n 3, 1) := by decide +kernel
theorem dX10_isPartOpen_2 : decode cX10_isPartOpen 2 = .ok (.iload_n 2, 1) := by decide +kernel
theorem dX10_isPartOpen_3 : decode cX10_isPartOpen 3 = .ok (.istore 4, 2) := by decide +kernel
theorem dX10_isPartOpen_5 : decode cX10_isPartOpen 5 = .ok (.iload 4, 2) := by decide +kernel
theorem dX10_isPartOpen_7 : decode cX10_isPartOpen 7 = .ok (.aload_n 0, 1) := by decide +kernel
theorem dX10_isPartOpen_8 : decode cX10_isPartOpen 8 = .ok (.getfield 31, 3) := by decide +kernel
theorem dX10_isPartOpen_11 : decode cX10_isPartOpen 11 = .ok (.aload_n 0, 1) := by decide +kernel
theorem dX10_isPartOpen_12 : decode cX10_isPartOpen 12 = .ok (.getfield 104, 3) := by decide +kernel
theorem dX10_isPartOpen_15 : decode cX10_isPartOpen 15 = .ok (.iaload, 1) := by decide +kernel
theorem dX10_isPartOpen_16 : decode cX10_isPartOpen 16 = .ok (.if_icmp .ge 29, 3) := by decide +kernel
theorem dX10_isPartOpen_19 : decode cX10_isPartOpen 19 = .ok (.iload_n 3, 1) := by decide +kernel
theorem dX10_isPartOpen_20 : decode cX10_isPartOpen 20 = .ok (.ifCond .ne 13, 3) := by decide +kernel
theorem dX10_isPartOpen_23 : decode cX10_isPartOpen 23 = .ok (.aload_n 0, 1) := by decide +kernel
theorem dX10_isPartOpen_24 : decode cX10_isPartOpen 24 = .ok (.iload 4, 2) := by decide +kernel
theorem dX10_isPartOpen_26 : decode cX10_isPartOpen 26 = .ok (.invokevirtual 114, 3) := by decide +kernel
theorem dX10_isPartOpen_29 : decode cX10_isPartOpen 29 = .ok (.iload_n 1, 1) := by decide +kernel
theorem dX10_isPartOpen_30 : decode cX10_isPartOpen 30 = .ok (.if_icmp .ne 7, 3) := by decide +kernel
theorem dX10_isPartOpen_33 : decode cX10_isPartOpen 33 = .ok (.iconst 1, 1) := by decide +kernel
theorem dX10_isPartOpen_34 : decode cX10_isPartOpen 34 = .ok (.goto 4, 3) := by decide +kernel
theorem dX10_isPartOpen_37 : decode cX10_isPartOpen 37 = .ok (.iconst 0, 1) := by decide +kernel
theorem dX10_isPartOpen_38 : decode cX10_isPartOpen 38 = .ok (.istore_n 3, 1) := by decide +kernel
theorem dX10_isPartOpen_39 : decode cX10_isPartOpen 39 = .ok (.iinc 4 1, 3) := by decide +kernel
theorem dX10_isPartOpen_42 : decode cX10_isPartOpen 42 = .ok (.goto (-37), 3) := by decide +kernel
theorem dX10_isPartOpen_45 : decode cX10_isPartOpen 45 = .ok (.iload_n 3, 1) := by decide +kernel
theorem dX10_isPartOpen_46 : decode cX10_isPartOpen 46 = .ok (.ireturn, 1) := by decide +kernel
theorem dX10_mayStand_0 : decode cX10_mayStand 0 = .ok (.aload_n 0, 1) := by decide +kernel
theorem dX10_mayStand_1 : decode cX10_mayStand 1 = .ok (.getfield 31, 3) := by decide +kernel
theorem dX10_mayStand_4 : decode cX10_mayStand 4 = .ok (.aload_n 0, 1) := by decide +kernel
theorem dX10_mayStand_5 : decode cX10_mayStand 5 = .ok (.getfield 104, 3) := by decide +kernel
theorem dX10_mayStand_8 : decode cX10_mayStand 8 = .ok (.iaload, 1) := by decide +kernel
theorem dX10_mayStand_9 : decode cX10_mayStand 9 = .ok (.istore_n 2, 1) := by decide +kernel
theorem dX10_mayStand_10 : decode cX10_mayStand 10 = .ok (.bipush 6, 2) := by decide +kernel
theorem dX10_mayStand_12 : decode cX10_mayStand 12 = .ok (.aload_n 0, 1) := by decide +kernel
theorem dX10_mayStand_13 : decode cX10_mayStand 13 = .ok (.getfield 104, 3) := by decide +kernel
theorem dX10_mayStand_16 : decode cX10_mayStand 16 = .ok (.imul, 1) := by decide +kernel
theorem dX10_mayStand_17 : decode cX10_mayStand 17 = .ok (.iload_n 2, 1) := by decide +kernel
theorem dX10_mayStand_18 : decode cX10_mayStand 18 = .ok (.iadd, 1) := by decide +kernel
theorem dX10_mayStand_19 : decode cX10_mayStand 19 = .ok (.iconst 1, 1) := by decide +kernel
theorem dX10_mayStand_20 : decode cX10_mayStand 20 = .ok (.isub, 1) := by decide +kernel
theorem dX10_mayStand_21 : decode cX10_mayStand 21 = .ok (.istore_n 3, 1) := by decide +kernel
theorem dX10_mayStand_22 : decode cX10_mayStand 22 = .ok (.iload_n 1, 1) := by decide +kernel
theorem dX10_mayStand_23 : decode cX10_mayStand 23 = .ok (.invokestatic 118, 3) := by decide +kernel
theorem dX10_mayStand_26 : decode cX10_mayStand 26 = .ok (.ifCond .eq 15, 3) := by decide +kernel
theorem dX10_mayStand_29 : decode cX10_mayStand 29 = .ok (.iload_n 2, 1) := by decide +kernel
theorem dX10_mayStand_30 : decode cX10_mayStand 30 = .ok (.bipush 6, 2) := by decide +kernel
theorem dX10_mayStand_32 : decode cX10_mayStand 32 = .ok (.if_icmp .ge 7, 3) := by decide +kernel
theorem dX10_mayStand_35 : decode cX10_mayStand 35 = .ok (.iconst 1, 1) := by decide +kernel
theorem dX10_mayStand_36 : decode cX10_mayStand 36 = .ok (.goto 4, 3) := by decide +kernel
theorem dX10_mayStand_39 : decode cX10_mayStand 39 = .ok (.iconst 0, 1) := by decide +kernel
theorem dX10_mayStand_40 : decode cX10_mayStand 40 = .ok (.ireturn, 1) := by decide +kernel
theorem dX10_mayStand_41 : decode cX10_mayStand 41 = .ok (.iload_n 1, 1) := by decide +kernel
theorem dX10_mayStand_42 : decode cX10_mayStand 42 = .ok (.ifCond .ne 13, 3) := by decide +kernel
theorem dX10_mayStand_45 : decode cX10_mayStand 45 = .ok (.iload_n 2, 1) := by decide +kernel
theorem dX10_mayStand_46 : decode cX10_mayStand 46 = .ok (.ifCond .le 7, 3) := by decide +kernel
theorem dX10_mayStand_49 : decode cX10_mayStand 49 = .ok (.iconst 1, 1) := by decide +kernel
theorem dX10_mayStand_50 : decode cX10_mayStand 50 = .ok (.goto 4, 3) := by decide +kernel
theorem dX10_mayStand_53 : decode cX10_mayStand 53 = .ok (.iconst 0, 1) := by decide +kernel
theorem dX10_mayStand_54 : decode cX10_mayStand 54 = .ok (.ireturn, 1) := by decide +kernel
theorem dX10_mayStand_55 : decode cX10_mayStand 55 = .ok (.iload_n 1, 1) := by decide +kernel
theorem dX10_mayStand_56 : decode cX10_mayStand 56 = .ok (.iconst 2, 1) := by decide +kernel
theorem dX10_mayStand_57 : decode cX10_mayStand 57 = .ok (.if_icmp .eq 8, 3) := by decide +kernel
theorem dX10_mayStand_60 : decode cX10_mayStand 60 = .ok (.iload_n 1, 1) := by decide +kernel
theorem dX10_mayStand_61 : decode cX10_mayStand 61 = .ok (.iconst 3, 1) := by decide +kernel
theorem dX10_mayStand_62 : decode cX10_mayStand 62 = .ok (.if_icmp .ne 56, 3) := by decide +kernel
theorem dX10_mayStand_65 : decode cX10_mayStand 65 = .ok (.iload_n 2, 1) := by decide +kernel
theorem dX10_mayStand_66 : decode cX10_mayStand 66 = .ok (.ifCond .eq 29, 3) := by decide +kernel
theorem dX10_mayStand_69 : decode cX10_mayStand 69 = .ok (.aload_n 0, 1) := by decide +kernel
theorem dX10_mayStand_70 : decode cX10_mayStand 70 = .ok (.getfield 7, 3) := by decide +kernel
theorem dX10_mayStand_73 : decode cX10_mayStand 73 = .ok (.aload_n 0, 1) := by decide +kernel
theorem dX10_mayStand_74 : decode cX10_mayStand 74 = .ok (.getfield 34, 3) := by decide +kernel
theorem dX10_mayStand_77 : decode cX10_mayStand 77 = .ok (.iload_n 3, 1) := by decide +kernel
theorem dX10_mayStand_78 : decode cX10_mayStand 78 = .ok (.iaload, 1) := by decide +kernel
theorem dX10_mayStand_79 : decode cX10_mayStand 79 = .ok (.iaload, 1) := by decide +kernel
theorem dX10_mayStand_80 : decode cX10_mayStand 80 = .ok (.iconst 1, 1) := by decide +kernel
theorem dX10_mayStand_81 : decode cX10_mayStand 81 = .ok (.if_icmp .ne 14, 3) := by decide +kernel
theorem dX10_mayStand_84 : decode cX10_mayStand 84 = .ok (.aload_n 0, 1) := by decide +kernel
theorem dX10_mayStand_85 : decode cX10_mayStand 85 = .ok (.iload_n 2, 1) := by decide +kernel
theorem dX10_mayStand_86 : decode cX10_mayStand 86 = .ok (.iconst 1, 1) := by decide +kernel
theorem dX10_mayStand_87 : decode cX10_mayStand 87 = .ok (.isub, 1) := by decide +kernel
theorem dX10_mayStand_88 : decode cX10_mayStand 88 = .ok (.invokevirtual 114, 3) := by decide +kernel
theorem dX10_mayStand_91 : decode cX10_mayStand 91 = .ok (.iconst 3, 1) := by decide +kernel
theorem dX10_mayStand_92 : decode cX10_mayStand 92 = .ok (.if_icmp .ne 5, 3) := by decide +kernel
theorem dX10_mayStand_95 : decode cX10_mayStand 95 = .ok (.iconst 0, 1) := by decide +kernel
theorem dX10_mayStand_96 : decode cX10_mayStand 96 = .ok (.ireturn, 1) := by decide +kernel
theorem dX10_mayStand_97 : decode cX10_mayStand 97 = .ok (.iload_n 1, 1) := by decide +kernel
theorem dX10_mayStand_98 : decode cX10_mayStand 98 = .ok (.iconst 3, 1) := by decide +kernel
theorem dX10_mayStand_99 : decode cX10_mayStand 99 = .ok (.if_icmp .eq 13, 3) := by decide +kernel
theorem dX10_mayStand_102 : decode cX10_mayStand 102 = .ok (.aload_n 0, 1) := by decide +kernel
theorem dX10_mayStand_103 : decode cX10_mayStand 103 = .ok (.getfield 40, 3) := by decide +kernel
theorem dX10_mayStand_106 : decode cX10_mayStand 106 = .ok (.iload_n 3, 1) := by decide +kernel
theorem dX10_mayStand_107 : decode cX10_mayStand 107 = .ok (.iaload, 1) := by decide +kernel
theorem dX10_mayStand_108 : decode cX10_mayStand 108 = .ok (.iconst 3, 1) := by decide +kernel
theorem dX10_mayStand_109 : decode cX10_mayStand 109 = .ok (.if_icmp .ge 7, 3) := by decide +kernel
theorem dX10_mayStand_112 : decode cX10_mayStand 112 = .ok (.iconst 1, 1) := by decide +kernel
theorem dX10_mayStand_113 : decode cX10_mayStand 113 = .ok (.goto 4, 3) := by decide +kernel
theorem dX10_mayStand_116 : decode cX10_mayStand 116 = .ok (.iconst 0, 1) := by decide +kernel
theorem dX10_mayStand_117 : decode cX10_mayStand 117 = .ok (.ireturn, 1) := by decide +kernel
theorem dX10_mayStand_118 : decode cX10_mayStand 118 = .ok (.iload_n 1, 1) := by decide +kernel
theorem dX10_mayStand_119 : decode cX10_mayStand 119 = .ok (.iconst 5, 1) := by decide +kernel
theorem dX10_mayStand_120 : decode cX10_mayStand 120 = .ok (.if_icmp .ne 75, 3) := by decide +kernel
theorem dX10_mayStand_123 : decode cX10_mayStand 123 = .ok (.iconst (-1), 1) := by decide +kernel
theorem dX10_mayStand_124 : decode cX10_mayStand 124 = .ok (.istore 4, 2) := by decide +kernel
theorem dX10_mayStand_126 : decode cX10_mayStand 126 = .ok (.iconst 0, 1) := by decide +kernel
theorem dX10_mayStand_127 : decode cX10_mayStand 127 = .ok (.istore 5, 2) := by decide +kernel
theorem dX10_mayStand_129 : decode cX10_mayStand 129 = .ok (.iload 5, 2) := by decide +kernel
theorem dX10_mayStand_131 : decode cX10_mayStand 131 = .ok (.iload_n 2, 1) := by decide +kernel
theorem dX10_mayStand_132 : decode cX10_mayStand 132 = .ok (.if_icmp .ge 42, 3) := by decide +kernel
theorem dX10_mayStand_135 : decode cX10_mayStand 135 = .ok (.aload_n 0, 1) := by decide +kernel
theorem dX10_mayStand_136 : decode cX10_mayStand 136 = .ok (.getfield 7, 3) := by decide +kernel
theorem dX10_mayStand_139 : decode cX10_mayStand 139 = .ok (.aload_n 0, 1) := by decide +kernel
theorem dX10_mayStand_140 : decode cX10_mayStand 140 = .ok (.getfield 34, 3) := by decide +kernel
theorem dX10_mayStand_143 : decode cX10_mayStand 143 = .ok (.bipush 6, 2) := by decide +kernel
theorem dX10_mayStand_145 : decode cX10_mayStand 145 = .ok (.aload_n 0, 1) := by decide +kernel
theorem dX10_mayStand_146 : decode cX10_mayStand 146 = .ok (.getfield 104, 3) := by decide +kernel
theorem dX10_mayStand_149 : decode cX10_mayStand 149 = .ok (.imul, 1) := by decide +kernel
theorem dX10_mayStand_150 : decode cX10_mayStand 150 = .ok (.iload 5, 2) := by decide +kernel
theorem dX10_mayStand_152 : decode cX10_mayStand 152 = .ok (.iadd, 1) := by decide +kernel
theorem dX10_mayStand_153 : decode cX10_mayStand 153 = .ok (.iaload, 1) := by decide +kernel
theorem dX10_mayStand_154 : decode cX10_mayStand 154 = .ok (.iaload, 1) := by decide +kernel
theorem dX10_mayStand_155 : decode cX10_mayStand 155 = .ok (.iconst 4, 1) := by decide +kernel
theorem dX10_mayStand_156 : decode cX10_mayStand 156 = .ok (.if_icmp .ne 8, 3) := by decide +kernel
theorem dX10_mayStand_159 : decode cX10_mayStand 159 = .ok (.iload 5, 2) := by decide +kernel
theorem dX10_mayStand_161 : decode cX10_mayStand 161 = .ok (.goto 5, 3) := by decide +kernel
theorem dX10_mayStand_164 : decode cX10_mayStand 164 = .ok (.iload 4, 2) := by decide +kernel
theorem dX10_mayStand_166 : decode cX10_mayStand 166 = .ok (.istore 4, 2) := by decide +kernel
theorem dX10_mayStand_168 : decode cX10_mayStand 168 = .ok (.iinc 5 1, 3) := by decide +kernel
theorem dX10_mayStand_171 : decode cX10_mayStand 171 = .ok (.goto (-42), 3) := by decide +kernel
theorem dX10_mayStand_174 : decode cX10_mayStand 174 = .ok (.iload 4, 2) := by decide +kernel
theorem dX10_mayStand_176 : decode cX10_mayStand 176 = .ok (.ifCond .lt 17, 3) := by decide +kernel
theorem dX10_mayStand_179 : decode cX10_mayStand 179 = .ok (.aload_n 0, 1) := by decide +kernel
theorem dX10_mayStand_180 : decode cX10_mayStand 180 = .ok (.iconst 3, 1) := by decide +kernel
theorem dX10_mayStand_181 : decode cX10_mayStand 181 = .ok (.iload 4, 2) := by decide +kernel
theorem dX10_mayStand_183 : decode cX10_mayStand 183 = .ok (.invokevirtual 121, 3) := by decide +kernel
theorem dX10_mayStand_186 : decode cX10_mayStand 186 = .ok (.ifCond .ne 7, 3) := by decide +kernel
theorem dX10_mayStand_189 : decode cX10_mayStand 189 = .ok (.iconst 1, 1) := by decide +kernel
theorem dX10_mayStand_190 : decode cX10_mayStand 190 = .ok (.goto 4, 3) := by decide +kernel
theorem dX10_mayStand_193 : decode cX10_mayStand 193 = .ok (.iconst 0, 1) := by decide +kernel
theorem dX10_mayStand_194 : decode cX10_mayStand 194 = .ok (.ireturn, 1) := by decide +kernel
theorem dX10_mayStand_195 : decode cX10_mayStand 195 = .ok (.iload_n 1, 1) := by decide +kernel
theorem dX10_mayStand_196 : decode cX10_mayStand 196 = .ok (.bipush 6, 2) := by decide +kernel
theorem dX10_mayStand_198 : decode cX10_mayStand 198 = .ok (.if_icmp .ne 18, 3) := by decide +kernel
theorem dX10_mayStand_201 : decode cX10_mayStand 201 = .ok (.aload_n 0, 1) := by decide +kernel
theorem dX10_mayStand_202 : decode cX10_mayStand 202 = .ok (.iconst 3, 1) := by decide +kernel
theorem dX10_mayStand_203 : decode cX10_mayStand 203 = .ok (.iconst 0, 1) := by decide +kernel
theorem dX10_mayStand_204 : decode cX10_mayStand 204 = .ok (.invokevirtual 121, 3) := by decide +kernel
theorem dX10_mayStand_207 : decode cX10_mayStand 207 = .ok (.ifCond .ne 7, 3) := by decide +kernel
theorem dX10_mayStand_210 : decode cX10_mayStand 210 = .ok (.iconst 1, 1) := by decide +kernel
theorem dX10_mayStand_211 : decode cX10_mayStand 211 = .ok (.goto 4, 3) := by decide +kernel
theorem dX10_mayStand_214 : decode cX10_mayStand 214 = .ok (.iconst 0, 1) := by decide +kernel
theorem dX10_mayStand_215 : decode cX10_mayStand 215 = .ok (.ireturn, 1) := by decide +kernel
theorem dX10_mayStand_216 : decode cX10_mayStand 216 = .ok (.iload_n 1, 1) := by decide +kernel
theorem dX10_mayStand_217 : decode cX10_mayStand 217 = .ok (.bipush 8, 2) := by decide +kernel
theorem dX10_mayStand_219 : decode cX10_mayStand 219 = .ok (.if_icmp .eq 15, 3) := by decide +kernel
theorem dX10_mayStand_222 : decode cX10_mayStand 222 = .ok (.iload_n 1, 1) := by decide +kernel
theorem dX10_mayStand_223 : decode cX10_mayStand 223 = .ok (.bipush 9, 2) := by decide +kernel
theorem dX10_mayStand_225 : decode cX10_mayStand 225 = .ok (.if_icmp .eq 9, 3) := by decide +kernel
theorem dX10_mayStand_228 : decode cX10_mayStand 228 = .ok (.iload_n 1, 1) := by decide +kernel
theorem dX10_mayStand_229 : decode cX10_mayStand 229 = .ok (.bipush 10, 2) := by decide +kernel
theorem dX10_mayStand_231 : decode cX10_mayStand 231 = .ok (.if_icmp .ne 12, 3) := by decide +kernel
theorem dX10_mayStand_234 : decode cX10_mayStand 234 = .ok (.aload_n 0, 1) := by decide +kernel
theorem dX10_mayStand_235 : decode cX10_mayStand 235 = .ok (.iconst 2, 1) := by decide +kernel
theorem dX10_mayStand_236 : decode cX10_mayStand 236 = .ok (.iconst 0, 1) := by decide +kernel
theorem dX10_mayStand_237 : decode cX10_mayStand 237 = .ok (.invokevirtual 121, 3) := by decide +kernel
theorem dX10_mayStand_240 : decode cX10_mayStand 240 = .ok (.ifCond .eq 7, 3) := by decide +kernel
theorem dX10_mayStand_243 : decode cX10_mayStand 243 = .ok (.iconst 1, 1) := by decide +kernel
theorem dX10_mayStand_244 : decode cX10_mayStand 244 = .ok (.goto 4, 3) := by decide +kernel
theorem dX10_mayStand_247 : decode cX10_mayStand 247 = .ok (.iconst 0, 1) := by decide +kernel
theorem dX10_mayStand_248 : decode cX10_mayStand 248 = .ok (.ireturn, 1) := by decide +kernel
theorem dX10_step_0 : decode cX10_step 0 = .ok (.iload_n 1, 1) := by decide +kernel
theorem dX10_step_1 : decode cX10_step 1 = .ok (.iload_n 2, 1) := by decide +kernel
theorem dX10_step_2 : decode cX10_step 2 = .ok (.iload_n 3, 1) := by decide +kernel
theorem dX10_step_3 : decode cX10_step 3 = .ok (.iload 4, 2) := by decide +kernel
theorem dX10_step_5 : decode cX10_step 5 = .ok (.invokestatic 125, 3) := by decide +kernel
theorem dX10_step_8 : decode cX10_step 8 = .ok (.ifCond .ne 5, 3) := by decide +kernel
theorem dX10_step_11 : decode cX10_step 11 = .ok (.iconst (-1), 1) := by decide +kernel
theorem dX10_step_12 : decode cX10_step 12 = .ok (.ireturn, 1) := by decide +kernel
theorem dX10_step_13 : decode cX10_step 13 = .ok (.aload_n 0, 1) := by decide +kernel
theorem dX10_step_14 : decode cX10_step 14 = .ok (.iload_n 1, 1) := by decide +kernel
theorem dX10_step_15 : decode cX10_step 15 = .ok (.invokevirtual 129, 3) := by decide +kernel
theorem dX10_step_18 : decode cX10_step 18 = .ok (.ifCond .ne 6, 3) := by decide +kernel
theorem dX10_step_21 : decode cX10_step 21 = .ok (.bipush (-2), 2) := by decide +kernel
theorem dX10_step_23 : decode cX10_step 23 = .ok (.ireturn, 1) := by decide +kernel
theorem dX10_step_24 : decode cX10_step 24 = .ok (.aload_n 0, 1) := by decide +kernel
theorem dX10_step_25 : decode cX10_step 25 = .ok (.getfield 28, 3) := by decide +kernel
theorem dX10_step_28 : decode cX10_step 28 = .ok (.aload_n 0, 1) := by decide +kernel
theorem dX10_step_29 : decode cX10_step 29 = .ok (.getfield 104, 3) := by decide +kernel
theorem dX10_step_32 : decode cX10_step 32 = .ok (.iaload, 1) := by decide +kernel
theorem dX10_step_33 : decode cX10_step 33 = .ok (.bipush 40, 2) := by decide +kernel
theorem dX10_step_35 : decode cX10_step 35 = .ok (.if_icmp .ne 6, 3) := by decide +kernel
theorem dX10_step_38 : decode cX10_step 38 = .ok (.bipush (-3), 2) := by decide +kernel
theorem dX10_step_40 : decode cX10_step 40 = .ok (.ireturn, 1) := by decide +kernel
theorem dX10_step_41 : decode cX10_step 41 = .ok (.bipush 40, 2) := by decide +kernel
theorem dX10_step_43 : decode cX10_step 43 = .ok (.aload_n 0, 1) := by decide +kernel
theorem dX10_step_44 : decode cX10_step 44 = .ok (.getfield 104, 3) := by decide +kernel
theorem dX10_step_47 : decode cX10_step 47 = .ok (.imul, 1) := by decide +kernel
theorem dX10_step_48 : decode cX10_step 48 = .ok (.aload_n 0, 1) := by decide +kernel
theorem dX10_step_49 : decode cX10_step 49 = .ok (.getfield 28, 3) := by decide +kernel
theorem dX10_step_52 : decode cX10_step 52 = .ok (.aload_n 0, 1) := by decide +kernel
theorem dX10_step_53 : decode cX10_step 53 = .ok (.getfield 104, 3) := by decide +kernel
theorem dX10_step_56 : decode cX10_step 56 = .ok (.iaload, 1) := by decide +kernel
theorem dX10_step_57 : decode cX10_step 57 = .ok (.iadd, 1) := by decide +kernel
theorem dX10_step_58 : decode cX10_step 58 = .ok (.istore 5, 2) := by decide +kernel
theorem dX10_step_60 : decode cX10_step 60 = .ok (.aload_n 0, 1) := by decide +kernel
theorem dX10_step_61 : decode cX10_step 61 = .ok (.getfield 7, 3) := by decide +kernel
theorem dX10_step_64 : decode cX10_step 64 = .ok (.iload 5, 2) := by decide +kernel
theorem dX10_step_66 : decode cX10_step 66 = .ok (.iload_n 1, 1) := by decide +kernel
theorem dX10_step_67 : decode cX10_step 67 = .ok (.iastore, 1) := by decide +kernel
theorem dX10_step_68 : decode cX10_step 68 = .ok (.aload_n 0, 1) := by decide +kernel
theorem dX10_step_69 : decode cX10_step 69 = .ok (.getfield 13, 3) := by decide +kernel
theorem dX10_step_72 : decode cX10_step 72 = .ok (.iload 5, 2) := by decide +kernel
theorem dX10_step_74 : decode cX10_step 74 = .ok (.iload_n 2, 1) := by decide +kernel
theorem dX10_step_75 : decode cX10_step 75 = .ok (.iastore, 1) := by decide +kernel
theorem dX10_step_76 : decode cX10_step 76 = .ok (.aload_n 0, 1) := by decide +kernel
theorem dX10_step_77 : decode cX10_step 77 = .ok (.getfield 16, 3) := by decide +kernel
theorem dX10_step_80 : decode cX10_step 80 = .ok (.iload 5, 2) := by decide +kernel
theorem dX10_step_82 : decode cX10_step 82 = .ok (.iload_n 3, 1) := by decide +kernel
theorem dX10_step_83 : decode cX10_step 83 = .ok (.iastore, 1) := by decide +kernel
theorem dX10_step_84 : decode cX10_step 84 = .ok (.aload_n 0, 1) := by decide +kernel
theorem dX10_step_85 : decode cX10_step 85 = .ok (.getfield 19, 3) := by decide +kernel
theorem dX10_step_88 : decode cX10_step 88 = .ok (.iload 5, 2) := by decide +kernel
theorem dX10_step_90 : decode cX10_step 90 = .ok (.iload 4, 2) := by decide +kernel
theorem dX10_step_92 : decode cX10_step 92 = .ok (.iastore, 1) := by decide +kernel
theorem dX10_step_93 : decode cX10_step 93 = .ok (.aload_n 0, 1) := by decide +kernel
theorem dX10_step_94 : decode cX10_step 94 = .ok (.getfield 28, 3) := by decide +kernel
theorem dX10_step_97 : decode cX10_step 97 = .ok (.aload_n 0, 1) := by decide +kernel
theorem dX10_step_98 : decode cX10_step 98 = .ok (.getfield 104, 3) := by decide +kernel
theorem dX10_step_101 : decode cX10_step 101 = .ok (.dup2, 1) := by decide +kernel
theorem dX10_step_102 : decode cX10_step 102 = .ok (.iaload, 1) := by decide +kernel
theorem dX10_step_103 : decode cX10_step 103 = .ok (.iconst 1, 1) := by decide +kernel
theorem dX10_step_104 : decode cX10_step 104 = .ok (.iadd, 1) := by decide +kernel
theorem dX10_step_105 : decode cX10_step 105 = .ok (.iastore, 1) := by decide +kernel
theorem dX10_step_106 : decode cX10_step 106 = .ok (.iload_n 1, 1) := by decide +kernel
theorem dX10_step_107 : decode cX10_step 107 = .ok (.invokestatic 118, 3) := by decide +kernel
theorem dX10_step_110 : decode cX10_step 110 = .ok (.ifCond .eq 64, 3) := by decide +kernel
theorem dX10_step_113 : decode cX10_step 113 = .ok (.bipush 6, 2) := by decide +kernel
theorem dX10_step_115 : decode cX10_step 115 = .ok (.aload_n 0, 1) := by decide +kernel
