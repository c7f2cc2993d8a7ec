theorem dX10_run_138 : decode cX10_run 138 = .ok (.iaload, 1) := by decide +kernel
theorem dX10_run_139 : decode cX10_run 139 = .ok (.ireturn, 1) := by decide +kernel
theorem dX10_caught_0 : decode cX10_caught 0 = .ok (.aload_n 0, 1) := by decide +kernel
theorem dX10_caught_1 : decode cX10_caught 1 = .ok (.getfield 156, 3) := by decide +kernel
theorem dX10_caught_4 : decode cX10_caught 4 = .ok (.iconst 1, 1) := by decide +kernel
theorem dX10_caught_5 : decode cX10_caught 5 = .ok (.isub, 1) := by decide +kernel
theorem dX10_caught_6 : decode cX10_caught 6 = .ok (.istore_n 1, 1) := by decide +kernel
theorem dX10_caught_7 : decode cX10_caught 7 = .ok (.aload_n 0, 1) := by decide +kernel
theorem dX10_caught_8 : decode cX10_caught 8 = .ok (.getfield 79, 3) := by decide +kernel
theorem dX10_caught_11 : decode cX10_caught 11 = .ok (.iload_n 1, 1) := by decide +kernel
theorem dX10_caught_12 : decode cX10_caught 12 = .ok (.iaload, 1) := by decide +kernel
theorem dX10_caught_13 : decode cX10_caught 13 = .ok (.iconst 4, 1) := by decide +kernel
theorem dX10_caught_14 : decode cX10_caught 14 = .ok (.if_icmp .eq 9, 3) := by decide +kernel
theorem dX10_caught_17 : decode cX10_caught 17 = .ok (.iinc 1 (-1), 3) := by decide +kernel
theorem dX10_caught_20 : decode cX10_caught 20 = .ok (.goto (-13), 3) := by decide +kernel
theorem dX10_caught_23 : decode cX10_caught 23 = .ok (.aload_n 0, 1) := by decide +kernel
theorem dX10_caught_24 : decode cX10_caught 24 = .ok (.getfield 88, 3) := by decide +kernel
theorem dX10_caught_27 : decode cX10_caught 27 = .ok (.iload_n 1, 1) := by decide +kernel
theorem dX10_caught_28 : decode cX10_caught 28 = .ok (.iaload, 1) := by decide +kernel
theorem dX10_caught_29 : decode cX10_caught 29 = .ok (.ireturn, 1) := by decide +kernel
theorem dX10_note_0 : decode cX10_note 0 = .ok (.aload_n 0, 1) := by decide +kernel
theorem dX10_note_1 : decode cX10_note 1 = .ok (.getfield 94, 3) := by decide +kernel
theorem dX10_note_4 : decode cX10_note 4 = .ok (.aload_n 0, 1) := by decide +kernel
theorem dX10_note_5 : decode cX10_note 5 = .ok (.getfield 207, 3) := by decide +kernel
theorem dX10_note_8 : decode cX10_note 8 = .ok (.dload_n 1, 1) := by decide +kernel
theorem dX10_note_9 : decode cX10_note 9 = .ok (.dastore, 1) := by decide +kernel
theorem dX10_note_10 : decode cX10_note 10 = .ok (.aload_n 0, 1) := by decide +kernel
theorem dX10_note_11 : decode cX10_note 11 = .ok (.dup, 1) := by decide +kernel
theorem dX10_note_12 : decode cX10_note 12 = .ok (.getfield 207, 3) := by decide +kernel
theorem dX10_note_15 : decode cX10_note 15 = .ok (.iconst 1, 1) := by decide +kernel
theorem dX10_note_16 : decode cX10_note 16 = .ok (.iadd, 1) := by decide +kernel
theorem dX10_note_17 : decode cX10_note 17 = .ok (.putfield 207, 3) := by decide +kernel
theorem dX10_note_20 : decode cX10_note 20 = .ok (.return_, 1) := by decide +kernel
theorem dX10_isSo_0 : decode cX10_isSo 0 = .ok (.aload_n 0, 1) := by decide +kernel
theorem dX10_isSo_1 : decode cX10_isSo 1 = .ok (.getfield 43, 3) := by decide +kernel
theorem dX10_isSo_4 : decode cX10_isSo 4 = .ok (.aload_n 0, 1) := by decide +kernel
theorem dX10_isSo_5 : decode cX10_isSo 5 = .ok (.getfield 13, 3) := by decide +kernel
theorem dX10_isSo_8 : decode cX10_isSo 8 = .ok (.iload_n 1, 1) := by decide +kernel
theorem dX10_isSo_9 : decode cX10_isSo 9 = .ok (.iaload, 1) := by decide +kernel
theorem dX10_isSo_10 : decode cX10_isSo 10 = .ok (.daload, 1) := by decide +kernel
theorem dX10_isSo_11 : decode cX10_isSo 11 = .ok (.dstore_n 2, 1) := by decide +kernel
theorem dX10_isSo_12 : decode cX10_isSo 12 = .ok (.aload_n 0, 1) := by decide +kernel
theorem dX10_isSo_13 : decode cX10_isSo 13 = .ok (.getfield 43, 3) := by decide +kernel
theorem dX10_isSo_16 : decode cX10_isSo 16 = .ok (.aload_n 0, 1) := by decide +kernel
theorem dX10_isSo_17 : decode cX10_isSo 17 = .ok (.getfield 19, 3) := by decide +kernel
theorem dX10_isSo_20 : decode cX10_isSo 20 = .ok (.iload_n 1, 1) := by decide +kernel
theorem dX10_isSo_21 : decode cX10_isSo 21 = .ok (.iaload, 1) := by decide +kernel
theorem dX10_isSo_22 : decode cX10_isSo 22 = .ok (.daload, 1) := by decide +kernel
theorem dX10_isSo_23 : decode cX10_isSo 23 = .ok (.dstore 4, 2) := by decide +kernel
theorem dX10_isSo_25 : decode cX10_isSo 25 = .ok (.aload_n 0, 1) := by decide +kernel
theorem dX10_isSo_26 : decode cX10_isSo 26 = .ok (.getfield 16, 3) := by decide +kernel
theorem dX10_isSo_29 : decode cX10_isSo 29 = .ok (.iload_n 1, 1) := by decide +kernel
theorem dX10_isSo_30 : decode cX10_isSo 30 = .ok (.iaload, 1) := by decide +kernel
theorem dX10_isSo_31 : decode cX10_isSo 31 = .ok (.tableswitch 64 0 2 #[25, 38, 51], 25) := by decide +kernel
theorem dX10_isSo_56 : decode cX10_isSo 56 = .ok (.dload_n 2, 1) := by decide +kernel
theorem dX10_isSo_57 : decode cX10_isSo 57 = .ok (.dload 4, 2) := by decide +kernel
theorem dX10_isSo_59 : decode cX10_isSo 59 = .ok (.dcmp .g, 1) := by decide +kernel
theorem dX10_isSo_60 : decode cX10_isSo 60 = .ok (.ifCond .ge 7, 3) := by decide +kernel
theorem dX10_isSo_63 : decode cX10_isSo 63 = .ok (.iconst 1, 1) := by decide +kernel
theorem dX10_isSo_64 : decode cX10_isSo 64 = .ok (.goto 4, 3) := by decide +kernel
theorem dX10_isSo_67 : decode cX10_isSo 67 = .ok (.iconst 0, 1) := by decide +kernel
theorem dX10_isSo_68 : decode cX10_isSo 68 = .ok (.ireturn, 1) := by decide +kernel
theorem dX10_isSo_69 : decode cX10_isSo 69 = .ok (.dload_n 2, 1) := by decide +kernel
theorem dX10_isSo_70 : decode cX10_isSo 70 = .ok (.dload 4, 2) := by decide +kernel
theorem dX10_isSo_72 : decode cX10_isSo 72 = .ok (.dcmp .l, 1) := by decide +kernel
theorem dX10_isSo_73 : decode cX10_isSo 73 = .ok (.ifCond .ne 7, 3) := by decide +kernel
theorem dX10_isSo_76 : decode cX10_isSo 76 = .ok (.iconst 1, 1) := by decide +kernel
theorem dX10_isSo_77 : decode cX10_isSo 77 = .ok (.goto 4, 3) := by decide +kernel
theorem dX10_isSo_80 : decode cX10_isSo 80 = .ok (.iconst 0, 1) := by decide +kernel
theorem dX10_isSo_81 : decode cX10_isSo 81 = .ok (.ireturn, 1) := by decide +kernel
theorem dX10_isSo_82 : decode cX10_isSo 82 = .ok (.dload_n 2, 1) := by decide +kernel
theorem dX10_isSo_83 : decode cX10_isSo 83 = .ok (.dload 4, 2) := by decide +kernel
theorem dX10_isSo_85 : decode cX10_isSo 85 = .ok (.dcmp .l, 1) := by decide +kernel
theorem dX10_isSo_86 : decode cX10_isSo 86 = .ok (.ifCond .eq 7, 3) := by decide +kernel
theorem dX10_isSo_89 : decode cX10_isSo 89 = .ok (.iconst 1, 1) := by decide +kernel
theorem dX10_isSo_90 : decode cX10_isSo 90 = .ok (.goto 4, 3) := by decide +kernel
theorem dX10_isSo_93 : decode cX10_isSo 93 = .ok (.iconst 0, 1) := by decide +kernel
theorem dX10_isSo_94 : decode cX10_isSo 94 = .ok (.ireturn, 1) := by decide +kernel
theorem dX10_isSo_95 : decode cX10_isSo 95 = .ok (.dload_n 2, 1) := by decide +kernel
theorem dX10_isSo_96 : decode cX10_isSo 96 = .ok (.dload 4, 2) := by decide +kernel
theorem dX10_isSo_98 : decode cX10_isSo 98 = .ok (.dcmp .l, 1) := by decide +kernel
theorem dX10_isSo_99 : decode cX10_isSo 99 = .ok (.ifCond .lt 7, 3) := by decide +kernel
theorem dX10_isSo_102 : decode cX10_isSo 102 = .ok (.iconst 1, 1) := by decide +kernel
theorem dX10_isSo_103 : decode cX10_isSo 103 = .ok (.goto 4, 3) := by decide +kernel
theorem dX10_isSo_106 : decode cX10_isSo 106 = .ok (.iconst 0, 1) := by decide +kernel
theorem dX10_isSo_107 : decode cX10_isSo 107 = .ok (.ireturn, 1) := by decide +kernel
theorem dX10_call_0 : decode cX10_call 0 = .ok (.aload_n 0, 1) := by decide +kernel
theorem dX10_call_1 : decode cX10_call 1 = .ok (.getfield 31, 3) := by decide +kernel
theorem dX10_call_4 : decode cX10_call 4 = .ok (.aload_n 0, 1) := by decide +kernel
theorem dX10_call_5 : decode cX10_call 5 = .ok (.getfield 13, 3) := by decide +kernel
theorem dX10_call_8 : decode cX10_call 8 = .ok (.iload_n 1, 1) := by decide +kernel
theorem dX10_call_9 : decode cX10_call 9 = .ok (.iaload, 1) := by decide +kernel
theorem dX10_call_10 : decode cX10_call 10 = .ok (.iaload, 1) := by decide +kernel
theorem dX10_call_11 : decode cX10_call 11 = .ok (.ifCond .gt 11, 3) := by decide +kernel
theorem dX10_call_14 : decode cX10_call 14 = .ok (.aload_n 0, 1) := by decide +kernel
theorem dX10_call_15 : decode cX10_call 15 = .ok (.getfield 163, 3) := by decide +kernel
theorem dX10_call_18 : decode cX10_call 18 = .ok (.iconst 4, 1) := by decide +kernel
theorem dX10_call_19 : decode cX10_call 19 = .ok (.if_icmp .ne 10, 3) := by decide +kernel
theorem dX10_call_22 : decode cX10_call 22 = .ok (.aload_n 0, 1) := by decide +kernel
theorem dX10_call_23 : decode cX10_call 23 = .ok (.bipush 10, 2) := by decide +kernel
theorem dX10_call_25 : decode cX10_call 25 = .ok (.invokevirtual 191, 3) := by decide +kernel
theorem dX10_call_28 : decode cX10_call 28 = .ok (.return_, 1) := by decide +kernel
theorem dX10_call_29 : decode cX10_call 29 = .ok (.aload_n 0, 1) := by decide +kernel
theorem dX10_call_30 : decode cX10_call 30 = .ok (.dup, 1) := by decide +kernel
theorem dX10_call_31 : decode cX10_call 31 = .ok (.getfield 163, 3) := by decide +kernel
theorem dX10_call_34 : decode cX10_call 34 = .ok (.iconst 1, 1) := by decide +kernel
theorem dX10_call_35 : decode cX10_call 35 = .ok (.iadd, 1) := by decide +kernel
theorem dX10_call_36 : decode cX10_call 36 = .ok (.putfield 163, 3) := by decide +kernel
theorem dX10_call_39 : decode cX10_call 39 = .ok (.aload_n 0, 1) := by decide +kernel
theorem dX10_call_40 : decode cX10_call 40 = .ok (.aload_n 0, 1) := by decide +kernel
theorem dX10_call_41 : decode cX10_call 41 = .ok (.getfield 13, 3) := by decide +kernel
theorem dX10_call_44 : decode cX10_call 44 = .ok (.iload_n 1, 1) := by decide +kernel
theorem dX10_call_45 : decode cX10_call 45 = .ok (.iaload, 1) := by decide +kernel
theorem dX10_call_46 : decode cX10_call 46 = .ok (.iload_n 1, 1) := by decide +kernel
theorem dX10_call_47 : decode cX10_call 47 = .ok (.iconst 1, 1) := by decide +kernel
theorem dX10_call_48 : decode cX10_call 48 = .ok (.iadd, 1) := by decide +kernel
theorem dX10_call_49 : decode cX10_call 49 = .ok (.invokevirtual 210, 3) := by decide +kernel
theorem dX10_call_52 : decode cX10_call 52 = .ok (.return_, 1) := by decide +kernel
theorem dX10_wrap_0 : decode cX10_wrap 0 = .ok (.aload_n 0, 1) := by decide +kernel
theorem dX10_wrap_1 : decode cX10_wrap 1 = .ok (.invokevirtual 221, 3) := by decide +kernel
theorem dX10_wrap_4 : decode cX10_wrap 4 = .ok (.istore_n 2, 1) := by decide +kernel
theorem dX10_wrap_5 : decode cX10_wrap 5 = .ok (.aload_n 0, 1) := by decide +kernel
theorem dX10_wrap_6 : decode cX10_wrap 6 = .ok (.getfield 72, 3) := by decide +kernel
theorem dX10_wrap_9 : decode cX10_wrap 9 = .ok (.iload_n 2, 1) := by decide +kernel
theorem dX10_wrap_10 : decode cX10_wrap 10 = .ok (.iaload, 1) := by decide +kernel
theorem dX10_wrap_11 : decode cX10_wrap 11 = .ok (.iconst 5, 1) := by decide +kernel
theorem dX10_wrap_12 : decode cX10_wrap 12 = .ok (.if_icmp .ne 12, 3) := by decide +kernel
theorem dX10_wrap_15 : decode cX10_wrap 15 = .ok (.aload_n 0, 1) := by decide +kernel
theorem dX10_wrap_16 : decode cX10_wrap 16 = .ok (.bipush 10, 2) := by decide +kernel
theorem dX10_wrap_18 : decode cX10_wrap 18 = .ok (.invokevirtual 191, 3) := by decide +kernel
theorem dX10_wrap_21 : decode cX10_wrap 21 = .ok (.goto 17, 3) := by decide +kernel
theorem dX10_wrap_24 : decode cX10_wrap 24 = .ok (.aload_n 0, 1) := by decide +kernel
theorem dX10_wrap_25 : decode cX10_wrap 25 = .ok (.bipush 11, 2) := by decide +kernel
theorem dX10_wrap_27 : decode cX10_wrap 27 = .ok (.iload_n 1, 1) := by decide +kernel
theorem dX10_wrap_28 : decode cX10_wrap 28 = .ok (.aload_n 0, 1) := by decide +kernel
theorem dX10_wrap_29 : decode cX10_wrap 29 = .ok (.getfield 13, 3) := by decide +kernel
theorem dX10_wrap_32 : decode cX10_wrap 32 = .ok (.iload_n 1, 1) := by decide +kernel
theorem dX10_wrap_33 : decode cX10_wrap 33 = .ok (.iaload, 1) := by decide +kernel
theorem dX10_wrap_34 : decode cX10_wrap 34 = .ok (.iload_n 2, 1) := by decide +kernel
theorem dX10_wrap_35 : decode cX10_wrap 35 = .ok (.invokevirtual 144, 3) := by decide +kernel
theorem dX10_wrap_38 : decode cX10_wrap 38 = .ok (.return_, 1) := by decide +kernel
theorem dX10_tell_0 : decode cX10_tell 0 = .ok (.aload_n 0, 1) := by decide +kernel
theorem dX10_tell_1 : decode cX10_tell 1 = .ok (.invokevirtual 221, 3) := by decide +kernel
theorem dX10_tell_4 : decode cX10_tell 4 = .ok (.istore_n 1, 1) := by decide +kernel
theorem dX10_tell_5 : decode cX10_tell 5 = .ok (.aload_n 0, 1) := by decide +kernel
theorem dX10_tell_6 : decode cX10_tell 6 = .ok (.aload_n 0, 1) := by decide +kernel
theorem dX10_tell_7 : decode cX10_tell 7 = .ok (.getfield 60, 3) := by decide +kernel
theorem dX10_tell_10 : decode cX10_tell 10 = .ok (.iload_n 1, 1) := by decide +kernel
theorem dX10_tell_11 : decode cX10_tell 11 = .ok (.iaload, 1) := by decide +kernel
theorem dX10_tell_12 : decode cX10_tell 12 = .ok (.i2d, 1) := by decide +kernel
theorem dX10_tell_13 : decode cX10_tell 13 = .ok (.invokevirtual 225, 3) := by decide +kernel
theorem dX10_tell_16 : decode cX10_tell 16 = .ok (.aload_n 0, 1) := by decide +kernel
theorem dX10_tell_17 : decode cX10_tell 17 = .ok (.aload_n 0, 1) := by decide +kernel
theorem dX10_tell_18 : decode cX10_tell 18 = .ok (.getfield 63, 3) := by decide +kernel
theorem dX10_tell_21 : decode cX10_tell 21 = .ok (.iload_n 1, 1) := by decide +kernel
theorem dX10_tell_22 : decode cX10_tell 22 = .ok (.iaload, 1) := by decide +kernel
theorem dX10_tell_23 : decode cX10_tell 23 = .ok (.i2d, 1) := by decide +kernel
theorem dX10_tell_24 : decode cX10_tell 24 = .ok (.invokevirtual 225, 3) := by decide +kernel
theorem dX10_tell_27 : decode cX10_tell 27 = .ok (.aload_n 0, 1) := by decide +kernel
theorem dX10_tell_28 : decode cX10_tell 28 = .ok (.aload_n 0, 1) := by decide +kernel
theorem dX10_tell_29 : decode cX10_tell 29 = .ok (.iload_n 1, 1) := by decide +kernel
theorem dX10_tell_30 : decode cX10_tell 30 = .ok (.invokevirtual 229, 3) := by decide +kernel
theorem dX10_tell_33 : decode cX10_tell 33 = .ok (.i2d, 1) := by decide +kernel
theorem dX10_tell_34 : decode cX10_tell 34 = .ok (.invokevirtual 225, 3) := by decide +kernel
theorem dX10_tell_37 : decode cX10_tell 37 = .ok (.aload_n 0, 1) := by decide +kernel
theorem dX10_tell_38 : decode cX10_tell 38 = .ok (.aload_n 0, 1) := by decide +kernel
theorem dX10_tell_39 : decode cX10_tell 39 = .ok (.getfield 72, 3) := by decide +kernel
theorem dX10_tell_42 : decode cX10_tell 42 = .ok (.iload_n 1, 1) := by decide +kernel
theorem dX10_tell_43 : decode cX10_tell 43 = .ok (.iaload, 1) := by decide +kernel
theorem dX10_tell_44 : decode cX10_tell 44 = .ok (.i2d, 1) := by decide +kernel
theorem dX10_tell_45 : decode cX10_tell 45 = .ok (.invokevirtual 225, 3) := by decide +kernel
theorem dX10_tell_48 : decode cX10_tell 48 = .ok (.aload_n 0, 1) := by decide +kernel
theorem dX10_tell_49 : decode cX10_tell 49 = .ok (.dup, 1) := by decide +kernel
theorem dX10_tell_50 : decode cX10_tell 50 = .ok (.getfield 141, 3) := by decide +kernel
theorem dX10_tell_53 : decode cX10_tell 53 = .ok (.iconst 1, 1) := by decide +kernel
theorem dX10_tell_54 : decode cX10_tell 54 = .ok (.iadd, 1) := by decide +kernel
theorem dX10_tell_55 : decode cX10_tell 55 = .ok (.putfield 141, 3) := by decide +kernel
theorem dX10_tell_58 : decode cX10_tell 58 = .ok (.return_, 1) := by decide +kernel
theorem dX10_order_0 : decode cX10_order 0 = .ok (.aload_n 0, 1) := by decide +kernel
theorem dX10_order_1 : decode cX10_order 1 = .ok (.getfield 7, 3) := by decide +kernel
theorem dX10_order_4 : decode cX10_order 4 = .ok (.iload_n 1, 1) := by decide +kernel
theorem dX10_order_5 : decode cX10_order 5 = .ok (.iaload, 1) := by decide +kernel
theorem dX10_order_6 : decode cX10_order 6 = .ok (.tableswitch 205 1 11 #[58, 205, 205, 78, 141, 149, 157, 174, 190, 198, 97], 58) := by decide +kernel
theorem dX10_order_64 : decode cX10_order 64 = .ok (.aload_n 0, 1) := by decide +kernel
theorem dX10_order_65 : decode cX10_order 65 = .ok (.iconst 3, 1) := by decide +kernel
theorem dX10_order_66 : decode cX10_order 66 = .ok (.iload_n 1, 1) := by decide +kernel
theorem dX10_order_67 : decode cX10_order 67 = .ok (.iconst 0, 1) := by decide +kernel
theorem dX10_order_68 : decode cX10_order 68 = .ok (.invokevirtual 159, 3) := by decide +kernel
theorem dX10_order_71 : decode cX10_order 71 = .ok (.aload_n 0, 1) := by decide +kernel
theorem dX10_order_72 : decode cX10_order 72 = .ok (.dup, 1) := by decide +kernel
theorem dX10_order_73 : decode cX10_order 73 = .ok (.getfield 141, 3) := by decide +kernel
theorem dX10_order_76 : decode cX10_order 76 = .ok (.iconst 1, 1) := by decide +kernel
theorem dX10_order_77 : decode cX10_order 77 = .ok (.iadd, 1) := by decide +kernel
theorem dX10_order_78 : decode cX10_order 78 = .ok (.putfield 141, 3) := by decide +kernel
theorem dX10_order_81 : decode cX10_order 81 = .ok (.goto 135, 3) := by decide +kernel
theorem dX10_order_84 : decode cX10_order 84 = .ok (.aload_n 0, 1) := by decide +kernel
theorem dX10_order_85 : decode cX10_order 85 = .ok (.iconst 1, 1) := by decide +kernel
theorem dX10_order_86 : decode cX10_order 86 = .ok (.iload_n 1, 1) := by decide +kernel
theorem dX10_order_87 : decode cX10_order 87 = .ok (.aload_n 0, 1) := by decide +kernel
theorem dX10_order_88 : decode cX10_order 88 = .ok (.getfield 13, 3) := by decide +kernel
theorem dX10_order_91 : decode cX10_order 91 = .ok (.iload_n 1, 1) := by decide +kernel
theorem dX10_order_92 : decode cX10_order 92 = .ok (.iaload, 1) := by decide +kernel
theorem dX10_order_93 : decode cX10_order 93 = .ok (.invokevirtual 159, 3) := by decide +kernel
theorem dX10_order_96 : decode cX10_order 96 = .ok (.aload_n 0, 1) := by decide +kernel
theorem dX10_order_97 : decode cX10_order 97 = .ok (.invokevirtual 195, 3) := by decide +kernel
theorem dX10_order_100 : decode cX10_order 100 = .ok (.goto 116, 3) := by decide +kernel
theorem dX10_order_103 : decode cX10_order 103 = .ok (.aload_n 0, 1) := by decide +kernel
theorem dX10_order_104 : decode cX10_order 104 = .ok (.iload_n 1, 1) := by decide +kernel
theorem dX10_order_105 : decode cX10_order 105 = .ok (.invokevirtual 232, 3) := by decide +kernel
theorem dX10_order_108 : decode cX10_order 108 = .ok (.ifCond .eq 10, 3) := by decide +kernel
theorem dX10_order_111 : decode cX10_order 111 = .ok (.aload_n 0, 1) := by decide +kernel
theorem dX10_order_112 : decode cX10_order 112 = .ok (.iconst 2, 1) := by decide +kernel
theorem dX10_order_113 : decode cX10_order 113 = .ok (.iload_n 1, 1) := by decide +kernel
theorem dX10_order_114 : decode cX10_order 114 = .ok (.iconst 0, 1) := by decide +kernel
theorem dX10_order_115 : decode cX10_order 115 = .ok (.invokevirtual 159, 3) := by decide +kernel
theorem dX10_order_118 : decode cX10_order 118 = .ok (.aload_n 0, 1) := by decide +kernel
theorem dX10_order_119 : decode cX10_order 119 = .ok (.aload_n 0, 1) := by decide +kernel
theorem dX10_order_120 : decode cX10_order 120 = .ok (.iload_n 1, 1) := by decide +kernel
theorem dX10_order_121 : decode cX10_order 121 = .ok (.invokevirtual 232, 3) := by decide +kernel
theorem dX10_order_124 : decode cX10_order 124 = .ok (.ifCond .eq 9, 3) := by decide +kernel
theorem dX10_order_127 : decode cX10_order 127 = .ok (.iload_n 1, 1) := by decide +kernel
theorem dX10_order_128 : decode cX10_order 128 = .ok (.iconst 1, 1) := by decide +kernel
theorem dX10_order_129 : decode cX10_order 129 = .ok (.iadd, 1) := by decide +kernel
theorem dX10_order_130 : decode cX10_order 130 = .ok (.goto 11, 3) := by decide +kernel
theorem dX10_order_133 : decode cX10_order 133 = .ok (.aload_n 0, 1) := by decide +kernel
theorem dX10_order_134 : decode cX10_order 134 = .ok (.getfield 22, 3) := by decide +kernel
theorem dX10_order_137 : decode cX10_order 137 = .ok (.iload_n 1, 1) := by decide +kernel
theorem dX10_order_138 : decode cX10_order 138 = .ok (.iaload, 1) := by decide +kernel
theorem dX10_order_139 : decode cX10_order 139 = .ok (.iconst 1, 1) := by decide +kernel
theorem dX10_order_140 : decode cX10_order 140 = .ok (.iadd, 1) := by decide +kernel
theorem dX10_order_141 : decode cX10_order 141 = .ok (.putfield 141, 3) := by decide +kernel
theorem dX10_order_144 : decode cX10_order 144 = .ok (.goto 72, 3) := by decide +kernel
theorem dX10_order_147 : decode cX10_order 147 = .ok (.aload_n 0, 1) := by decide +kernel
theorem dX10_order_148 : decode cX10_order 148 = .ok (.iconst 1, 1) := by decide +kernel
theorem dX10_order_149 : decode cX10_order 149 = .ok (.putfield 138, 3) := by decide +kernel
theorem dX10_order_152 : decode cX10_order 152 = .ok (.goto 64, 3) := by decide +kernel
theorem dX10_order_155 : decode cX10_order 155 = .ok (.aload_n 0, 1) := by decide +kernel
theorem dX10_order_156 : decode cX10_order 156 = .ok (.iconst 2, 1) := by decide +kernel
theorem dX10_order_157 : decode cX10_order 157 = .ok (.putfield 138, 3) := by decide +kernel
theorem dX10_order_160 : decode cX10_order 160 = .ok (.goto 56, 3) := by decide +kernel
theorem dX10_order_163 : decode cX10_order 163 = .ok (.aload_n 0, 1) := by decide +kernel
theorem dX10_order_164 : decode cX10_order 164 = .ok (.bipush 9, 2) := by decide +kernel
theorem dX10_order_166 : decode cX10_order 166 = .ok (.iload_n 1, 1) := by decide +kernel
theorem dX10_order_167 : decode cX10_order 167 = .ok (.aload_n 0, 1) := by decide +kernel
theorem dX10_order_168 : decode cX10_order 168 = .ok (.getfield 13, 3) := by decide +kernel
theorem dX10_order_171 : decode cX10_order 171 = .ok (.iload_n 1, 1) := by decide +kernel
theorem dX10_order_172 : decode cX10_order 172 = .ok (.iaload, 1) := by decide +kernel
theorem dX10_order_173 : decode cX10_order 173 = .ok (.iconst (-1), 1) := by decide +kernel
theorem dX10_order_174 : decode cX10_order 174 = .ok (.invokevirtual 144, 3) := by decide +kernel
theorem dX10_order_177 : decode cX10_order 177 = .ok (.goto 39, 3) := by decide +kernel
theorem dX10_order_180 : decode cX10_order 180 = .ok (.aload_n 0, 1) := by decide +kernel
theorem dX10_order_181 : decode cX10_order 181 = .ok (.aload_n 0, 1) := by decide +kernel
theorem dX10_order_182 : decode cX10_order 182 = .ok (.invokevirtual 221, 3) := by decide +kernel
theorem dX10_order_185 : decode cX10_order 185 = .ok (.putfield 135, 3) := by decide +kernel
theorem dX10_order_188 : decode cX10_order 188 = .ok (.aload_n 0, 1) := by decide +kernel
theorem dX10_order_189 : decode cX10_order 189 = .ok (.iconst 3, 1) := by decide +kernel
theorem dX10_order_190 : decode cX10_order 190 = .ok (.putfield 138, 3) := by decide +kernel
theorem dX10_order_193 : decode cX10_order 193 = .ok (.goto 23, 3) := by decide +kernel
theorem dX10_order_196 : decode cX10_order 196 = .ok (.aload_n 0, 1) := by decide +kernel
theorem dX10_order_197 : decode cX10_order 197 = .ok (.iload_n 1, 1) := by decide +kernel
theorem dX10_order_198 : decode cX10_order 198 = .ok (.invokevirtual 235, 3) := by decide +kernel
theorem dX10_order_201 : decode cX10_order 201 = .ok (.goto 15, 3) := by decide +kernel
theorem dX10_order_204 : decode cX10_order 204 = .ok (.aload_n 0, 1) := by decide +kernel
theorem dX10_order_205 : decode cX10_order 205 = .ok (.invokevirtual 238, 3) := by decide +kernel
theorem dX10_order_208 : decode cX10_order 208 = .ok (.goto 8, 3) := by decide +kernel
theorem dX10_order_211 : decode cX10_order 211 = .ok (.aload_n 0, 1) := by decide +kernel
theorem dX10_order_212 : decode cX10_order 212 = .ok (.iload_n 1, 1) := by decide +kernel
theorem dX10_order_213 : decode cX10_order 213 = .ok (.invokevirtual 241, 3) := by decide +kernel
theorem dX10_order_216 : decode cX10_order 216 = .ok (.return_, 1) := by decide +kernel
theorem dX10_faultOf_0 : decode cX10_faultOf 0 = .ok (.aload_n 0, 1) := by decide +kernel
theorem dX10_faultOf_1 : decode cX10_faultOf 1 = .ok (.getfield 47, 3) := by decide +kernel
theorem dX10_faultOf_4 : decode cX10_faultOf 4 = .ok (.iload_n 1, 1) := by decide +kernel
theorem dX10_faultOf_5 : decode cX10_faultOf 5 = .ok (.baload, 1) := by decide +kernel
theorem dX10_faultOf_6 : decode cX10_faultOf 6 = .ok (.ifCond .ne 5, 3) := by decide +kernel
theorem dX10_faultOf_9 : decode cX10_faultOf 9 = .ok (.iconst 3, 1) := by decide +kernel
theorem dX10_faultOf_10 : decode cX10_faultOf 10 = .ok (.ireturn, 1) := by decide +kernel
theorem dX10_faultOf_11 : decode cX10_faultOf 11 = .ok (.iload_n 2, 1) := by decide +kernel
theorem dX10_faultOf_12 : decode cX10_faultOf 12 = .ok (.iconst 0, 1) := by decide +kernel
theorem dX10_faultOf_13 : decode cX10_faultOf 13 = .ok (.aload_n 0, 1) := by decide +kernel
theorem dX10_faultOf_14 : decode cX10_faultOf 14 = .ok (.getfield 51, 3) := by decide +kernel
theorem dX10_faultOf_17 : decode cX10_faultOf 17 = .ok (.iload_n 1, 1) := by decide +kernel
theorem dX10_faultOf_18 : decode cX10_faultOf 18 = .ok (.iaload, 1) := by decide +kernel
theorem dX10_faultOf_19 : decode cX10_faultOf 19 = .ok (.iconst 1, 1) := by decide +kernel
theorem dX10_faultOf_20 : decode cX10_faultOf 20 = .ok (.isub, 1) := by decide +kernel
theorem dX10_faultOf_21 : decode cX10_faultOf 21 = .ok (.invokestatic 100, 3) := by decide +kernel
theorem dX10_faultOf_24 : decode cX10_faultOf 24 = .ok (.ifCond .ne 5, 3) := by decide +kernel
theorem dX10_faultOf_27 : decode cX10_faultOf 27 = .ok (.iconst 4, 1) := by decide +kernel
theorem dX10_faultOf_28 : decode cX10_faultOf 28 = .ok (.ireturn, 1) := by decide +kernel
theorem dX10_faultOf_29 : decode cX10_faultOf 29 = .ok (.iload_n 3, 1) := by decide +kernel
theorem dX10_faultOf_30 : decode cX10_faultOf 30 = .ok (.ifCond .eq 27, 3) := by decide +kernel
theorem dX10_faultOf_33 : decode cX10_faultOf 33 = .ok (.iload_n 1, 1) := by decide +kernel
theorem dX10_faultOf_34 : decode cX10_faultOf 34 = .ok (.bipush 16, 2) := by decide +kernel
theorem dX10_faultOf_36 : decode cX10_faultOf 36 = .ok (.if_icmp .lt 21, 3) := by decide +kernel
theorem dX10_faultOf_39 : decode cX10_faultOf 39 = .ok (.aload_n 0, 1) := by decide +kernel
theorem dX10_faultOf_40 : decode cX10_faultOf 40 = .ok (.getfield 57, 3) := by decide +kernel
theorem dX10_faultOf_43 : decode cX10_faultOf 43 = .ok (.bipush 16, 2) := by decide +kernel
theorem dX10_faultOf_45 : decode cX10_faultOf 45 = .ok (.iload_n 1, 1) := by decide +kernel
theorem dX10_faultOf_46 : decode cX10_faultOf 46 = .ok (.imul, 1) := by decide +kernel
theorem dX10_faultOf_47 : decode cX10_faultOf 47 = .ok (.iload_n 2, 1) := by decide +kernel
theorem dX10_faultOf_48 : decode cX10_faultOf 48 = .ok (.iadd, 1) := by decide +kernel
theorem dX10_faultOf_49 : decode cX10_faultOf 49 = .ok (.baload, 1) := by decide +kernel
theorem dX10_faultOf_50 : decode cX10_faultOf 50 = .ok (.ifCond .ne 7, 3) := by decide +kernel
theorem dX10_faultOf_53 : decode cX10_faultOf 53 = .ok (.iconst 3, 1) := by decide +kernel
theorem dX10_faultOf_54 : decode cX10_faultOf 54 = .ok (.goto 4, 3) := by decide +kernel
theorem dX10_faultOf_57 : decode cX10_faultOf 57 = .ok (.iconst 0, 1) := by decide +kernel
theorem dX10_faultOf_58 : decode cX10_faultOf 58 = .ok (.ireturn, 1) := by decide +kernel
theorem dX10_kept_0 : decode cX10_kept 0 = .ok (.iload_n 0, 1) := by decide +kernel
theorem dX10_kept_1 : decode cX10_kept 1 = .ok (.tableswitch 82 0 6 #[43, 55, 60, 65, 70, 74, 78], 43) := by decide +kernel
theorem dX10_kept_44 : decode cX10_kept 44 = .ok (.dload_n 1, 1) := by decide +kernel
theorem dX10_kept_45 : decode cX10_kept 45 = .ok (.dconst 0, 1) := by decide +kernel
theorem dX10_kept_46 : decode cX10_kept 46 = .ok (.dcmp .l, 1) := by decide +kernel
theorem dX10_kept_47 : decode cX10_kept 47 = .ok (.ifCond .eq 7, 3) := by decide +kernel
theorem dX10_kept_50 : decode cX10_kept 50 = .ok (.dconst 1, 1) := by decide +kernel
theorem dX10_kept_51 : decode cX10_kept 51 = .ok (.goto 4, 3) := by decide +kernel
theorem dX10_kept_54 : decode cX10_kept 54 = .ok (.dconst 0, 1) := by decide +kernel
theorem dX10_kept_55 : decode cX10_kept 55 = .ok (.dreturn, 1) := by decide +kernel
theorem dX10_kept_56 : decode cX10_kept 56 = .ok (.dload_n 1, 1) := by decide +kernel
theorem dX10_kept_57 : decode cX10_kept 57 = .ok (.d2i, 1) := by decide +kernel
theorem dX10_kept_58 : decode cX10_kept 58 = .ok (.i2b, 1) := by decide +kernel
theorem dX10_kept_59 : decode cX10_kept 59 = .ok (.i2d, 1) := by decide +kernel
theorem dX10_kept_60 : decode cX10_kept 60 = .ok (.dreturn, 1) := by decide +kernel
theorem dX10_kept_61 : decode cX10_kept 61 = .ok (.dload_n 1, 1) := by decide +kernel
theorem dX10_kept_62 : decode cX10_kept 62 = .ok (.d2i, 1) := by decide +kernel
theorem dX10_kept_63 : decode cX10_kept 63 = .ok (.i2c, 1) := by decide +kernel
theorem dX10_kept_64 : decode cX10_kept 64 = .ok (.i2d, 1) := by decide +kernel
theorem dX10_kept_65 : decode cX10_kept 65 = .ok (.dreturn, 1) := by decide +kernel
theorem dX10_kept_66 : decode cX10_kept 66 = .ok (.dload_n 1, 1) := by decide +kernel
theorem dX10_kept_67 : decode cX10_kept 67 = .ok (.d2i, 1) := by decide +kernel
theorem dX10_kept_68 : decode cX10_kept 68 = .ok (.i2s, 1) := by decide +kernel
theorem dX10_kept_69 : decode cX10_kept 69 = .ok (.i2d, 1) := by decide +kernel
theorem dX10_kept_70 : decode cX10_kept 70 = .ok (.dreturn, 1) := by decide +kernel
theorem dX10_kept_71 : decode cX10_kept 71 = .ok (.dload_n 1, 1) := by decide +kernel
theorem dX10_kept_72 : decode cX10_kept 72 = .ok (.d2i, 1) := by decide +kernel
theorem dX10_kept_73 : decode cX10_kept 73 = .ok (.i2d, 1) := by decide +kernel
theorem dX10_kept_74 : decode cX10_kept 74 = .ok (.dreturn, 1) := by decide +kernel
theorem dX10_kept_75 : decode cX10_kept 75 = .ok (.dload_n 1, 1) := by decide +kernel
theorem dX10_kept_76 : decode cX10_kept 76 = .ok (.d2l, 1) := by decide +kernel
theorem dX10_kept_77 : decode cX10_kept 77 = .ok (.l2d, 1) := by decide +kernel
theorem dX10_kept_78 : decode cX10_kept 78 = .ok (.dreturn, 1) := by decide +kernel
theorem dX10_kept_79 : decode cX10_kept 79 = .ok (.dload_n 1, 1) := by decide +kernel
theorem dX10_kept_80 : decode cX10_kept 80 = .ok (.d2f, 1) := by decide +kernel
theorem dX10_kept_81 : decode cX10_kept 81 = .ok (.f2d, 1) := by decide +kernel
theorem dX10_kept_82 : decode cX10_kept 82 = .ok (.dreturn, 1) := by decide +kernel
theorem dX10_kept_83 : decode cX10_kept 83 = .ok (.dload_n 1, 1) := by decide +kernel
theorem dX10_kept_84 : decode cX10_kept 84 = .ok (.dreturn, 1) := by decide +kernel
theorem dX10_make_0 : decode cX10_make 0 = .ok (.iload_n 2, 1) := by decide +kernel
theorem dX10_make_1 : decode cX10_make 1 = .ok (.bipush 16, 2) := by decide +kernel
theorem dX10_make_3 : decode cX10_make 3 = .ok (.if_icmp .le 12, 3) := by decide +kernel
theorem dX10_make_6 : decode cX10_make 6 = .ok (.aload_n 0, 1) := by decide +kernel
theorem dX10_make_7 : decode cX10_make 7 = .ok (.bipush 8, 2) := by decide +kernel
theorem dX10_make_9 : decode cX10_make 9 = .ok (.invokevirtual 191, 3) := by decide +kernel
theorem dX10_make_12 : decode cX10_make 12 = .ok (.goto 67, 3) := by decide +kernel
theorem dX10_make_15 : decode cX10_make 15 = .ok (.iload_n 2, 1) := by decide +kernel
theorem dX10_make_16 : decode cX10_make 16 = .ok (.ifCond .ge 11, 3) := by decide +kernel
theorem dX10_make_19 : decode cX10_make 19 = .ok (.aload_n 0, 1) := by decide +kernel
theorem dX10_make_20 : decode cX10_make 20 = .ok (.iconst 5, 1) := by decide +kernel
theorem dX10_make_21 : decode cX10_make 21 = .ok (.invokevirtual 191, 3) := by decide +kernel
theorem dX10_make_24 : decode cX10_make 24 = .ok (.goto 55, 3) := by decide +kernel
theorem dX10_make_27 : decode cX10_make 27 = .ok (.aload_n 0, 1) := by decide +kernel
theorem dX10_make_28 : decode cX10_make 28 = .ok (.getfield 47, 3) := by decide +kernel
theorem dX10_make_31 : decode cX10_make 31 = .ok (.iload_n 1, 1) := by decide +kernel
theorem dX10_make_32 : decode cX10_make 32 = .ok (.iconst 1, 1) := by decide +kernel
theorem dX10_make_33 : decode cX10_make 33 = .ok (.bastore, 1) := by decide +kernel
theorem dX10_make_34 : decode cX10_make 34 = .ok (.aload_n 0, 1) := by decide +kernel
theorem dX10_make_35 : decode cX10_make 35 = .ok (.getfield 51, 3) := by decide +kernel
theorem dX10_make_38 : decode cX10_make 38 = .ok (.iload_n 1, 1) := by decide +kernel
theorem dX10_make_39 : decode cX10_make 39 = .ok (.iload_n 2, 1) := by decide +kernel
theorem dX10_make_40 : decode cX10_make 40 = .ok (.iastore, 1) := by decide +kernel
theorem dX10_make_41 : decode cX10_make 41 = .ok (.iconst 0, 1) := by decide +kernel
theorem dX10_make_42 : decode cX10_make 42 = .ok (.istore_n 3, 1) := by decide +kernel
theorem dX10_make_43 : decode cX10_make 43 = .ok (.iload_n 3, 1) := by decide +kernel
theorem dX10_make_44 : decode cX10_make 44 = .ok (.bipush 16, 2) := by decide +kernel
theorem dX10_make_46 : decode cX10_make 46 = .ok (.if_icmp .ge 33, 3) := by decide +kernel
theorem dX10_make_49 : decode cX10_make 49 = .ok (.aload_n 0, 1) := by decide +kernel
theorem dX10_make_50 : decode cX10_make 50 = .ok (.getfield 54, 3) := by decide +kernel
theorem dX10_make_53 : decode cX10_make 53 = .ok (.bipush 16, 2) := by decide +kernel
theorem dX10_make_55 : decode cX10_make 55 = .ok (.iload_n 1, 1) := by decide +kernel
theorem dX10_make_56 : decode cX10_make 56 = .ok (.imul, 1) := by decide +kernel
theorem dX10_make_57 : decode cX10_make 57 = .ok (.iload_n 3, 1) := by decide +kernel
theorem dX10_make_58 : decode cX10_make 58 = .ok (.iadd, 1) := by decide +kernel
theorem dX10_make_59 : decode cX10_make 59 = .ok (.dconst 0, 1) := by decide +kernel
theorem dX10_make_60 : decode cX10_make 60 = .ok (.dastore, 1) := by decide +kernel
theorem dX10_make_61 : decode cX10_make 61 = .ok (.aload_n 0, 1) := by decide +kernel
theorem dX10_make_62 : decode cX10_make 62 = .ok (.getfield 57, 3) := by decide +kernel
theorem dX10_make_65 : decode cX10_make 65 = .ok (.bipush 16, 2) := by decide +kernel
theorem dX10_make_67 : decode cX10_make 67 = .ok (.iload_n 1, 1) := by decide +kernel
theorem dX10_make_68 : decode cX10_make 68 = .ok (.imul, 1) := by decide +kernel
theorem dX10_make_69 : decode cX10_make 69 = .ok (.iload_n 3, 1) := by decide +kernel
theorem dX10_make_70 : decode cX10_make 70 = .ok (.iadd, 1) := by decide +kernel
theorem dX10_make_71 : decode cX10_make 71 = .ok (.iconst 0, 1) := by decide +kernel
theorem dX10_make_72 : decode cX10_make 72 = .ok (.bastore, 1) := by decide +kernel
theorem dX10_make_73 : decode cX10_make 73 = .ok (.iinc 3 1, 3) := by decide +kernel
theorem dX10_make_76 : decode cX10_make 76 = .ok (.goto (-33), 3) := by decide +kernel
theorem dX10_make_79 : decode cX10_make 79 = .ok (.return_, 1) := by decide +kernel
theorem dX10_onRow_0 : decode cX10_onRow 0 = .ok (.aload_n 0, 1) := by decide +kernel
theorem dX10_onRow_1 : decode cX10_onRow 1 = .ok (.getfield 13, 3) := by decide +kernel
theorem dX10_onRow_4 : decode cX10_onRow 4 = .ok (.iload_n 1, 1) := by decide +kernel
theorem dX10_onRow_5 : decode cX10_onRow 5 = .ok (.iaload, 1) := by decide +kernel
theorem dX10_onRow_6 : decode cX10_onRow 6 = .ok (.istore_n 2, 1) := by decide +kernel
theorem dX10_onRow_7 : decode cX10_onRow 7 = .ok (.aload_n 0, 1) := by decide +kernel
theorem dX10_onRow_8 : decode cX10_onRow 8 = .ok (.getfield 43, 3) := by decide +kernel
theorem dX10_onRow_11 : decode cX10_onRow 11 = .ok (.aload_n 0, 1) := by decide +kernel
theorem dX10_onRow_12 : decode cX10_onRow 12 = .ok (.getfield 16, 3) := by decide +kernel
theorem dX10_onRow_15 : decode cX10_onRow 15 = .ok (.iload_n 1, 1) := by decide +kernel
theorem dX10_onRow_16 : decode cX10_onRow 16 = .ok (.iaload, 1) := by decide +kernel
theorem dX10_onRow_17 : decode cX10_onRow 17 = .ok (.daload, 1) := by decide +kernel
theorem dX10_onRow_18 : decode cX10_onRow 18 = .ok (.d2i, 1) := by decide +kernel
theorem dX10_onRow_19 : decode cX10_onRow 19 = .ok (.istore_n 3, 1) := by decide +kernel
theorem dX10_onRow_20 : decode cX10_onRow 20 = .ok (.aload_n 0, 1) := by decide +kernel
theorem dX10_onRow_21 : decode cX10_onRow 21 = .ok (.iload_n 2, 1) := by decide +kernel
theorem dX10_onRow_22 : decode cX10_onRow 22 = .ok (.iload_n 3, 1) := by decide +kernel
theorem dX10_onRow_23 : decode cX10_onRow 23 = .ok (.aload_n 0, 1) := by decide +kernel
theorem dX10_onRow_24 : decode cX10_onRow 24 = .ok (.getfield 7, 3) := by decide +kernel
theorem dX10_onRow_27 : decode cX10_onRow 27 = .ok (.iload_n 1, 1) := by decide +kernel
theorem dX10_onRow_28 : decode cX10_onRow 28 = .ok (.iaload, 1) := by decide +kernel
theorem dX10_onRow_29 : decode cX10_onRow 29 = .ok (.bipush 18, 2) := by decide +kernel
theorem dX10_onRow_31 : decode cX10_onRow 31 = .ok (.if_icmp .eq 7, 3) := by decide +kernel
theorem dX10_onRow_34 : decode cX10_onRow 34 = .ok (.iconst 1, 1) := by decide +kernel
theorem dX10_onRow_35 : decode cX10_onRow 35 = .ok (.goto 4, 3) := by decide +kernel
theorem dX10_onRow_38 : decode cX10_onRow 38 = .ok (.iconst 0, 1) := by decide +kernel
theorem dX10_onRow_39 : decode cX10_onRow 39 = .ok (.invokevirtual 244, 3) := by decide +kernel
theorem dX10_onRow_42 : decode cX10_onRow 42 = .ok (.istore 4, 2) := by decide +kernel
theorem dX10_onRow_44 : decode cX10_onRow 44 = .ok (.iload 4, 2) := by decide +kernel
theorem dX10_onRow_46 : decode cX10_onRow 46 = .ok (.ifCond .le 12, 3) := by decide +kernel
theorem dX10_onRow_49 : decode cX10_onRow 49 = .ok (.aload_n 0, 1) := by decide +kernel
theorem dX10_onRow_50 : decode cX10_onRow 50 = .ok (.iload 4, 2) := by decide +kernel
theorem dX10_onRow_52 : decode cX10_onRow 52 = .ok (.invokevirtual 191, 3) := by decide +kernel
theorem dX10_onRow_55 : decode cX10_onRow 55 = .ok (.goto 105, 3) := by decide +kernel
theorem dX10_onRow_58 : decode cX10_onRow 58 = .ok (.aload_n 0, 1) := by decide +kernel
theorem dX10_onRow_59 : decode cX10_onRow 59 = .ok (.getfield 7, 3) := by decide +kernel
theorem dX10_onRow_62 : decode cX10_onRow 62 = .ok (.iload_n 1, 1) := by decide +kernel
theorem dX10_onRow_63 : decode cX10_onRow 63 = .ok (.iaload, 1) := by decide +kernel
theorem dX10_onRow_64 : decode cX10_onRow 64 = .ok (.bipush 16, 2) := by decide +kernel
theorem dX10_onRow_66 : decode cX10_onRow 66 = .ok (.if_icmp .ne 28, 3) := by decide +kernel
theorem dX10_onRow_69 : decode cX10_onRow 69 = .ok (.aload_n 0, 1) := by decide +kernel
theorem dX10_onRow_70 : decode cX10_onRow 70 = .ok (.getfield 43, 3) := by decide +kernel
theorem dX10_onRow_73 : decode cX10_onRow 73 = .ok (.aload_n 0, 1) := by decide +kernel
theorem dX10_onRow_74 : decode cX10_onRow 74 = .ok (.getfield 19, 3) := by decide +kernel
theorem dX10_onRow_77 : decode cX10_onRow 77 = .ok (.iload_n 1, 1) := by decide +kernel
theorem dX10_onRow_78 : decode cX10_onRow 78 = .ok (.iaload, 1) := by decide +kernel
theorem dX10_onRow_79 : decode cX10_onRow 79 = .ok (.aload_n 0, 1) := by decide +kernel
theorem dX10_onRow_80 : decode cX10_onRow 80 = .ok (.getfield 54, 3) := by decide +kernel
theorem dX10_onRow_83 : decode cX10_onRow 83 = .ok (.bipush 16, 2) := by decide +kernel
theorem dX10_onRow_85 : decode cX10_onRow 85 = .ok (.iload_n 2, 1) := by decide +kernel
theorem dX10_onRow_86 : decode cX10_onRow 86 = .ok (.imul, 1) := by decide +kernel
theorem dX10_onRow_87 : decode cX10_onRow 87 = .ok (.iload_n 3, 1) := by decide +kernel
theorem dX10_onRow_88 : decode cX10_onRow 88 = .ok (.iadd, 1) := by decide +kernel
theorem dX10_onRow_89 : decode cX10_onRow 89 = .ok (.daload, 1) := by decide +kernel
theorem dX10_onRow_90 : decode cX10_onRow 90 = .ok (.dastore, 1) := by decide +kernel
theorem dX10_onRow_91 : decode cX10_onRow 91 = .ok (.goto 69, 3) := by decide +kernel
theorem dX10_onRow_94 : decode cX10_onRow 94 = .ok (.aload_n 0, 1) := by decide +kernel
theorem dX10_onRow_95 : decode cX10_onRow 95 = .ok (.getfield 7, 3) := by decide +kernel
theorem dX10_onRow_98 : decode cX10_onRow 98 = .ok (.iload_n 1, 1) := by decide +kernel
theorem dX10_onRow_99 : decode cX10_onRow 99 = .ok (.iaload, 1) := by decide +kernel
theorem dX10_onRow_100 : decode cX10_onRow 100 = .ok (.bipush 17, 2) := by decide +kernel
theorem dX10_onRow_102 : decode cX10_onRow 102 = .ok (.if_icmp .ne 34, 3) := by decide +kernel
theorem dX10_onRow_105 : decode cX10_onRow 105 = .ok (.aload_n 0, 1) := by decide +kernel
theorem dX10_onRow_106 : decode cX10_onRow 106 = .ok (.getfield 54, 3) := by decide +kernel
theorem dX10_onRow_109 : decode cX10_onRow 109 = .ok (.bipush 16, 2) := by decide +kernel
theorem dX10_onRow_111 : decode cX10_onRow 111 = .ok (.iload_n 2, 1) := by decide +kernel
theorem dX10_onRow_112 : decode cX10_onRow 112 = .ok (.imul, 1) := by decide +kernel
theorem dX10_onRow_113 : decode cX10_onRow 113 = .ok (.iload_n 3, 1) := by decide +kernel
theorem dX10_onRow_114 : decode cX10_onRow 114 = .ok (.iadd, 1) := by decide +kernel
theorem dX10_onRow_115 : decode cX10_onRow 115 = .ok (.iload_n 2, 1) := by decide +kernel
theorem dX10_onRow_116 : decode cX10_onRow 116 = .ok (.iconst 2, 1) := by decide +kernel
theorem dX10_onRow_117 : decode cX10_onRow 117 = .ok (.idiv, 1) := by decide +kernel
theorem dX10_onRow_118 : decode cX10_onRow 118 = .ok (.aload_n 0, 1) := by decide +kernel
theorem dX10_onRow_119 : decode cX10_onRow 119 = .ok (.getfield 43, 3) := by decide +kernel
theorem dX10_onRow_122 : decode cX10_onRow 122 = .ok (.aload_n 0, 1) := by decide +kernel
theorem dX10_onRow_123 : decode cX10_onRow 123 = .ok (.getfield 19, 3) := by decide +kernel
theorem dX10_onRow_126 : decode cX10_onRow 126 = .ok (.iload_n 1, 1) := by decide +kernel
theorem dX10_onRow_127 : decode cX10_onRow 127 = .ok (.iaload, 1) := by decide +kernel
theorem dX10_onRow_128 : decode cX10_onRow 128 = .ok (.daload, 1) := by decide +kernel
theorem dX10_onRow_129 : decode cX10_onRow 129 = .ok (.invokestatic 248, 3) := by decide +kernel
theorem dX10_onRow_132 : decode cX10_onRow 132 = .ok (.dastore, 1) := by decide +kernel
theorem dX10_onRow_133 : decode cX10_onRow 133 = .ok (.goto 27, 3) := by decide +kernel
theorem dX10_onRow_136 : decode cX10_onRow 136 = .ok (.aload_n 0, 1) := by decide +kernel
theorem dX10_onRow_137 : decode cX10_onRow 137 = .ok (.getfield 57, 3) := by decide +kernel
theorem dX10_onRow_140 : decode cX10_onRow 140 = .ok (.bipush 16, 2) := by decide +kernel
theorem dX10_onRow_142 : decode cX10_onRow 142 = .ok (.iload_n 2, 1) := by decide +kernel
theorem dX10_onRow_143 : decode cX10_onRow 143 = .ok (.imul, 1) := by decide +kernel
theorem dX10_onRow_144 : decode cX10_onRow 144 = .ok (.iload_n 3, 1) := by decide +kernel
theorem dX10_onRow_145 : decode cX10_onRow 145 = .ok (.iadd, 1) := by decide +kernel
theorem dX10_onRow_146 : decode cX10_onRow 146 = .ok (.iconst 1, 1) := by decide +kernel
theorem dX10_onRow_147 : decode cX10_onRow 147 = .ok (.bastore, 1) := by decide +kernel
theorem dX10_onRow_148 : decode cX10_onRow 148 = .ok (.aload_n 0, 1) := by decide +kernel
theorem dX10_onRow_149 : decode cX10_onRow 149 = .ok (.getfield 54, 3) := by decide +kernel
theorem dX10_onRow_152 : decode cX10_onRow 152 = .ok (.bipush 16, 2) := by decide +kernel
theorem dX10_onRow_154 : decode cX10_onRow 154 = .ok (.iload_n 2, 1) := by decide +kernel
theorem dX10_onRow_155 : decode cX10_onRow 155 = .ok (.imul, 1) := by decide +kernel
theorem dX10_onRow_156 : decode cX10_onRow 156 = .ok (.iload_n 3, 1) := by decide +kernel
theorem dX10_onRow_157 : decode cX10_onRow 157 = .ok (.iadd, 1) := by decide +kernel
theorem dX10_onRow_158 : decode cX10_onRow 158 = .ok (.dconst 0, 1) := by decide +kernel
theorem dX10_onRow_159 : decode cX10_onRow 159 = .ok (.dastore, 1) := by decide +kernel
theorem dX10_onRow_160 : decode cX10_onRow 160 = .ok (.return_, 1) := by decide +kernel
theorem dX10_work_0 : decode cX10_work 0 = .ok (.aload_n 0, 1) := by decide +kernel
theorem dX10_work_1 : decode cX10_work 1 = .ok (.getfield 13, 3) := by decide +kernel
theorem dX10_work_4 : decode cX10_work 4 = .ok (.iload_n 1, 1) := by decide +kernel
theorem dX10_work_5 : decode cX10_work 5 = .ok (.iaload, 1) := by decide +kernel
theorem dX10_work_6 : decode cX10_work 6 = .ok (.istore_n 2, 1) := by decide +kernel
theorem dX10_work_7 : decode cX10_work 7 = .ok (.aload_n 0, 1) := by decide +kernel
theorem dX10_work_8 : decode cX10_work 8 = .ok (.getfield 16, 3) := by decide +kernel
theorem dX10_work_11 : decode cX10_work 11 = .ok (.iload_n 1, 1) := by decide +kernel
theorem dX10_work_12 : decode cX10_work 12 = .ok (.iaload, 1) := by decide +kernel
theorem dX10_work_13 : decode cX10_work 13 = .ok (.istore_n 3, 1) := by decide +kernel
theorem dX10_work_14 : decode cX10_work 14 = .ok (.aload_n 0, 1) := by decide +kernel
theorem dX10_work_15 : decode cX10_work 15 = .ok (.getfield 7, 3) := by decide +kernel
theorem dX10_work_18 : decode cX10_work 18 = .ok (.iload_n 1, 1) := by decide +kernel
theorem dX10_work_19 : decode cX10_work 19 = .ok (.iaload, 1) := by decide +kernel
theorem dX10_work_20 : decode cX10_work 20 = .ok (.tableswitch 182 13 24 #[64, 79, 89, 182, 182, 182, 122, 137, 145, 153, 161, 169], 64) := by decide +kernel
theorem dX10_work_84 : decode cX10_work 84 = .ok (.aload_n 0, 1) := by decide +kernel
theorem dX10_work_85 : decode cX10_work 85 = .ok (.iload_n 2, 1) := by decide +kernel
theorem dX10_work_86 : decode cX10_work 86 = .ok (.aload_n 0, 1) := by decide +kernel
theorem dX10_work_87 : decode cX10_work 87 = .ok (.getfield 43, 3) := by decide +kernel
theorem dX10_work_90 : decode cX10_work 90 = .ok (.iload_n 3, 1) := by decide +kernel
theorem dX10_work_91 : decode cX10_work 91 = .ok (.daload, 1) := by decide +kernel
theorem dX10_work_92 : decode cX10_work 92 = .ok (.d2i, 1) := by decide +kernel
theorem dX10_work_93 : decode cX10_work 93 = .ok (.invokevirtual 252, 3) := by decide +kernel
theorem dX10_work_96 : decode cX10_work 96 = .ok (.goto 111, 3) := by decide +kernel
theorem dX10_work_99 : decode cX10_work 99 = .ok (.aload_n 0, 1) := by decide +kernel
theorem dX10_work_100 : decode cX10_work 100 = .ok (.getfield 47, 3) := by decide +kernel
theorem dX10_work_103 : decode cX10_work 103 = .ok (.iload_n 2, 1) := by decide +kernel
theorem dX10_work_104 : decode cX10_work 104 = .ok (.iconst 0, 1) := by decide +kernel
theorem dX10_work_105 : decode cX10_work 105 = .ok (.bastore, 1) := by decide +kernel
theorem dX10_work_106 : decode cX10_work 106 = .ok (.goto 101, 3) := by decide +kernel
theorem dX10_work_109 : decode cX10_work 109 = .ok (.aload_n 0, 1) := by decide +kernel
theorem dX10_work_110 : decode cX10_work 110 = .ok (.getfield 47, 3) := by decide +kernel
theorem dX10_work_113 : decode cX10_work 113 = .ok (.iload_n 2, 1) := by decide +kernel
theorem dX10_work_114 : decode cX10_work 114 = .ok (.baload, 1) := by decide +kernel
theorem dX10_work_115 : decode cX10_work 115 = .ok (.ifCond .eq 19, 3) := by decide +kernel
theorem dX10_work_118 : decode cX10_work 118 = .ok (.aload_n 0, 1) := by decide +kernel
theorem dX10_work_119 : decode cX10_work 119 = .ok (.getfield 43, 3) := by decide +kernel
theorem dX10_work_122 : decode cX10_work 122 = .ok (.iload_n 3, 1) := by decide +kernel
theorem dX10_work_123 : decode cX10_work 123 = .ok (.aload_n 0, 1) := by decide +kernel
theorem dX10_work_124 : decode cX10_work 124 = .ok (.getfield 51, 3) := by decide +kernel
theorem dX10_work_127 : decode cX10_work 127 = .ok (.iload_n 2, 1) := by decide +kernel
theorem dX10_work_128 : decode cX10_work 128 = .ok (.iaload, 1) := by decide +kernel
theorem dX10_work_129 : decode cX10_work 129 = .ok (.i2d, 1) := by decide +kernel
theorem dX10_work_130 : decode cX10_work 130 = .ok (.dastore, 1) := by decide +kernel
theorem dX10_work_131 : decode cX10_work 131 = .ok (.goto 76, 3) := by decide +kernel
theorem dX10_work_134 : decode cX10_work 134 = .ok (.aload_n 0, 1) := by decide +kernel
theorem dX10_work_135 : decode cX10_work 135 = .ok (.iconst 3, 1) := by decide +kernel
theorem dX10_work_136 : decode cX10_work 136 = .ok (.invokevirtual 191, 3) := by decide +kernel
theorem dX10_work_139 : decode cX10_work 139 = .ok (.goto 68, 3) := by decide +kernel
theorem dX10_work_142 : decode cX10_work 142 = .ok (.aload_n 0, 1) := by decide +kernel
theorem dX10_work_143 : decode cX10_work 143 = .ok (.getfield 43, 3) := by decide +kernel
theorem dX10_work_146 : decode cX10_work 146 = .ok (.iload_n 2, 1) := by decide +kernel
theorem dX10_work_147 : decode cX10_work 147 = .ok (.iload_n 3, 1) := by decide +kernel
theorem dX10_work_148 : decode cX10_work 148 = .ok (.i2d, 1) := by decide +kernel
theorem dX10_work_149 : decode cX10_work 149 = .ok (.ldc2_w 255, 3) := by decide +kernel
theorem dX10_work_152 : decode cX10_work 152 = .ok (.ddiv, 1) := by decide +kernel
theorem dX10_work_153 : decode cX10_work 153 = .ok (.dastore, 1) := by decide +kernel
theorem dX10_work_154 : decode cX10_work 154 = .ok (.goto 53, 3) := by decide +kernel
theorem dX10_work_157 : decode cX10_work 157 = .ok (.aload_n 0, 1) := by decide +kernel
theorem dX10_work_158 : decode cX10_work 158 = .ok (.iload_n 1, 1) := by decide +kernel
theorem dX10_work_159 : decode cX10_work 159 = .ok (.invokevirtual 257, 3) := by decide +kernel
theorem dX10_work_162 : decode cX10_work 162 = .ok (.goto 45, 3) := by decide +kernel
theorem dX10_work_165 : decode cX10_work 165 = .ok (.aload_n 0, 1) := by decide +kernel
theorem dX10_work_166 : decode cX10_work 166 = .ok (.iload_n 1, 1) := by decide +kernel
theorem dX10_work_167 : decode cX10_work 167 = .ok (.invokevirtual 260, 3) := by decide +kernel
theorem dX10_work_170 : decode cX10_work 170 = .ok (.goto 37, 3) := by decide +kernel
theorem dX10_work_173 : decode cX10_work 173 = .ok (.aload_n 0, 1) := by decide +kernel
theorem dX10_work_174 : decode cX10_work 174 = .ok (.iload_n 1, 1) := by decide +kernel
theorem dX10_work_175 : decode cX10_work 175 = .ok (.invokevirtual 263, 3) := by decide +kernel
theorem dX10_work_178 : decode cX10_work 178 = .ok (.goto 29, 3) := by decide +kernel
theorem dX10_work_181 : decode cX10_work 181 = .ok (.aload_n 0, 1) := by decide +kernel
theorem dX10_work_182 : decode cX10_work 182 = .ok (.iload_n 1, 1) := by decide +kernel
theorem dX10_work_183 : decode cX10_work 183 = .ok (.invokevirtual 266, 3) := by decide +kernel
theorem dX10_work_186 : decode cX10_work 186 = .ok (.goto 21, 3) := by decide +kernel
theorem dX10_work_189 : decode cX10_work 189 = .ok (.aload_n 0, 1) := by decide +kernel
theorem dX10_work_190 : decode cX10_work 190 = .ok (.aload_n 0, 1) := by decide +kernel
theorem dX10_work_191 : decode cX10_work 191 = .ok (.getfield 43, 3) := by decide +kernel
theorem dX10_work_194 : decode cX10_work 194 = .ok (.iload_n 2, 1) := by decide +kernel
theorem dX10_work_195 : decode cX10_work 195 = .ok (.daload, 1) := by decide +kernel
theorem dX10_work_196 : decode cX10_work 196 = .ok (.invokevirtual 225, 3) := by decide +kernel
theorem dX10_work_199 : decode cX10_work 199 = .ok (.goto 8, 3) := by decide +kernel
theorem dX10_work_202 : decode cX10_work 202 = .ok (.aload_n 0, 1) := by decide +kernel
theorem dX10_work_203 : decode cX10_work 203 = .ok (.iload_n 1, 1) := by decide +kernel
theorem dX10_work_204 : decode cX10_work 204 = .ok (.invokevirtual 269, 3) := by decide +kernel
theorem dX10_work_207 : decode cX10_work 207 = .ok (.return_, 1) := by decide +kernel
theorem dX10_isMinusNumber_0 : decode cX10_isMinusNumber 0 = .ok (.dload_n 0, 1) := by decide +kernel
theorem dX10_isMinusNumber_1 : decode cX10_isMinusNumber 1 = .ok (.dconst 0, 1) := by decide +kernel
theorem dX10_isMinusNumber_2 : decode cX10_isMinusNumber 2 = .ok (.dcmp .g, 1) := by decide +kernel
theorem dX10_isMinusNumber_3 : decode cX10_isMinusNumber 3 = .ok (.ifCond .lt 17, 3) := by decide +kernel
theorem dX10_isMinusNumber_6 : decode cX10_isMinusNumber 6 = .ok (.dload_n 0, 1) := by decide +kernel
theorem dX10_isMinusNumber_7 : decode cX10_isMinusNumber 7 = .ok (.dconst 0, 1) := by decide +kernel
theorem dX10_isMinusNumber_8 : decode cX10_isMinusNumber 8 = .ok (.dcmp .l, 1) := by decide +kernel
theorem dX10_isMinusNumber_9 : decode cX10_isMinusNumber 9 = .ok (.ifCond .ne 15, 3) := by decide +kernel
theorem dX10_isMinusNumber_12 : decode cX10_isMinusNumber 12 = .ok (.dconst 1, 1) := by decide +kernel
theorem dX10_isMinusNumber_13 : decode cX10_isMinusNumber 13 = .ok (.dload_n 0, 1) := by decide +kernel
theorem dX10_isMinusNumber_14 : decode cX10_isMinusNumber 14 = .ok (.ddiv, 1) := by decide +kernel
theorem dX10_isMinusNumber_15 : decode cX10_isMinusNumber 15 = .ok (.dconst 0, 1) := by decide +kernel
theorem dX10_isMinusNumber_16 : decode cX10_isMinusNumber 16 = .ok (.dcmp .g, 1) := by decide +kernel
theorem dX10_isMinusNumber_17 : decode cX10_isMinusNumber 17 = .ok (.ifCond .ge 7, 3) := by decide +kernel
theorem dX10_isMinusNumber_20 : decode cX10_isMinusNumber 20 = .ok (.iconst 1, 1) := by decide +kernel
theorem dX10_isMinusNumber_21 : decode cX10_isMinusNumber 21 = .ok (.goto 4, 3) := by decide +kernel
theorem dX10_isMinusNumber_24 : decode cX10_isMinusNumber 24 = .ok (.iconst 0, 1) := by decide +kernel
theorem dX10_isMinusNumber_25 : decode cX10_isMinusNumber 25 = .ok (.ireturn, 1) := by decide +kernel
theorem dX10_signed_0 : decode cX10_signed 0 = .ok (.dload_n 0, 1) := by decide +kernel
theorem dX10_signed_1 : decode cX10_signed 1 = .ok (.invokestatic 272, 3) := by decide +kernel
theorem dX10_signed_4 : decode cX10_signed 4 = .ok (.iload_n 2, 1) := by decide +kernel
theorem dX10_signed_5 : decode cX10_signed 5 = .ok (.if_icmp .ne 7, 3) := by decide +kernel
theorem dX10_signed_8 : decode cX10_signed 8 = .ok (.dload_n 0, 1) := by decide +kernel
theorem dX10_signed_9 : decode cX10_signed 9 = .ok (.goto 5, 3) := by decide +kernel
theorem dX10_signed_12 : decode cX10_signed 12 = .ok (.dload_n 0, 1) := by decide +kernel
theorem dX10_signed_13 : decode cX10_signed 13 = .ok (.dneg, 1) := by decide +kernel
theorem dX10_signed_14 : decode cX10_signed 14 = .ok (.dreturn, 1) := by decide +kernel
theorem dX10_lower_0 : decode cX10_lower 0 = .ok (.dload_n 0, 1) := by decide +kernel
theorem dX10_lower_1 : decode cX10_lower 1 = .ok (.d2l, 1) := by decide +kernel
theorem dX10_lower_2 : decode cX10_lower 2 = .ok (.l2d, 1) := by decide +kernel
theorem dX10_lower_3 : decode cX10_lower 3 = .ok (.dstore_n 2, 1) := by decide +kernel
theorem dX10_lower_4 : decode cX10_lower 4 = .ok (.dload_n 2, 1) := by decide +kernel
theorem dX10_lower_5 : decode cX10_lower 5 = .ok (.dload_n 0, 1) := by decide +kernel
theorem dX10_lower_6 : decode cX10_lower 6 = .ok (.dcmp .l, 1) := by decide +kernel
theorem dX10_lower_7 : decode cX10_lower 7 = .ok (.ifCond .le 9, 3) := by decide +kernel
theorem dX10_lower_10 : decode cX10_lower 10 = .ok (.dload_n 2, 1) := by decide +kernel
theorem dX10_lower_11 : decode cX10_lower 11 = .ok (.dconst 1, 1) := by decide +kernel
theorem dX10_lower_12 : decode cX10_lower 12 = .ok (.dsub, 1) := by decide +kernel
theorem dX10_lower_13 : decode cX10_lower 13 = .ok (.goto 4, 3) := by decide +kernel
theorem dX10_lower_16 : decode cX10_lower 16 = .ok (.dload_n 2, 1) := by decide +kernel
theorem dX10_lower_17 : decode cX10_lower 17 = .ok (.dload_n 0, 1) := by decide +kernel
theorem dX10_lower_18 : decode cX10_lower 18 = .ok (.invokestatic 276, 3) := by decide +kernel
theorem dX10_lower_21 : decode cX10_lower 21 = .ok (.dreturn, 1) := by decide +kernel
theorem dX10_signed0_0 : decode cX10_signed0 0 = .ok (.dload_n 0, 1) := by decide +kernel
theorem dX10_signed0_1 : decode cX10_signed0 1 = .ok (.dconst 0, 1) := by decide +kernel
theorem dX10_signed0_2 : decode cX10_signed0 2 = .ok (.dcmp .l, 1) := by decide +kernel
theorem dX10_signed0_3 : decode cX10_signed0 3 = .ok (.ifCond .ne 14, 3) := by decide +kernel
theorem dX10_signed0_6 : decode cX10_signed0 6 = .ok (.dload_n 0, 1) := by decide +kernel
theorem dX10_signed0_7 : decode cX10_signed0 7 = .ok (.dload_n 2, 1) := by decide +kernel
theorem dX10_signed0_8 : decode cX10_signed0 8 = .ok (.invokestatic 272, 3) := by decide +kernel
theorem dX10_signed0_11 : decode cX10_signed0 11 = .ok (.invokestatic 280, 3) := by decide +kernel
theorem dX10_signed0_14 : decode cX10_signed0 14 = .ok (.goto 4, 3) := by decide +kernel
theorem dX10_signed0_17 : decode cX10_signed0 17 = .ok (.dload_n 0, 1) := by decide +kernel
theorem dX10_signed0_18 : decode cX10_signed0 18 = .ok (.dreturn, 1) := by decide +kernel
theorem dX10_upper_0 : decode cX10_upper 0 = .ok (.dload_n 0, 1) := by decide +kernel
theorem dX10_upper_1 : decode cX10_upper 1 = .ok (.d2l, 1) := by decide +kernel
theorem dX10_upper_2 : decode cX10_upper 2 = .ok (.l2d, 1) := by decide +kernel
theorem dX10_upper_3 : decode cX10_upper 3 = .ok (.dstore_n 2, 1) := by decide +kernel
theorem dX10_upper_4 : decode cX10_upper 4 = .ok (.dload_n 2, 1) := by decide +kernel
theorem dX10_upper_5 : decode cX10_upper 5 = .ok (.dload_n 0, 1) := by decide +kernel
theorem dX10_upper_6 : decode cX10_upper 6 = .ok (.dcmp .g, 1) := by decide +kernel
theorem dX10_upper_7 : decode cX10_upper 7 = .ok (.ifCond .ge 9, 3) := by decide +kernel
theorem dX10_upper_10 : decode cX10_upper 10 = .ok (.dload_n 2, 1) := by decide +kernel
theorem dX10_upper_11 : decode cX10_upper 11 = .ok (.dconst 1, 1) := by decide +kernel
theorem dX10_upper_12 : decode cX10_upper 12 = .ok (.dadd, 1) := by decide +kernel
theorem dX10_upper_13 : decode cX10_upper 13 = .ok (.goto 4, 3) := by decide +kernel
theorem dX10_upper_16 : decode cX10_upper 16 = .ok (.dload_n 2, 1) := by decide +kernel
theorem dX10_upper_17 : decode cX10_upper 17 = .ok (.dload_n 0, 1) := by decide +kernel
theorem dX10_upper_18 : decode cX10_upper 18 = .ok (.invokestatic 276, 3) := by decide +kernel
theorem dX10_upper_21 : decode cX10_upper 21 = .ok (.dreturn, 1) := by decide +kernel
theorem dX10_nearest_0 : decode cX10_nearest 0 = .ok (.dload_n 0, 1) := by decide +kernel
theorem dX10_nearest_1 : decode cX10_nearest 1 = .ok (.invokestatic 284, 3) := by decide +kernel
theorem dX10_nearest_4 : decode cX10_nearest 4 = .ok (.dstore_n 2, 1) := by decide +kernel
theorem dX10_nearest_5 : decode cX10_nearest 5 = .ok (.dload_n 0, 1) := by decide +kernel
theorem dX10_nearest_6 : decode cX10_nearest 6 = .ok (.dload_n 2, 1) := by decide +kernel
theorem dX10_nearest_7 : decode cX10_nearest 7 = .ok (.dsub, 1) := by decide +kernel
theorem dX10_nearest_8 : decode cX10_nearest 8 = .ok (.dstore 4, 2) := by decide +kernel
theorem dX10_nearest_10 : decode cX10_nearest 10 = .ok (.dload 4, 2) := by decide +kernel
theorem dX10_nearest_12 : decode cX10_nearest 12 = .ok (.ldc2_w 288, 3) := by decide +kernel
theorem dX10_nearest_15 : decode cX10_nearest 15 = .ok (.dcmp .l, 1) := by decide +kernel
theorem dX10_nearest_16 : decode cX10_nearest 16 = .ok (.ifCond .gt 23, 3) := by decide +kernel
theorem dX10_nearest_19 : decode cX10_nearest 19 = .ok (.dload 4, 2) := by decide +kernel
theorem dX10_nearest_21 : decode cX10_nearest 21 = .ok (.ldc2_w 288, 3) := by decide +kernel
theorem dX10_nearest_24 : decode cX10_nearest 24 = .ok (.dcmp .l, 1) := by decide +kernel
theorem dX10_nearest_25 : decode cX10_nearest 25 = .ok (.ifCond .ne 18, 3) := by decide +kernel
theorem dX10_nearest_28 : decode cX10_nearest 28 = .ok (.dload_n 2, 1) := by decide +kernel
theorem dX10_nearest_29 : decode cX10_nearest 29 = .ok (.d2l, 1) := by decide +kernel
theorem dX10_nearest_30 : decode cX10_nearest 30 = .ok (.ldc2_w 290, 3) := by decide +kernel
theorem dX10_nearest_33 : decode cX10_nearest 33 = .ok (.lrem, 1) := by decide +kernel
theorem dX10_nearest_34 : decode cX10_nearest 34 = .ok (.lconst 0, 1) := by decide +kernel
theorem dX10_nearest_35 : decode cX10_nearest 35 = .ok (.lcmp, 1) := by decide +kernel
theorem dX10_nearest_36 : decode cX10_nearest 36 = .ok (.ifCond .eq 7, 3) := by decide +kernel
theorem dX10_nearest_39 : decode cX10_nearest 39 = .ok (.iconst 1, 1) := by decide +kernel
theorem dX10_nearest_40 : decode cX10_nearest 40 = .ok (.goto 4, 3) := by decide +kernel
theorem dX10_nearest_43 : decode cX10_nearest 43 = .ok (.iconst 0, 1) := by decide +kernel
theorem dX10_nearest_44 : decode cX10_nearest 44 = .ok (.istore 6, 2) := by decide +kernel
theorem dX10_nearest_46 : decode cX10_nearest 46 = .ok (.iload 6, 2) := by decide +kernel
theorem dX10_nearest_48 : decode cX10_nearest 48 = .ok (.ifCond .eq 9, 3) := by decide +kernel
theorem dX10_nearest_51 : decode cX10_nearest 51 = .ok (.dload_n 2, 1) := by decide +kernel
theorem dX10_nearest_52 : decode cX10_nearest 52 = .ok (.dconst 1, 1) := by decide +kernel
theorem dX10_nearest_53 : decode cX10_nearest 53 = .ok (.dadd, 1) := by decide +kernel
theorem dX10_nearest_54 : decode cX10_nearest 54 = .ok (.goto 4, 3) := by decide +kernel
theorem dX10_nearest_57 : decode cX10_nearest 57 = .ok (.dload_n 2, 1) := by decide +kernel
theorem dX10_nearest_58 : decode cX10_nearest 58 = .ok (.dload_n 0, 1) := by decide +kernel
theorem dX10_nearest_59 : decode cX10_nearest 59 = .ok (.invokestatic 276, 3) := by decide +kernel
theorem dX10_nearest_62 : decode cX10_nearest 62 = .ok (.dreturn, 1) := by decide +kernel
theorem dX10_chosen_0 : decode cX10_chosen 0 = .ok (.iload_n 0, 1) := by decide +kernel
theorem dX10_chosen_1 : decode cX10_chosen 1 = .ok (.tableswitch 123 5 11 #[43, 68, 93, 102, 108, 113, 118], 43) := by decide +kernel
theorem dX10_chosen_44 : decode cX10_chosen 44 = .ok (.dload_n 1, 1) := by decide +kernel
theorem dX10_chosen_45 : decode cX10_chosen 45 = .ok (.dload_n 3, 1) := by decide +kernel
theorem dX10_chosen_46 : decode cX10_chosen 46 = .ok (.dcmp .g, 1) := by decide +kernel
theorem dX10_chosen_47 : decode cX10_chosen 47 = .ok (.ifCond .lt 16, 3) := by decide +kernel
theorem dX10_chosen_50 : decode cX10_chosen 50 = .ok (.dload_n 1, 1) := by decide +kernel
theorem dX10_chosen_51 : decode cX10_chosen 51 = .ok (.dload_n 3, 1) := by decide +kernel
theorem dX10_chosen_52 : decode cX10_chosen 52 = .ok (.dcmp .l, 1) := by decide +kernel
theorem dX10_chosen_53 : decode cX10_chosen 53 = .ok (.ifCond .ne 14, 3) := by decide +kernel
theorem dX10_chosen_56 : decode cX10_chosen 56 = .ok (.dload_n 1, 1) := by decide +kernel
theorem dX10_chosen_57 : decode cX10_chosen 57 = .ok (.invokestatic 272, 3) := by decide +kernel
theorem dX10_chosen_60 : decode cX10_chosen 60 = .ok (.ifCond .eq 7, 3) := by decide +kernel
theorem dX10_chosen_63 : decode cX10_chosen 63 = .ok (.dload_n 1, 1) := by decide +kernel
theorem dX10_chosen_64 : decode cX10_chosen 64 = .ok (.goto 4, 3) := by decide +kernel
theorem dX10_chosen_67 : decode cX10_chosen 67 = .ok (.dload_n 3, 1) := by decide +kernel
theorem dX10_chosen_68 : decode cX10_chosen 68 = .ok (.dreturn, 1) := by decide +kernel
theorem dX10_chosen_69 : decode cX10_chosen 69 = .ok (.dload_n 1, 1) := by decide +kernel
theorem dX10_chosen_70 : decode cX10_chosen 70 = .ok (.dload_n 3, 1) := by decide +kernel
theorem dX10_chosen_71 : decode cX10_chosen 71 = .ok (.dcmp .l, 1) := by decide +kernel
theorem dX10_chosen_72 : decode cX10_chosen 72 = .ok (.ifCond .gt 16, 3) := by decide +kernel
theorem dX10_chosen_75 : decode cX10_chosen 75 = .ok (.dload_n 1, 1) := by decide +kernel
theorem dX10_chosen_76 : decode cX10_chosen 76 = .ok (.dload_n 3, 1) := by decide +kernel
theorem dX10_chosen_77 : decode cX10_chosen 77 = .ok (.dcmp .l, 1) := by decide +kernel
theorem dX10_chosen_78 : decode cX10_chosen 78 = .ok (.ifCond .ne 14, 3) := by decide +kernel
theorem dX10_chosen_81 : decode cX10_chosen 81 = .ok (.dload_n 1, 1) := by decide +kernel
theorem dX10_chosen_82 : decode cX10_chosen 82 = .ok (.invokestatic 272, 3) := by decide +kernel
theorem dX10_chosen_85 : decode cX10_chosen 85 = .ok (.ifCond .ne 7, 3) := by decide +kernel
theorem dX10_chosen_88 : decode cX10_chosen 88 = .ok (.dload_n 1, 1) := by decide +kernel
theorem dX10_chosen_89 : decode cX10_chosen 89 = .ok (.goto 4, 3) := by decide +kernel
theorem dX10_chosen_92 : decode cX10_chosen 92 = .ok (.dload_n 3, 1) := by decide +kernel
theorem dX10_chosen_93 : decode cX10_chosen 93 = .ok (.dreturn, 1) := by decide +kernel
theorem dX10_chosen_94 : decode cX10_chosen 94 = .ok (.dload_n 1, 1) := by decide +kernel
theorem dX10_chosen_95 : decode cX10_chosen 95 = .ok (.dload_n 3, 1) := by decide +kernel
theorem dX10_chosen_96 : decode cX10_chosen 96 = .ok (.invokestatic 272, 3) := by decide +kernel
theorem dX10_chosen_99 : decode cX10_chosen 99 = .ok (.invokestatic 280, 3) := by decide +kernel
theorem dX10_chosen_102 : decode cX10_chosen 102 = .ok (.dreturn, 1) := by decide +kernel
theorem dX10_chosen_103 : decode cX10_chosen 103 = .ok (.dload_n 3, 1) := by decide +kernel
theorem dX10_chosen_104 : decode cX10_chosen 104 = .ok (.iconst 0, 1) := by decide +kernel
theorem dX10_chosen_105 : decode cX10_chosen 105 = .ok (.invokestatic 280, 3) := by decide +kernel
theorem dX10_chosen_108 : decode cX10_chosen 108 = .ok (.dreturn, 1) := by decide +kernel
theorem dX10_chosen_109 : decode cX10_chosen 109 = .ok (.dload_n 3, 1) := by decide +kernel
theorem dX10_chosen_110 : decode cX10_chosen 110 = .ok (.invokestatic 284, 3) := by decide +kernel
theorem dX10_chosen_113 : decode cX10_chosen 113 = .ok (.dreturn, 1) := by decide +kernel
theorem dX10_chosen_114 : decode cX10_chosen 114 = .ok (.dload_n 3, 1) := by decide +kernel
theorem dX10_chosen_115 : decode cX10_chosen 115 = .ok (.invokestatic 292, 3) := by decide +kernel
theorem dX10_chosen_118 : decode cX10_chosen 118 = .ok (.dreturn, 1) := by decide +kernel
theorem dX10_chosen_119 : decode cX10_chosen 119 = .ok (.dload_n 3, 1) := by decide +kernel
theorem dX10_chosen_120 : decode cX10_chosen 120 = .ok (.invokestatic 295, 3) := by decide +kernel
theorem dX10_chosen_123 : decode cX10_chosen 123 = .ok (.dreturn, 1) := by decide +kernel
theorem dX10_chosen_124 : decode cX10_chosen 124 = .ok (.dload_n 3, 1) := by decide +kernel
theorem dX10_chosen_125 : decode cX10_chosen 125 = .ok (.dconst 0, 1) := by decide +kernel
theorem dX10_chosen_126 : decode cX10_chosen 126 = .ok (.dcmp .l, 1) := by decide +kernel
theorem dX10_chosen_127 : decode cX10_chosen 127 = .ok (.ifCond .le 7, 3) := by decide +kernel
theorem dX10_chosen_130 : decode cX10_chosen 130 = .ok (.dconst 1, 1) := by decide +kernel
theorem dX10_chosen_131 : decode cX10_chosen 131 = .ok (.goto 16, 3) := by decide +kernel
theorem dX10_chosen_134 : decode cX10_chosen 134 = .ok (.dload_n 3, 1) := by decide +kernel
theorem dX10_chosen_135 : decode cX10_chosen 135 = .ok (.dconst 0, 1) := by decide +kernel
theorem dX10_chosen_136 : decode cX10_chosen 136 = .ok (.dcmp .g, 1) := by decide +kernel
theorem dX10_chosen_137 : decode cX10_chosen 137 = .ok (.ifCond .ge 9, 3) := by decide +kernel
theorem dX10_chosen_140 : decode cX10_chosen 140 = .ok (.ldc2_w 298, 3) := by decide +kernel
theorem dX10_chosen_143 : decode cX10_chosen 143 = .ok (.goto 4, 3) := by decide +kernel
theorem dX10_chosen_146 : decode cX10_chosen 146 = .ok (.dload_n 3, 1) := by decide +kernel
theorem dX10_chosen_147 : decode cX10_chosen 147 = .ok (.dreturn, 1) := by decide +kernel
theorem dX10_turn_0 : decode cX10_turn 0 = .ok (.dload_n 2, 1) := by decide +kernel
theorem dX10_turn_1 : decode cX10_turn 1 = .ok (.ldc2_w 300, 3) := by decide +kernel
theorem dX10_turn_4 : decode cX10_turn 4 = .ok (.dcmp .l, 1) := by decide +kernel
theorem dX10_turn_5 : decode cX10_turn 5 = .ok (.ifCond .gt 11, 3) := by decide +kernel
theorem dX10_turn_8 : decode cX10_turn 8 = .ok (.dload_n 2, 1) := by decide +kernel
theorem dX10_turn_9 : decode cX10_turn 9 = .ok (.ldc2_w 302, 3) := by decide +kernel
theorem dX10_turn_12 : decode cX10_turn 12 = .ok (.dcmp .g, 1) := by decide +kernel
theorem dX10_turn_13 : decode cX10_turn 13 = .ok (.ifCond .ge 12, 3) := by decide +kernel
theorem dX10_turn_16 : decode cX10_turn 16 = .ok (.aload_n 0, 1) := by decide +kernel
theorem dX10_turn_17 : decode cX10_turn 17 = .ok (.bipush 8, 2) := by decide +kernel
theorem dX10_turn_19 : decode cX10_turn 19 = .ok (.invokevirtual 191, 3) := by decide +kernel
theorem dX10_turn_22 : decode cX10_turn 22 = .ok (.goto 10, 3) := by decide +kernel
theorem dX10_turn_25 : decode cX10_turn 25 = .ok (.aload_n 0, 1) := by decide +kernel
theorem dX10_turn_26 : decode cX10_turn 26 = .ok (.getfield 43, 3) := by decide +kernel
theorem dX10_turn_29 : decode cX10_turn 29 = .ok (.iload_n 1, 1) := by decide +kernel
theorem dX10_turn_30 : decode cX10_turn 30 = .ok (.dload_n 2, 1) := by decide +kernel
theorem dX10_turn_31 : decode cX10_turn 31 = .ok (.dastore, 1) := by decide +kernel
theorem dX10_turn_32 : decode cX10_turn 32 = .ok (.return_, 1) := by decide +kernel
theorem dX10_fine_0 : decode cX10_fine 0 = .ok (.aload_n 0, 1) := by decide +kernel
theorem dX10_fine_1 : decode cX10_fine 1 = .ok (.getfield 13, 3) := by decide +kernel
theorem dX10_fine_4 : decode cX10_fine 4 = .ok (.iload_n 1, 1) := by decide +kernel
theorem dX10_fine_5 : decode cX10_fine 5 = .ok (.iaload, 1) := by decide +kernel
theorem dX10_fine_6 : decode cX10_fine 6 = .ok (.istore_n 2, 1) := by decide +kernel
theorem dX10_fine_7 : decode cX10_fine 7 = .ok (.aload_n 0, 1) := by decide +kernel
theorem dX10_fine_8 : decode cX10_fine 8 = .ok (.getfield 43, 3) := by decide +kernel
theorem dX10_fine_11 : decode cX10_fine 11 = .ok (.aload_n 0, 1) := by decide +kernel
theorem dX10_fine_12 : decode cX10_fine 12 = .ok (.getfield 16, 3) := by decide +kernel
theorem dX10_fine_15 : decode cX10_fine 15 = .ok (.iload_n 1, 1) := by decide +kernel
theorem dX10_fine_16 : decode cX10_fine 16 = .ok (.iaload, 1) := by decide +kernel
theorem dX10_fine_17 : decode cX10_fine 17 = .ok (.daload, 1) := by decide +kernel
theorem dX10_fine_18 : decode cX10_fine 18 = .ok (.dstore_n 3, 1) := by decide +kernel
theorem dX10_fine_19 : decode cX10_fine 19 = .ok (.aload_n 0, 1) := by decide +kernel
theorem dX10_fine_20 : decode cX10_fine 20 = .ok (.getfield 43, 3) := by decide +kernel
theorem dX10_fine_23 : decode cX10_fine 23 = .ok (.aload_n 0, 1) := by decide +kernel
theorem dX10_fine_24 : decode cX10_fine 24 = .ok (.getfield 19, 3) := by decide +kernel
theorem dX10_fine_27 : decode cX10_fine 27 = .ok (.iload_n 1, 1) := by decide +kernel
theorem dX10_fine_28 : decode cX10_fine 28 = .ok (.iaload, 1) := by decide +kernel
theorem dX10_fine_29 : decode cX10_fine 29 = .ok (.daload, 1) := by decide +kernel
theorem dX10_fine_30 : decode cX10_fine 30 = .ok (.dstore 5, 2) := by decide +kernel
theorem dX10_fine_32 : decode cX10_fine 32 = .ok (.iload_n 2, 1) := by decide +kernel
theorem dX10_fine_33 : decode cX10_fine 33 = .ok (.iconst 3, 1) := by decide +kernel
theorem dX10_fine_34 : decode cX10_fine 34 = .ok (.if_icmp .eq 8, 3) := by decide +kernel
theorem dX10_fine_37 : decode cX10_fine 37 = .ok (.iload_n 2, 1) := by decide +kernel
theorem dX10_fine_38 : decode cX10_fine 38 = .ok (.iconst 4, 1) := by decide +kernel
theorem dX10_fine_39 : decode cX10_fine 39 = .ok (.if_icmp .ne 17, 3) := by decide +kernel
theorem dX10_fine_42 : decode cX10_fine 42 = .ok (.dload 5, 2) := by decide +kernel
theorem dX10_fine_44 : decode cX10_fine 44 = .ok (.dconst 0, 1) := by decide +kernel
theorem dX10_fine_45 : decode cX10_fine 45 = .ok (.dcmp .l, 1) := by decide +kernel
theorem dX10_fine_46 : decode cX10_fine 46 = .ok (.ifCond .ne 10, 3) := by decide +kernel
theorem dX10_fine_49 : decode cX10_fine 49 = .ok (.aload_n 0, 1) := by decide +kernel
theorem dX10_fine_50 : decode cX10_fine 50 = .ok (.bipush 7, 2) := by decide +kernel
theorem dX10_fine_52 : decode cX10_fine 52 = .ok (.invokevirtual 191, 3) := by decide +kernel
theorem dX10_fine_55 : decode cX10_fine 55 = .ok (.return_, 1) := by decide +kernel
theorem dX10_fine_56 : decode cX10_fine 56 = .ok (.iload_n 2, 1) := by decide +kernel
theorem dX10_fine_57 : decode cX10_fine 57 = .ok (.tableswitch 125 0 13 #[71, 80, 89, 98, 107, 125, 125, 125, 125, 125, 125, 125, 125, 116], 71) := by decide +kernel
theorem dX10_fine_128 : decode cX10_fine 128 = .ok (.dload_n 3, 1) := by decide +kernel
theorem dX10_fine_129 : decode cX10_fine 129 = .ok (.dload 5, 2) := by decide +kernel
theorem dX10_fine_131 : decode cX10_fine 131 = .ok (.dadd, 1) := by decide +kernel
theorem dX10_fine_132 : decode cX10_fine 132 = .ok (.dstore 7, 2) := by decide +kernel
theorem dX10_fine_134 : decode cX10_fine 134 = .ok (.goto 57, 3) := by decide +kernel
theorem dX10_fine_137 : decode cX10_fine 137 = .ok (.dload_n 3, 1) := by decide +kernel
theorem dX10_fine_138 : decode cX10_fine 138 = .ok (.dload 5, 2) := by decide +kernel
theorem dX10_fine_140 : decode cX10_fine 140 = .ok (.dsub, 1) := by decide +kernel
theorem dX10_fine_141 : decode cX10_fine 141 = .ok (.dstore 7, 2) := by decide +kernel
theorem dX10_fine_143 : decode cX10_fine 143 = .ok (.goto 48, 3) := by decide +kernel
theorem dX10_fine_146 : decode cX10_fine 146 = .ok (.dload_n 3, 1) := by decide +kernel
theorem dX10_fine_147 : decode cX10_fine 147 = .ok (.dload 5, 2) := by decide +kernel
theorem dX10_fine_149 : decode cX10_fine 149 = .ok (.dmul, 1) := by decide +kernel
theorem dX10_fine_150 : decode cX10_fine 150 = .ok (.dstore 7, 2) := by decide +kernel
theorem dX10_fine_152 : decode cX10_fine 152 = .ok (.goto 39, 3) := by decide +kernel
theorem dX10_fine_155 : decode cX10_fine 155 = .ok (.dload_n 3, 1) := by decide +kernel
theorem dX10_fine_156 : decode cX10_fine 156 = .ok (.dload 5, 2) := by decide +kernel
theorem dX10_fine_158 : decode cX10_fine 158 = .ok (.ddiv, 1) := by decide +kernel
theorem dX10_fine_159 : decode cX10_fine 159 = .ok (.dstore 7, 2) := by decide +kernel
theorem dX10_fine_161 : decode cX10_fine 161 = .ok (.goto 30, 3) := by decide +kernel
theorem dX10_fine_164 : decode cX10_fine 164 = .ok (.dload_n 3, 1) := by decide +kernel
theorem dX10_fine_165 : decode cX10_fine 165 = .ok (.dload 5, 2) := by decide +kernel
theorem dX10_fine_167 : decode cX10_fine 167 = .ok (.drem, 1) := by decide +kernel
theorem dX10_fine_168 : decode cX10_fine 168 = .ok (.dstore 7, 2) := by decide +kernel
theorem dX10_fine_170 : decode cX10_fine 170 = .ok (.goto 21, 3) := by decide +kernel
theorem dX10_fine_173 : decode cX10_fine 173 = .ok (.dload 5, 2) := by decide +kernel
theorem dX10_fine_175 : decode cX10_fine 175 = .ok (.d2l, 1) := by decide +kernel
theorem dX10_fine_176 : decode cX10_fine 176 = .ok (.l2d, 1) := by decide +kernel
theorem dX10_fine_177 : decode cX10_fine 177 = .ok (.dstore 7, 2) := by decide +kernel
theorem dX10_fine_179 : decode cX10_fine 179 = .ok (.goto 12, 3) := by decide +kernel
theorem dX10_fine_182 : decode cX10_fine 182 = .ok (.iload_n 2, 1) := by decide +kernel
theorem dX10_fine_183 : decode cX10_fine 183 = .ok (.dload_n 3, 1) := by decide +kernel
theorem dX10_fine_184 : decode cX10_fine 184 = .ok (.dload 5, 2) := by decide +kernel
theorem dX10_fine_186 : decode cX10_fine 186 = .ok (.invokestatic 304, 3) := by decide +kernel
theorem dX10_fine_189 : decode cX10_fine 189 = .ok (.dstore 7, 2) := by decide +kernel
theorem dX10_fine_191 : decode cX10_fine 191 = .ok (.aload_n 0, 1) := by decide +kernel
theorem dX10_fine_192 : decode cX10_fine 192 = .ok (.aload_n 0, 1) := by decide +kernel
theorem dX10_fine_193 : decode cX10_fine 193 = .ok (.getfield 16, 3) := by decide +kernel
theorem dX10_fine_196 : decode cX10_fine 196 = .ok (.iload_n 1, 1) := by decide +kernel
theorem dX10_fine_197 : decode cX10_fine 197 = .ok (.iaload, 1) := by decide +kernel
theorem dX10_fine_198 : decode cX10_fine 198 = .ok (.dload 7, 2) := by decide +kernel
theorem dX10_fine_200 : decode cX10_fine 200 = .ok (.invokevirtual 308, 3) := by decide +kernel
theorem dX10_fine_203 : decode cX10_fine 203 = .ok (.return_, 1) := by decide +kernel
theorem dX10_rough_0 : decode cX10_rough 0 = .ok (.aload_n 0, 1) := by decide +kernel
theorem dX10_rough_1 : decode cX10_rough 1 = .ok (.getfield 13, 3) := by decide +kernel
theorem dX10_rough_4 : decode cX10_rough 4 = .ok (.iload_n 1, 1) := by decide +kernel
theorem dX10_rough_5 : decode cX10_rough 5 = .ok (.iaload, 1) := by decide +kernel
theorem dX10_rough_6 : decode cX10_rough 6 = .ok (.istore_n 2, 1) := by decide +kernel
theorem dX10_rough_7 : decode cX10_rough 7 = .ok (.aload_n 0, 1) := by decide +kernel
theorem dX10_rough_8 : decode cX10_rough 8 = .ok (.getfield 43, 3) := by decide +kernel
theorem dX10_rough_11 : decode cX10_rough 11 = .ok (.aload_n 0, 1) := by decide +kernel
theorem dX10_rough_12 : decode cX10_rough 12 = .ok (.getfield 16, 3) := by decide +kernel
theorem dX10_rough_15 : decode cX10_rough 15 = .ok (.iload_n 1, 1) := by decide +kernel
theorem dX10_rough_16 : decode cX10_rough 16 = .ok (.iaload, 1) := by decide +kernel
theorem dX10_rough_17 : decode cX10_rough 17 = .ok (.daload, 1) := by decide +kernel
theorem dX10_rough_18 : decode cX10_rough 18 = .ok (.d2f, 1) := by decide +kernel
theorem dX10_rough_19 : decode cX10_rough 19 = .ok (.fstore_n 3, 1) := by decide +kernel
theorem dX10_rough_20 : decode cX10_rough 20 = .ok (.aload_n 0, 1) := by decide +kernel
theorem dX10_rough_21 : decode cX10_rough 21 = .ok (.getfield 43, 3) := by decide +kernel
theorem dX10_rough_24 : decode cX10_rough 24 = .ok (.aload_n 0, 1) := by decide +kernel
theorem dX10_rough_25 : decode cX10_rough 25 = .ok (.getfield 19, 3) := by decide +kernel
theorem dX10_rough_28 : decode cX10_rough 28 = .ok (.iload_n 1, 1) := by decide +kernel
theorem dX10_rough_29 : decode cX10_rough 29 = .ok (.iaload, 1) := by decide +kernel
theorem dX10_rough_30 : decode cX10_rough 30 = .ok (.daload, 1) := by decide +kernel
theorem dX10_rough_31 : decode cX10_rough 31 = .ok (.d2f, 1) := by decide +kernel
theorem dX10_rough_32 : decode cX10_rough 32 = .ok (.fstore 4, 2) := by decide +kernel
theorem dX10_rough_34 : decode cX10_rough 34 = .ok (.iload_n 2, 1) := by decide +kernel
theorem dX10_rough_35 : decode cX10_rough 35 = .ok (.iconst 3, 1) := by decide +kernel
theorem dX10_rough_36 : decode cX10_rough 36 = .ok (.if_icmp .eq 8, 3) := by decide +kernel
theorem dX10_rough_39 : decode cX10_rough 39 = .ok (.iload_n 2, 1) := by decide +kernel
theorem dX10_rough_40 : decode cX10_rough 40 = .ok (.iconst 4, 1) := by decide +kernel
theorem dX10_rough_41 : decode cX10_rough 41 = .ok (.if_icmp .ne 17, 3) := by decide +kernel
theorem dX10_rough_44 : decode cX10_rough 44 = .ok (.fload 4, 2) := by decide +kernel
theorem dX10_rough_46 : decode cX10_rough 46 = .ok (.fconst 0, 1) := by decide +kernel
theorem dX10_rough_47 : decode cX10_rough 47 = .ok (.fcmp .l, 1) := by decide +kernel
theorem dX10_rough_48 : decode cX10_rough 48 = .ok (.ifCond .ne 10, 3) := by decide +kernel
theorem dX10_rough_51 : decode cX10_rough 51 = .ok (.aload_n 0, 1) := by decide +kernel
theorem dX10_rough_52 : decode cX10_rough 52 = .ok (.bipush 7, 2) := by decide +kernel
theorem dX10_rough_54 : decode cX10_rough 54 = .ok (.invokevirtual 191, 3) := by decide +kernel
theorem dX10_rough_57 : decode cX10_rough 57 = .ok (.return_, 1) := by decide +kernel
theorem dX10_rough_58 : decode cX10_rough 58 = .ok (.iload_n 2, 1) := by decide +kernel
theorem dX10_rough_59 : decode cX10_rough 59 = .ok (.tableswitch 128 0 13 #[69, 79, 89, 99, 109, 128, 128, 128, 128, 128, 128, 128, 128, 119], 69) := by decide +kernel
theorem dX10_rough_128 : decode cX10_rough 128 = .ok (.fload_n 3, 1) := by decide +kernel
theorem dX10_rough_129 : decode cX10_rough 129 = .ok (.fload 4, 2) := by decide +kernel
theorem dX10_rough_131 : decode cX10_rough 131 = .ok (.fadd, 1) := by decide +kernel
theorem dX10_rough_132 : decode cX10_rough 132 = .ok (.f2d, 1) := by decide +kernel
theorem dX10_rough_133 : decode cX10_rough 133 = .ok (.dstore 5, 2) := by decide +kernel
theorem dX10_rough_135 : decode cX10_rough 135 = .ok (.goto 63, 3) := by decide +kernel
theorem dX10_rough_138 : decode cX10_rough 138 = .ok (.fload_n 3, 1) := by decide +kernel
theorem dX10_rough_139 : decode cX10_rough 139 = .ok (.fload 4, 2) := by decide +kernel
theorem dX10_rough_141 : decode cX10_rough 141 = .ok (.fsub, 1) := by decide +kernel
theorem dX10_rough_142 : decode cX10_rough 142 = .ok (.f2d, 1) := by decide +kernel
theorem dX10_rough_143 : decode cX10_rough 143 = .ok (.dstore 5, 2) := by decide +kernel
theorem dX10_rough_145 : decode cX10_rough 145 = .ok (.goto 53, 3) := by decide +kernel
theorem dX10_rough_148 : decode cX10_rough 148 = .ok (.fload_n 3, 1) := by decide +kernel
