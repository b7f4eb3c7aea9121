theorem dX8_tape_23 : decode cX8_tape 23 = .ok (.invokevirtual 280, 3) := by decide +kernel
theorem dX8_tape_26 : decode cX8_tape 26 = .ok (.iconst 1, 1) := by decide +kernel
theorem dX8_tape_27 : decode cX8_tape 27 = .ok (.ireturn, 1) := by decide +kernel
theorem dX8_tape_28 : decode cX8_tape 28 = .ok (.iload_n 2, 1) := by decide +kernel
theorem dX8_tape_29 : decode cX8_tape 29 = .ok (.iconst 0, 1) := by decide +kernel
theorem dX8_tape_30 : decode cX8_tape 30 = .ok (.iconst 4, 1) := by decide +kernel
theorem dX8_tape_31 : decode cX8_tape 31 = .ok (.invokestatic 69, 3) := by decide +kernel
theorem dX8_tape_34 : decode cX8_tape 34 = .ok (.ifCond .eq 9, 3) := by decide +kernel
theorem dX8_tape_37 : decode cX8_tape 37 = .ok (.iload_n 3, 1) := by decide +kernel
theorem dX8_tape_38 : decode cX8_tape 38 = .ok (.bipush 60, 2) := by decide +kernel
theorem dX8_tape_40 : decode cX8_tape 40 = .ok (.if_icmp .le 6, 3) := by decide +kernel
theorem dX8_tape_43 : decode cX8_tape 43 = .ok (.bipush (-2), 2) := by decide +kernel
theorem dX8_tape_45 : decode cX8_tape 45 = .ok (.ireturn, 1) := by decide +kernel
theorem dX8_tape_46 : decode cX8_tape 46 = .ok (.iload_n 3, 1) := by decide +kernel
theorem dX8_tape_47 : decode cX8_tape 47 = .ok (.ifCond .ge 6, 3) := by decide +kernel
theorem dX8_tape_50 : decode cX8_tape 50 = .ok (.bipush (-14), 2) := by decide +kernel
theorem dX8_tape_52 : decode cX8_tape 52 = .ok (.ireturn, 1) := by decide +kernel
theorem dX8_tape_53 : decode cX8_tape 53 = .ok (.aload_n 0, 1) := by decide +kernel
theorem dX8_tape_54 : decode cX8_tape 54 = .ok (.getfield 65, 3) := by decide +kernel
theorem dX8_tape_57 : decode cX8_tape 57 = .ok (.iload_n 1, 1) := by decide +kernel
theorem dX8_tape_58 : decode cX8_tape 58 = .ok (.iload_n 2, 1) := by decide +kernel
theorem dX8_tape_59 : decode cX8_tape 59 = .ok (.iload_n 3, 1) := by decide +kernel
theorem dX8_tape_60 : decode cX8_tape 60 = .ok (.invokevirtual 284, 3) := by decide +kernel
theorem dX8_tape_63 : decode cX8_tape 63 = .ok (.iconst 1, 1) := by decide +kernel
theorem dX8_tape_64 : decode cX8_tape 64 = .ok (.ireturn, 1) := by decide +kernel
theorem dX8_item_0 : decode cX8_item 0 = .ok (.aload_n 0, 1) := by decide +kernel
theorem dX8_item_1 : decode cX8_item 1 = .ok (.getfield 65, 3) := by decide +kernel
theorem dX8_item_4 : decode cX8_item 4 = .ok (.iload_n 1, 1) := by decide +kernel
theorem dX8_item_5 : decode cX8_item 5 = .ok (.invokevirtual 259, 3) := by decide +kernel
theorem dX8_item_8 : decode cX8_item 8 = .ok (.ifCond .ne 5, 3) := by decide +kernel
theorem dX8_item_11 : decode cX8_item 11 = .ok (.iconst (-1), 1) := by decide +kernel
theorem dX8_item_12 : decode cX8_item 12 = .ok (.ireturn, 1) := by decide +kernel
theorem dX8_item_13 : decode cX8_item 13 = .ok (.aload_n 0, 1) := by decide +kernel
theorem dX8_item_14 : decode cX8_item 14 = .ok (.getfield 65, 3) := by decide +kernel
theorem dX8_item_17 : decode cX8_item 17 = .ok (.iload_n 1, 1) := by decide +kernel
theorem dX8_item_18 : decode cX8_item 18 = .ok (.invokevirtual 262, 3) := by decide +kernel
theorem dX8_item_21 : decode cX8_item 21 = .ok (.ifCond .ne 6, 3) := by decide +kernel
theorem dX8_item_24 : decode cX8_item 24 = .ok (.bipush (-11), 2) := by decide +kernel
theorem dX8_item_26 : decode cX8_item 26 = .ok (.ireturn, 1) := by decide +kernel
theorem dX8_item_27 : decode cX8_item 27 = .ok (.aload_n 0, 1) := by decide +kernel
theorem dX8_item_28 : decode cX8_item 28 = .ok (.getfield 65, 3) := by decide +kernel
theorem dX8_item_31 : decode cX8_item 31 = .ok (.iload_n 1, 1) := by decide +kernel
theorem dX8_item_32 : decode cX8_item 32 = .ok (.iload_n 2, 1) := by decide +kernel
theorem dX8_item_33 : decode cX8_item 33 = .ok (.iconst 1, 1) := by decide +kernel
theorem dX8_item_34 : decode cX8_item 34 = .ok (.invokevirtual 268, 3) := by decide +kernel
theorem dX8_item_37 : decode cX8_item 37 = .ok (.ifCond .ne 6, 3) := by decide +kernel
theorem dX8_item_40 : decode cX8_item 40 = .ok (.bipush (-13), 2) := by decide +kernel
theorem dX8_item_42 : decode cX8_item 42 = .ok (.ireturn, 1) := by decide +kernel
theorem dX8_item_43 : decode cX8_item 43 = .ok (.aload_n 0, 1) := by decide +kernel
theorem dX8_item_44 : decode cX8_item 44 = .ok (.getfield 65, 3) := by decide +kernel
theorem dX8_item_47 : decode cX8_item 47 = .ok (.iload_n 1, 1) := by decide +kernel
theorem dX8_item_48 : decode cX8_item 48 = .ok (.iload_n 2, 1) := by decide +kernel
theorem dX8_item_49 : decode cX8_item 49 = .ok (.lload_n 3, 1) := by decide +kernel
theorem dX8_item_50 : decode cX8_item 50 = .ok (.invokevirtual 288, 3) := by decide +kernel
theorem dX8_item_53 : decode cX8_item 53 = .ok (.iconst 1, 1) := by decide +kernel
theorem dX8_item_54 : decode cX8_item 54 = .ok (.ireturn, 1) := by decide +kernel
theorem dX8_peek_0 : decode cX8_peek 0 = .ok (.aload_n 0, 1) := by decide +kernel
theorem dX8_peek_1 : decode cX8_peek 1 = .ok (.getfield 65, 3) := by decide +kernel
theorem dX8_peek_4 : decode cX8_peek 4 = .ok (.iload_n 1, 1) := by decide +kernel
theorem dX8_peek_5 : decode cX8_peek 5 = .ok (.invokevirtual 259, 3) := by decide +kernel
theorem dX8_peek_8 : decode cX8_peek 8 = .ok (.ifCond .eq 16, 3) := by decide +kernel
theorem dX8_peek_11 : decode cX8_peek 11 = .ok (.aload_n 0, 1) := by decide +kernel
theorem dX8_peek_12 : decode cX8_peek 12 = .ok (.getfield 65, 3) := by decide +kernel
theorem dX8_peek_15 : decode cX8_peek 15 = .ok (.iload_n 1, 1) := by decide +kernel
theorem dX8_peek_16 : decode cX8_peek 16 = .ok (.iload_n 2, 1) := by decide +kernel
theorem dX8_peek_17 : decode cX8_peek 17 = .ok (.iconst 1, 1) := by decide +kernel
theorem dX8_peek_18 : decode cX8_peek 18 = .ok (.invokevirtual 268, 3) := by decide +kernel
theorem dX8_peek_21 : decode cX8_peek 21 = .ok (.ifCond .ne 7, 3) := by decide +kernel
theorem dX8_peek_24 : decode cX8_peek 24 = .ok (.ldc2_w 170, 3) := by decide +kernel
theorem dX8_peek_27 : decode cX8_peek 27 = .ok (.lreturn, 1) := by decide +kernel
theorem dX8_peek_28 : decode cX8_peek 28 = .ok (.aload_n 0, 1) := by decide +kernel
theorem dX8_peek_29 : decode cX8_peek 29 = .ok (.getfield 65, 3) := by decide +kernel
theorem dX8_peek_32 : decode cX8_peek 32 = .ok (.iload_n 1, 1) := by decide +kernel
theorem dX8_peek_33 : decode cX8_peek 33 = .ok (.iload_n 2, 1) := by decide +kernel
theorem dX8_peek_34 : decode cX8_peek 34 = .ok (.invokevirtual 271, 3) := by decide +kernel
theorem dX8_peek_37 : decode cX8_peek 37 = .ok (.lreturn, 1) := by decide +kernel
theorem dX8_shift_0 : decode cX8_shift 0 = .ok (.aload_n 0, 1) := by decide +kernel
theorem dX8_shift_1 : decode cX8_shift 1 = .ok (.getfield 65, 3) := by decide +kernel
theorem dX8_shift_4 : decode cX8_shift 4 = .ok (.iload_n 1, 1) := by decide +kernel
theorem dX8_shift_5 : decode cX8_shift 5 = .ok (.invokevirtual 259, 3) := by decide +kernel
theorem dX8_shift_8 : decode cX8_shift 8 = .ok (.ifCond .eq 14, 3) := by decide +kernel
theorem dX8_shift_11 : decode cX8_shift 11 = .ok (.aload_n 0, 1) := by decide +kernel
theorem dX8_shift_12 : decode cX8_shift 12 = .ok (.getfield 65, 3) := by decide +kernel
theorem dX8_shift_15 : decode cX8_shift 15 = .ok (.iload_n 3, 1) := by decide +kernel
theorem dX8_shift_16 : decode cX8_shift 16 = .ok (.invokevirtual 259, 3) := by decide +kernel
theorem dX8_shift_19 : decode cX8_shift 19 = .ok (.ifCond .ne 5, 3) := by decide +kernel
theorem dX8_shift_22 : decode cX8_shift 22 = .ok (.iconst (-1), 1) := by decide +kernel
theorem dX8_shift_23 : decode cX8_shift 23 = .ok (.ireturn, 1) := by decide +kernel
theorem dX8_shift_24 : decode cX8_shift 24 = .ok (.aload_n 0, 1) := by decide +kernel
theorem dX8_shift_25 : decode cX8_shift 25 = .ok (.getfield 65, 3) := by decide +kernel
theorem dX8_shift_28 : decode cX8_shift 28 = .ok (.iload_n 1, 1) := by decide +kernel
theorem dX8_shift_29 : decode cX8_shift 29 = .ok (.invokevirtual 262, 3) := by decide +kernel
theorem dX8_shift_32 : decode cX8_shift 32 = .ok (.ifCond .eq 14, 3) := by decide +kernel
theorem dX8_shift_35 : decode cX8_shift 35 = .ok (.aload_n 0, 1) := by decide +kernel
theorem dX8_shift_36 : decode cX8_shift 36 = .ok (.getfield 65, 3) := by decide +kernel
theorem dX8_shift_39 : decode cX8_shift 39 = .ok (.iload_n 3, 1) := by decide +kernel
theorem dX8_shift_40 : decode cX8_shift 40 = .ok (.invokevirtual 262, 3) := by decide +kernel
theorem dX8_shift_43 : decode cX8_shift 43 = .ok (.ifCond .ne 6, 3) := by decide +kernel
theorem dX8_shift_46 : decode cX8_shift 46 = .ok (.bipush (-11), 2) := by decide +kernel
theorem dX8_shift_48 : decode cX8_shift 48 = .ok (.ireturn, 1) := by decide +kernel
theorem dX8_shift_49 : decode cX8_shift 49 = .ok (.aload_n 0, 1) := by decide +kernel
theorem dX8_shift_50 : decode cX8_shift 50 = .ok (.getfield 65, 3) := by decide +kernel
theorem dX8_shift_53 : decode cX8_shift 53 = .ok (.iload_n 1, 1) := by decide +kernel
theorem dX8_shift_54 : decode cX8_shift 54 = .ok (.invokevirtual 265, 3) := by decide +kernel
theorem dX8_shift_57 : decode cX8_shift 57 = .ok (.aload_n 0, 1) := by decide +kernel
theorem dX8_shift_58 : decode cX8_shift 58 = .ok (.getfield 65, 3) := by decide +kernel
theorem dX8_shift_61 : decode cX8_shift 61 = .ok (.iload_n 3, 1) := by decide +kernel
theorem dX8_shift_62 : decode cX8_shift 62 = .ok (.invokevirtual 265, 3) := by decide +kernel
theorem dX8_shift_65 : decode cX8_shift 65 = .ok (.if_icmp .eq 6, 3) := by decide +kernel
theorem dX8_shift_68 : decode cX8_shift 68 = .ok (.bipush (-12), 2) := by decide +kernel
theorem dX8_shift_70 : decode cX8_shift 70 = .ok (.ireturn, 1) := by decide +kernel
theorem dX8_shift_71 : decode cX8_shift 71 = .ok (.aload_n 0, 1) := by decide +kernel
theorem dX8_shift_72 : decode cX8_shift 72 = .ok (.getfield 65, 3) := by decide +kernel
theorem dX8_shift_75 : decode cX8_shift 75 = .ok (.iload_n 1, 1) := by decide +kernel
theorem dX8_shift_76 : decode cX8_shift 76 = .ok (.iload_n 2, 1) := by decide +kernel
theorem dX8_shift_77 : decode cX8_shift 77 = .ok (.iload 5, 2) := by decide +kernel
theorem dX8_shift_79 : decode cX8_shift 79 = .ok (.invokevirtual 268, 3) := by decide +kernel
theorem dX8_shift_82 : decode cX8_shift 82 = .ok (.ifCond .eq 18, 3) := by decide +kernel
theorem dX8_shift_85 : decode cX8_shift 85 = .ok (.aload_n 0, 1) := by decide +kernel
theorem dX8_shift_86 : decode cX8_shift 86 = .ok (.getfield 65, 3) := by decide +kernel
theorem dX8_shift_89 : decode cX8_shift 89 = .ok (.iload_n 3, 1) := by decide +kernel
theorem dX8_shift_90 : decode cX8_shift 90 = .ok (.iload 4, 2) := by decide +kernel
theorem dX8_shift_92 : decode cX8_shift 92 = .ok (.iload 5, 2) := by decide +kernel
theorem dX8_shift_94 : decode cX8_shift 94 = .ok (.invokevirtual 268, 3) := by decide +kernel
theorem dX8_shift_97 : decode cX8_shift 97 = .ok (.ifCond .ne 6, 3) := by decide +kernel
theorem dX8_shift_100 : decode cX8_shift 100 = .ok (.bipush (-13), 2) := by decide +kernel
theorem dX8_shift_102 : decode cX8_shift 102 = .ok (.ireturn, 1) := by decide +kernel
theorem dX8_shift_103 : decode cX8_shift 103 = .ok (.aload_n 0, 1) := by decide +kernel
theorem dX8_shift_104 : decode cX8_shift 104 = .ok (.getfield 65, 3) := by decide +kernel
theorem dX8_shift_107 : decode cX8_shift 107 = .ok (.iload_n 1, 1) := by decide +kernel
theorem dX8_shift_108 : decode cX8_shift 108 = .ok (.iload_n 2, 1) := by decide +kernel
theorem dX8_shift_109 : decode cX8_shift 109 = .ok (.iload_n 3, 1) := by decide +kernel
theorem dX8_shift_110 : decode cX8_shift 110 = .ok (.iload 4, 2) := by decide +kernel
theorem dX8_shift_112 : decode cX8_shift 112 = .ok (.iload 5, 2) := by decide +kernel
theorem dX8_shift_114 : decode cX8_shift 114 = .ok (.invokevirtual 292, 3) := by decide +kernel
theorem dX8_shift_117 : decode cX8_shift 117 = .ok (.iload 5, 2) := by decide +kernel
theorem dX8_shift_119 : decode cX8_shift 119 = .ok (.ireturn, 1) := by decide +kernel
theorem dX8_tableNumber_0 : decode cX8_tableNumber 0 = .ok (.bipush 10, 2) := by decide +kernel
theorem dX8_tableNumber_2 : decode cX8_tableNumber 2 = .ok (.aload_n 0, 1) := by decide +kernel
theorem dX8_tableNumber_3 : decode cX8_tableNumber 3 = .ok (.getfield 14, 3) := by decide +kernel
theorem dX8_tableNumber_6 : decode cX8_tableNumber 6 = .ok (.getfield 77, 3) := by decide +kernel
theorem dX8_tableNumber_9 : decode cX8_tableNumber 9 = .ok (.getfield 80, 3) := by decide +kernel
theorem dX8_tableNumber_12 : decode cX8_tableNumber 12 = .ok (.imul, 1) := by decide +kernel
theorem dX8_tableNumber_13 : decode cX8_tableNumber 13 = .ok (.aload_n 0, 1) := by decide +kernel
theorem dX8_tableNumber_14 : decode cX8_tableNumber 14 = .ok (.getfield 14, 3) := by decide +kernel
theorem dX8_tableNumber_17 : decode cX8_tableNumber 17 = .ok (.getfield 77, 3) := by decide +kernel
theorem dX8_tableNumber_20 : decode cX8_tableNumber 20 = .ok (.getfield 84, 3) := by decide +kernel
theorem dX8_tableNumber_23 : decode cX8_tableNumber 23 = .ok (.iadd, 1) := by decide +kernel
theorem dX8_tableNumber_24 : decode cX8_tableNumber 24 = .ok (.ireturn, 1) := by decide +kernel
theorem dX8_sortNow_0 : decode cX8_sortNow 0 = .ok (.aload_n 0, 1) := by decide +kernel
theorem dX8_sortNow_1 : decode cX8_sortNow 1 = .ok (.getfield 35, 3) := by decide +kernel
theorem dX8_sortNow_4 : decode cX8_sortNow 4 = .ok (.aload_n 0, 1) := by decide +kernel
theorem dX8_sortNow_5 : decode cX8_sortNow 5 = .ok (.getfield 14, 3) := by decide +kernel
theorem dX8_sortNow_8 : decode cX8_sortNow 8 = .ok (.getfield 77, 3) := by decide +kernel
theorem dX8_sortNow_11 : decode cX8_sortNow 11 = .ok (.getfield 80, 3) := by decide +kernel
theorem dX8_sortNow_14 : decode cX8_sortNow 14 = .ok (.aload_n 0, 1) := by decide +kernel
theorem dX8_sortNow_15 : decode cX8_sortNow 15 = .ok (.getfield 14, 3) := by decide +kernel
theorem dX8_sortNow_18 : decode cX8_sortNow 18 = .ok (.getfield 77, 3) := by decide +kernel
theorem dX8_sortNow_21 : decode cX8_sortNow 21 = .ok (.getfield 84, 3) := by decide +kernel
theorem dX8_sortNow_24 : decode cX8_sortNow 24 = .ok (.iload_n 1, 1) := by decide +kernel
theorem dX8_sortNow_25 : decode cX8_sortNow 25 = .ok (.iload_n 2, 1) := by decide +kernel
theorem dX8_sortNow_26 : decode cX8_sortNow 26 = .ok (.invokevirtual 244, 3) := by decide +kernel
theorem dX8_sortNow_29 : decode cX8_sortNow 29 = .ok (.ireturn, 1) := by decide +kernel
theorem dX8_isIn_0 : decode cX8_isIn 0 = .ok (.iload_n 0, 1) := by decide +kernel
theorem dX8_isIn_1 : decode cX8_isIn 1 = .ok (.iload_n 1, 1) := by decide +kernel
theorem dX8_isIn_2 : decode cX8_isIn 2 = .ok (.if_icmp .lt 12, 3) := by decide +kernel
theorem dX8_isIn_5 : decode cX8_isIn 5 = .ok (.iload_n 0, 1) := by decide +kernel
theorem dX8_isIn_6 : decode cX8_isIn 6 = .ok (.iload_n 2, 1) := by decide +kernel
theorem dX8_isIn_7 : decode cX8_isIn 7 = .ok (.if_icmp .gt 7, 3) := by decide +kernel
theorem dX8_isIn_10 : decode cX8_isIn 10 = .ok (.iconst 1, 1) := by decide +kernel
theorem dX8_isIn_11 : decode cX8_isIn 11 = .ok (.goto 4, 3) := by decide +kernel
theorem dX8_isIn_14 : decode cX8_isIn 14 = .ok (.iconst 0, 1) := by decide +kernel
theorem dX8_isIn_15 : decode cX8_isIn 15 = .ok (.ireturn, 1) := by decide +kernel
theorem dX8_isPlace_0 : decode cX8_isPlace 0 = .ok (.iload_n 0, 1) := by decide +kernel
theorem dX8_isPlace_1 : decode cX8_isPlace 1 = .ok (.sipush (-999), 3) := by decide +kernel
theorem dX8_isPlace_4 : decode cX8_isPlace 4 = .ok (.sipush 999, 3) := by decide +kernel
theorem dX8_isPlace_7 : decode cX8_isPlace 7 = .ok (.invokestatic 69, 3) := by decide +kernel
theorem dX8_isPlace_10 : decode cX8_isPlace 10 = .ok (.ifCond .eq 20, 3) := by decide +kernel
theorem dX8_isPlace_13 : decode cX8_isPlace 13 = .ok (.iload_n 1, 1) := by decide +kernel
theorem dX8_isPlace_14 : decode cX8_isPlace 14 = .ok (.sipush (-999), 3) := by decide +kernel
theorem dX8_isPlace_17 : decode cX8_isPlace 17 = .ok (.sipush 999, 3) := by decide +kernel
theorem dX8_isPlace_20 : decode cX8_isPlace 20 = .ok (.invokestatic 69, 3) := by decide +kernel
theorem dX8_isPlace_23 : decode cX8_isPlace 23 = .ok (.ifCond .eq 7, 3) := by decide +kernel
theorem dX8_isPlace_26 : decode cX8_isPlace 26 = .ok (.iconst 1, 1) := by decide +kernel
theorem dX8_isPlace_27 : decode cX8_isPlace 27 = .ok (.goto 4, 3) := by decide +kernel
theorem dX8_isPlace_30 : decode cX8_isPlace 30 = .ok (.iconst 0, 1) := by decide +kernel
theorem dX8_isPlace_31 : decode cX8_isPlace 31 = .ok (.ireturn, 1) := by decide +kernel
theorem dX8_isSmall_0 : decode cX8_isSmall 0 = .ok (.iload_n 0, 1) := by decide +kernel
theorem dX8_isSmall_1 : decode cX8_isSmall 1 = .ok (.ifCond .lt 31, 3) := by decide +kernel
theorem dX8_isSmall_4 : decode cX8_isSmall 4 = .ok (.iload_n 0, 1) := by decide +kernel
theorem dX8_isSmall_5 : decode cX8_isSmall 5 = .ok (.bipush 12, 2) := by decide +kernel
theorem dX8_isSmall_7 : decode cX8_isSmall 7 = .ok (.if_icmp .gt 25, 3) := by decide +kernel
theorem dX8_isSmall_10 : decode cX8_isSmall 10 = .ok (.iload_n 1, 1) := by decide +kernel
theorem dX8_isSmall_11 : decode cX8_isSmall 11 = .ok (.ifCond .lt 21, 3) := by decide +kernel
theorem dX8_isSmall_14 : decode cX8_isSmall 14 = .ok (.iload_n 1, 1) := by decide +kernel
theorem dX8_isSmall_15 : decode cX8_isSmall 15 = .ok (.bipush 12, 2) := by decide +kernel
theorem dX8_isSmall_17 : decode cX8_isSmall 17 = .ok (.if_icmp .gt 15, 3) := by decide +kernel
theorem dX8_isSmall_20 : decode cX8_isSmall 20 = .ok (.iload_n 0, 1) := by decide +kernel
theorem dX8_isSmall_21 : decode cX8_isSmall 21 = .ok (.iload_n 1, 1) := by decide +kernel
theorem dX8_isSmall_22 : decode cX8_isSmall 22 = .ok (.iadd, 1) := by decide +kernel
theorem dX8_isSmall_23 : decode cX8_isSmall 23 = .ok (.bipush 12, 2) := by decide +kernel
theorem dX8_isSmall_25 : decode cX8_isSmall 25 = .ok (.if_icmp .gt 7, 3) := by decide +kernel
theorem dX8_isSmall_28 : decode cX8_isSmall 28 = .ok (.iconst 1, 1) := by decide +kernel
theorem dX8_isSmall_29 : decode cX8_isSmall 29 = .ok (.goto 4, 3) := by decide +kernel
theorem dX8_isSmall_32 : decode cX8_isSmall 32 = .ok (.iconst 0, 1) := by decide +kernel
theorem dX8_isSmall_33 : decode cX8_isSmall 33 = .ok (.ireturn, 1) := by decide +kernel
theorem dX8_isCountable_0 : decode cX8_isCountable 0 = .ok (.iload_n 0, 1) := by decide +kernel
theorem dX8_isCountable_1 : decode cX8_isCountable 1 = .ok (.iload_n 1, 1) := by decide +kernel
theorem dX8_isCountable_2 : decode cX8_isCountable 2 = .ok (.invokestatic 225, 3) := by decide +kernel
theorem dX8_isCountable_5 : decode cX8_isCountable 5 = .ok (.ifCond .eq 14, 3) := by decide +kernel
theorem dX8_isCountable_8 : decode cX8_isCountable 8 = .ok (.iload_n 0, 1) := by decide +kernel
theorem dX8_isCountable_9 : decode cX8_isCountable 9 = .ok (.iload_n 1, 1) := by decide +kernel
theorem dX8_isCountable_10 : decode cX8_isCountable 10 = .ok (.iadd, 1) := by decide +kernel
theorem dX8_isCountable_11 : decode cX8_isCountable 11 = .ok (.iconst 1, 1) := by decide +kernel
theorem dX8_isCountable_12 : decode cX8_isCountable 12 = .ok (.if_icmp .lt 7, 3) := by decide +kernel
theorem dX8_isCountable_15 : decode cX8_isCountable 15 = .ok (.iconst 1, 1) := by decide +kernel
theorem dX8_isCountable_16 : decode cX8_isCountable 16 = .ok (.goto 4, 3) := by decide +kernel
theorem dX8_isCountable_19 : decode cX8_isCountable 19 = .ok (.iconst 0, 1) := by decide +kernel
theorem dX8_isCountable_20 : decode cX8_isCountable 20 = .ok (.ireturn, 1) := by decide +kernel
theorem dX8_kindOf_0 : decode cX8_kindOf 0 = .ok (.iload_n 0, 1) := by decide +kernel
theorem dX8_kindOf_1 : decode cX8_kindOf 1 = .ok (.iload_n 1, 1) := by decide +kernel
theorem dX8_kindOf_2 : decode cX8_kindOf 2 = .ok (.imul, 1) := by decide +kernel
theorem dX8_kindOf_3 : decode cX8_kindOf 3 = .ok (.iconst 4, 1) := by decide +kernel
theorem dX8_kindOf_4 : decode cX8_kindOf 4 = .ok (.if_icmp .ge 7, 3) := by decide +kernel
theorem dX8_kindOf_7 : decode cX8_kindOf 7 = .ok (.iconst 0, 1) := by decide +kernel
theorem dX8_kindOf_8 : decode cX8_kindOf 8 = .ok (.goto 15, 3) := by decide +kernel
theorem dX8_kindOf_11 : decode cX8_kindOf 11 = .ok (.iload_n 0, 1) := by decide +kernel
theorem dX8_kindOf_12 : decode cX8_kindOf 12 = .ok (.iload_n 1, 1) := by decide +kernel
theorem dX8_kindOf_13 : decode cX8_kindOf 13 = .ok (.imul, 1) := by decide +kernel
theorem dX8_kindOf_14 : decode cX8_kindOf 14 = .ok (.iconst 4, 1) := by decide +kernel
theorem dX8_kindOf_15 : decode cX8_kindOf 15 = .ok (.if_icmp .ne 7, 3) := by decide +kernel
theorem dX8_kindOf_18 : decode cX8_kindOf 18 = .ok (.iconst 1, 1) := by decide +kernel
theorem dX8_kindOf_19 : decode cX8_kindOf 19 = .ok (.goto 4, 3) := by decide +kernel
theorem dX8_kindOf_22 : decode cX8_kindOf 22 = .ok (.iconst 2, 1) := by decide +kernel
theorem dX8_kindOf_23 : decode cX8_kindOf 23 = .ok (.ireturn, 1) := by decide +kernel
theorem dX8_coatOf_0 : decode cX8_coatOf 0 = .ok (.iconst 2, 1) := by decide +kernel
theorem dX8_coatOf_1 : decode cX8_coatOf 1 = .ok (.iload_n 1, 1) := by decide +kernel
theorem dX8_coatOf_2 : decode cX8_coatOf 2 = .ok (.imul, 1) := by decide +kernel
theorem dX8_coatOf_3 : decode cX8_coatOf 3 = .ok (.iload_n 0, 1) := by decide +kernel
theorem dX8_coatOf_4 : decode cX8_coatOf 4 = .ok (.iload_n 2, 1) := by decide +kernel
theorem dX8_coatOf_5 : decode cX8_coatOf 5 = .ok (.imul, 1) := by decide +kernel
theorem dX8_coatOf_6 : decode cX8_coatOf 6 = .ok (.isub, 1) := by decide +kernel
theorem dX8_coatOf_7 : decode cX8_coatOf 7 = .ok (.ireturn, 1) := by decide +kernel
theorem dX8_normOf_0 : decode cX8_normOf 0 = .ok (.iload_n 0, 1) := by decide +kernel
theorem dX8_normOf_1 : decode cX8_normOf 1 = .ok (.iload_n 1, 1) := by decide +kernel
theorem dX8_normOf_2 : decode cX8_normOf 2 = .ok (.iload_n 2, 1) := by decide +kernel
theorem dX8_normOf_3 : decode cX8_normOf 3 = .ok (.i2l, 1) := by decide +kernel
theorem dX8_normOf_4 : decode cX8_normOf 4 = .ok (.iload_n 3, 1) := by decide +kernel
theorem dX8_normOf_5 : decode cX8_normOf 5 = .ok (.i2l, 1) := by decide +kernel
theorem dX8_normOf_6 : decode cX8_normOf 6 = .ok (.iload_n 2, 1) := by decide +kernel
theorem dX8_normOf_7 : decode cX8_normOf 7 = .ok (.i2l, 1) := by decide +kernel
theorem dX8_normOf_8 : decode cX8_normOf 8 = .ok (.iload_n 3, 1) := by decide +kernel
theorem dX8_normOf_9 : decode cX8_normOf 9 = .ok (.i2l, 1) := by decide +kernel
theorem dX8_normOf_10 : decode cX8_normOf 10 = .ok (.invokestatic 176, 3) := by decide +kernel
theorem dX8_normOf_13 : decode cX8_normOf 13 = .ok (.lreturn, 1) := by decide +kernel
theorem dX8_productOf_0 : decode cX8_productOf 0 = .ok (.ldc2_w 296, 3) := by decide +kernel
theorem dX8_productOf_3 : decode cX8_productOf 3 = .ok (.iload_n 1, 1) := by decide +kernel
theorem dX8_productOf_4 : decode cX8_productOf 4 = .ok (.i2l, 1) := by decide +kernel
theorem dX8_productOf_5 : decode cX8_productOf 5 = .ok (.lmul, 1) := by decide +kernel
theorem dX8_productOf_6 : decode cX8_productOf 6 = .ok (.lload_n 2, 1) := by decide +kernel
theorem dX8_productOf_7 : decode cX8_productOf 7 = .ok (.lmul, 1) := by decide +kernel
theorem dX8_productOf_8 : decode cX8_productOf 8 = .ok (.lload 6, 2) := by decide +kernel
theorem dX8_productOf_10 : decode cX8_productOf 10 = .ok (.lmul, 1) := by decide +kernel
theorem dX8_productOf_11 : decode cX8_productOf 11 = .ok (.iload_n 0, 1) := by decide +kernel
theorem dX8_productOf_12 : decode cX8_productOf 12 = .ok (.i2l, 1) := by decide +kernel
theorem dX8_productOf_13 : decode cX8_productOf 13 = .ok (.iload_n 1, 1) := by decide +kernel
theorem dX8_productOf_14 : decode cX8_productOf 14 = .ok (.i2l, 1) := by decide +kernel
theorem dX8_productOf_15 : decode cX8_productOf 15 = .ok (.lmul, 1) := by decide +kernel
theorem dX8_productOf_16 : decode cX8_productOf 16 = .ok (.lload_n 2, 1) := by decide +kernel
theorem dX8_productOf_17 : decode cX8_productOf 17 = .ok (.lload 8, 2) := by decide +kernel
theorem dX8_productOf_19 : decode cX8_productOf 19 = .ok (.lmul, 1) := by decide +kernel
theorem dX8_productOf_20 : decode cX8_productOf 20 = .ok (.lload 4, 2) := by decide +kernel
theorem dX8_productOf_22 : decode cX8_productOf 22 = .ok (.lload 6, 2) := by decide +kernel
theorem dX8_productOf_24 : decode cX8_productOf 24 = .ok (.lmul, 1) := by decide +kernel
theorem dX8_productOf_25 : decode cX8_productOf 25 = .ok (.ladd, 1) := by decide +kernel
theorem dX8_productOf_26 : decode cX8_productOf 26 = .ok (.lmul, 1) := by decide +kernel
theorem dX8_productOf_27 : decode cX8_productOf 27 = .ok (.lsub, 1) := by decide +kernel
theorem dX8_productOf_28 : decode cX8_productOf 28 = .ok (.ldc2_w 296, 3) := by decide +kernel
theorem dX8_productOf_31 : decode cX8_productOf 31 = .ok (.iload_n 0, 1) := by decide +kernel
theorem dX8_productOf_32 : decode cX8_productOf 32 = .ok (.i2l, 1) := by decide +kernel
theorem dX8_productOf_33 : decode cX8_productOf 33 = .ok (.lmul, 1) := by decide +kernel
theorem dX8_productOf_34 : decode cX8_productOf 34 = .ok (.lload 4, 2) := by decide +kernel
theorem dX8_productOf_36 : decode cX8_productOf 36 = .ok (.lmul, 1) := by decide +kernel
theorem dX8_productOf_37 : decode cX8_productOf 37 = .ok (.lload 8, 2) := by decide +kernel
theorem dX8_productOf_39 : decode cX8_productOf 39 = .ok (.lmul, 1) := by decide +kernel
theorem dX8_productOf_40 : decode cX8_productOf 40 = .ok (.ladd, 1) := by decide +kernel
theorem dX8_productOf_41 : decode cX8_productOf 41 = .ok (.lreturn, 1) := by decide +kernel
theorem dX8_partOf_0 : decode cX8_partOf 0 = .ok (.lload_n 0, 1) := by decide +kernel
theorem dX8_partOf_1 : decode cX8_partOf 1 = .ok (.lload_n 2, 1) := by decide +kernel
theorem dX8_partOf_2 : decode cX8_partOf 2 = .ok (.invokestatic 298, 3) := by decide +kernel
theorem dX8_partOf_5 : decode cX8_partOf 5 = .ok (.lstore 5, 2) := by decide +kernel
theorem dX8_partOf_7 : decode cX8_partOf 7 = .ok (.lload 5, 2) := by decide +kernel
theorem dX8_partOf_9 : decode cX8_partOf 9 = .ok (.lconst 0, 1) := by decide +kernel
theorem dX8_partOf_10 : decode cX8_partOf 10 = .ok (.lcmp, 1) := by decide +kernel
theorem dX8_partOf_11 : decode cX8_partOf 11 = .ok (.ifCond .ne 7, 3) := by decide +kernel
theorem dX8_partOf_14 : decode cX8_partOf 14 = .ok (.ldc2_w 170, 3) := by decide +kernel
theorem dX8_partOf_17 : decode cX8_partOf 17 = .ok (.lreturn, 1) := by decide +kernel
theorem dX8_partOf_18 : decode cX8_partOf 18 = .ok (.iload 4, 2) := by decide +kernel
theorem dX8_partOf_20 : decode cX8_partOf 20 = .ok (.ifCond .ne 10, 3) := by decide +kernel
theorem dX8_partOf_23 : decode cX8_partOf 23 = .ok (.lload_n 0, 1) := by decide +kernel
theorem dX8_partOf_24 : decode cX8_partOf 24 = .ok (.lload 5, 2) := by decide +kernel
theorem dX8_partOf_26 : decode cX8_partOf 26 = .ok (.ldiv, 1) := by decide +kernel
theorem dX8_partOf_27 : decode cX8_partOf 27 = .ok (.goto 7, 3) := by decide +kernel
theorem dX8_partOf_30 : decode cX8_partOf 30 = .ok (.lload_n 2, 1) := by decide +kernel
theorem dX8_partOf_31 : decode cX8_partOf 31 = .ok (.lload 5, 2) := by decide +kernel
theorem dX8_partOf_33 : decode cX8_partOf 33 = .ok (.ldiv, 1) := by decide +kernel
theorem dX8_partOf_34 : decode cX8_partOf 34 = .ok (.lreturn, 1) := by decide +kernel
theorem dX8_commonDivisor_0 : decode cX8_commonDivisor 0 = .ok (.lload_n 0, 1) := by decide +kernel
theorem dX8_commonDivisor_1 : decode cX8_commonDivisor 1 = .ok (.invokestatic 302, 3) := by decide +kernel
theorem dX8_commonDivisor_4 : decode cX8_commonDivisor 4 = .ok (.lstore 4, 2) := by decide +kernel
theorem dX8_commonDivisor_6 : decode cX8_commonDivisor 6 = .ok (.lload_n 2, 1) := by decide +kernel
theorem dX8_commonDivisor_7 : decode cX8_commonDivisor 7 = .ok (.invokestatic 302, 3) := by decide +kernel
theorem dX8_commonDivisor_10 : decode cX8_commonDivisor 10 = .ok (.lstore 6, 2) := by decide +kernel
theorem dX8_commonDivisor_12 : decode cX8_commonDivisor 12 = .ok (.iconst 0, 1) := by decide +kernel
theorem dX8_commonDivisor_13 : decode cX8_commonDivisor 13 = .ok (.istore 8, 2) := by decide +kernel
theorem dX8_commonDivisor_15 : decode cX8_commonDivisor 15 = .ok (.iload 8, 2) := by decide +kernel
theorem dX8_commonDivisor_17 : decode cX8_commonDivisor 17 = .ok (.sipush 200, 3) := by decide +kernel
theorem dX8_commonDivisor_20 : decode cX8_commonDivisor 20 = .ok (.if_icmp .ge 31, 3) := by decide +kernel
theorem dX8_commonDivisor_23 : decode cX8_commonDivisor 23 = .ok (.lload 6, 2) := by decide +kernel
theorem dX8_commonDivisor_25 : decode cX8_commonDivisor 25 = .ok (.lconst 0, 1) := by decide +kernel
theorem dX8_commonDivisor_26 : decode cX8_commonDivisor 26 = .ok (.lcmp, 1) := by decide +kernel
theorem dX8_commonDivisor_27 : decode cX8_commonDivisor 27 = .ok (.ifCond .eq 24, 3) := by decide +kernel
theorem dX8_commonDivisor_30 : decode cX8_commonDivisor 30 = .ok (.lload 4, 2) := by decide +kernel
theorem dX8_commonDivisor_32 : decode cX8_commonDivisor 32 = .ok (.lload 6, 2) := by decide +kernel
theorem dX8_commonDivisor_34 : decode cX8_commonDivisor 34 = .ok (.lrem, 1) := by decide +kernel
theorem dX8_commonDivisor_35 : decode cX8_commonDivisor 35 = .ok (.lstore 9, 2) := by decide +kernel
theorem dX8_commonDivisor_37 : decode cX8_commonDivisor 37 = .ok (.lload 6, 2) := by decide +kernel
theorem dX8_commonDivisor_39 : decode cX8_commonDivisor 39 = .ok (.lstore 4, 2) := by decide +kernel
theorem dX8_commonDivisor_41 : decode cX8_commonDivisor 41 = .ok (.lload 9, 2) := by decide +kernel
theorem dX8_commonDivisor_43 : decode cX8_commonDivisor 43 = .ok (.lstore 6, 2) := by decide +kernel
theorem dX8_commonDivisor_45 : decode cX8_commonDivisor 45 = .ok (.iinc 8 1, 3) := by decide +kernel
theorem dX8_commonDivisor_48 : decode cX8_commonDivisor 48 = .ok (.goto (-33), 3) := by decide +kernel
theorem dX8_commonDivisor_51 : decode cX8_commonDivisor 51 = .ok (.lload 4, 2) := by decide +kernel
theorem dX8_commonDivisor_53 : decode cX8_commonDivisor 53 = .ok (.lreturn, 1) := by decide +kernel
theorem dX9_init_0 : decode cX9_init 0 = .ok (.aload_n 0, 1) := by decide +kernel
theorem dX9_init_1 : decode cX9_init 1 = .ok (.invokespecial 3, 3) := by decide +kernel
theorem dX9_init_4 : decode cX9_init 4 = .ok (.aload_n 0, 1) := by decide +kernel
theorem dX9_init_5 : decode cX9_init 5 = .ok (.iconst 2, 1) := by decide +kernel
theorem dX9_init_6 : decode cX9_init 6 = .ok (.putfield 9, 3) := by decide +kernel
theorem dX9_init_9 : decode cX9_init 9 = .ok (.aload_n 0, 1) := by decide +kernel
theorem dX9_init_10 : decode cX9_init 10 = .ok (.iconst 2, 1) := by decide +kernel
theorem dX9_init_11 : decode cX9_init 11 = .ok (.putfield 15, 3) := by decide +kernel
theorem dX9_init_14 : decode cX9_init 14 = .ok (.aload_n 0, 1) := by decide +kernel
theorem dX9_init_15 : decode cX9_init 15 = .ok (.iconst 1, 1) := by decide +kernel
theorem dX9_init_16 : decode cX9_init 16 = .ok (.putfield 18, 3) := by decide +kernel
theorem dX9_init_19 : decode cX9_init 19 = .ok (.aload_n 0, 1) := by decide +kernel
theorem dX9_init_20 : decode cX9_init 20 = .ok (.iconst 0, 1) := by decide +kernel
theorem dX9_init_21 : decode cX9_init 21 = .ok (.putfield 21, 3) := by decide +kernel
theorem dX9_init_24 : decode cX9_init 24 = .ok (.aload_n 0, 1) := by decide +kernel
theorem dX9_init_25 : decode cX9_init 25 = .ok (.sipush 169, 3) := by decide +kernel
theorem dX9_init_28 : decode cX9_init 28 = .ok (.newarray .long, 2) := by decide +kernel
theorem dX9_init_30 : decode cX9_init 30 = .ok (.putfield 24, 3) := by decide +kernel
theorem dX9_init_33 : decode cX9_init 33 = .ok (.aload_n 0, 1) := by decide +kernel
theorem dX9_init_34 : decode cX9_init 34 = .ok (.sipush 169, 3) := by decide +kernel
theorem dX9_init_37 : decode cX9_init 37 = .ok (.newarray .long, 2) := by decide +kernel
theorem dX9_init_39 : decode cX9_init 39 = .ok (.putfield 28, 3) := by decide +kernel
theorem dX9_init_42 : decode cX9_init 42 = .ok (.aload_n 0, 1) := by decide +kernel
theorem dX9_init_43 : decode cX9_init 43 = .ok (.sipush 169, 3) := by decide +kernel
theorem dX9_init_46 : decode cX9_init 46 = .ok (.newarray .int, 2) := by decide +kernel
theorem dX9_init_48 : decode cX9_init 48 = .ok (.putfield 31, 3) := by decide +kernel
theorem dX9_init_51 : decode cX9_init 51 = .ok (.aload_n 0, 1) := by decide +kernel
theorem dX9_init_52 : decode cX9_init 52 = .ok (.bipush 8, 2) := by decide +kernel
theorem dX9_init_54 : decode cX9_init 54 = .ok (.newarray .int, 2) := by decide +kernel
theorem dX9_init_56 : decode cX9_init 56 = .ok (.putfield 35, 3) := by decide +kernel
theorem dX9_init_59 : decode cX9_init 59 = .ok (.aload_n 0, 1) := by decide +kernel
theorem dX9_init_60 : decode cX9_init 60 = .ok (.bipush 8, 2) := by decide +kernel
theorem dX9_init_62 : decode cX9_init 62 = .ok (.newarray .int, 2) := by decide +kernel
theorem dX9_init_64 : decode cX9_init 64 = .ok (.putfield 38, 3) := by decide +kernel
theorem dX9_init_67 : decode cX9_init 67 = .ok (.aload_n 0, 1) := by decide +kernel
theorem dX9_init_68 : decode cX9_init 68 = .ok (.bipush 100, 2) := by decide +kernel
theorem dX9_init_70 : decode cX9_init 70 = .ok (.newarray .byte, 2) := by decide +kernel
theorem dX9_init_72 : decode cX9_init 72 = .ok (.putfield 41, 3) := by decide +kernel
theorem dX9_init_75 : decode cX9_init 75 = .ok (.aload_n 0, 1) := by decide +kernel
theorem dX9_init_76 : decode cX9_init 76 = .ok (.bipush 12, 2) := by decide +kernel
theorem dX9_init_78 : decode cX9_init 78 = .ok (.newarray .int, 2) := by decide +kernel
theorem dX9_init_80 : decode cX9_init 80 = .ok (.putfield 45, 3) := by decide +kernel
theorem dX9_init_83 : decode cX9_init 83 = .ok (.aload_n 0, 1) := by decide +kernel
theorem dX9_init_84 : decode cX9_init 84 = .ok (.bipush 12, 2) := by decide +kernel
theorem dX9_init_86 : decode cX9_init 86 = .ok (.newarray .int, 2) := by decide +kernel
theorem dX9_init_88 : decode cX9_init 88 = .ok (.putfield 48, 3) := by decide +kernel
theorem dX9_init_91 : decode cX9_init 91 = .ok (.aload_n 0, 1) := by decide +kernel
theorem dX9_init_92 : decode cX9_init 92 = .ok (.bipush 12, 2) := by decide +kernel
theorem dX9_init_94 : decode cX9_init 94 = .ok (.newarray .int, 2) := by decide +kernel
theorem dX9_init_96 : decode cX9_init 96 = .ok (.putfield 51, 3) := by decide +kernel
theorem dX9_init_99 : decode cX9_init 99 = .ok (.aload_n 0, 1) := by decide +kernel
theorem dX9_init_100 : decode cX9_init 100 = .ok (.sipush 169, 3) := by decide +kernel
theorem dX9_init_103 : decode cX9_init 103 = .ok (.newarray .long, 2) := by decide +kernel
theorem dX9_init_105 : decode cX9_init 105 = .ok (.putfield 54, 3) := by decide +kernel
theorem dX9_init_108 : decode cX9_init 108 = .ok (.aload_n 0, 1) := by decide +kernel
theorem dX9_init_109 : decode cX9_init 109 = .ok (.iconst 4, 1) := by decide +kernel
theorem dX9_init_110 : decode cX9_init 110 = .ok (.newarray .int, 2) := by decide +kernel
theorem dX9_init_112 : decode cX9_init 112 = .ok (.putfield 57, 3) := by decide +kernel
theorem dX9_init_115 : decode cX9_init 115 = .ok (.aload_n 0, 1) := by decide +kernel
theorem dX9_init_116 : decode cX9_init 116 = .ok (.iconst 4, 1) := by decide +kernel
theorem dX9_init_117 : decode cX9_init 117 = .ok (.newarray .int, 2) := by decide +kernel
theorem dX9_init_119 : decode cX9_init 119 = .ok (.putfield 60, 3) := by decide +kernel
theorem dX9_init_122 : decode cX9_init 122 = .ok (.aload_n 0, 1) := by decide +kernel
theorem dX9_init_123 : decode cX9_init 123 = .ok (.iconst 4, 1) := by decide +kernel
theorem dX9_init_124 : decode cX9_init 124 = .ok (.newarray .int, 2) := by decide +kernel
theorem dX9_init_126 : decode cX9_init 126 = .ok (.putfield 63, 3) := by decide +kernel
theorem dX9_init_129 : decode cX9_init 129 = .ok (.aload_n 0, 1) := by decide +kernel
theorem dX9_init_130 : decode cX9_init 130 = .ok (.bipush 8, 2) := by decide +kernel
theorem dX9_init_132 : decode cX9_init 132 = .ok (.newarray .int, 2) := by decide +kernel
theorem dX9_init_134 : decode cX9_init 134 = .ok (.putfield 66, 3) := by decide +kernel
theorem dX9_init_137 : decode cX9_init 137 = .ok (.aload_n 0, 1) := by decide +kernel
theorem dX9_init_138 : decode cX9_init 138 = .ok (.bipush 8, 2) := by decide +kernel
theorem dX9_init_140 : decode cX9_init 140 = .ok (.newarray .int, 2) := by decide +kernel
theorem dX9_init_142 : decode cX9_init 142 = .ok (.putfield 69, 3) := by decide +kernel
theorem dX9_init_145 : decode cX9_init 145 = .ok (.aload_n 0, 1) := by decide +kernel
theorem dX9_init_146 : decode cX9_init 146 = .ok (.bipush 8, 2) := by decide +kernel
theorem dX9_init_148 : decode cX9_init 148 = .ok (.newarray .int, 2) := by decide +kernel
theorem dX9_init_150 : decode cX9_init 150 = .ok (.putfield 72, 3) := by decide +kernel
theorem dX9_init_153 : decode cX9_init 153 = .ok (.aload_n 0, 1) := by decide +kernel
theorem dX9_init_154 : decode cX9_init 154 = .ok (.bipush 8, 2) := by decide +kernel
theorem dX9_init_156 : decode cX9_init 156 = .ok (.newarray .int, 2) := by decide +kernel
theorem dX9_init_158 : decode cX9_init 158 = .ok (.putfield 75, 3) := by decide +kernel
theorem dX9_init_161 : decode cX9_init 161 = .ok (.aload_n 0, 1) := by decide +kernel
theorem dX9_init_162 : decode cX9_init 162 = .ok (.bipush 8, 2) := by decide +kernel
theorem dX9_init_164 : decode cX9_init 164 = .ok (.newarray .int, 2) := by decide +kernel
theorem dX9_init_166 : decode cX9_init 166 = .ok (.putfield 78, 3) := by decide +kernel
theorem dX9_init_169 : decode cX9_init 169 = .ok (.aload_n 0, 1) := by decide +kernel
theorem dX9_init_170 : decode cX9_init 170 = .ok (.bipush 8, 2) := by decide +kernel
theorem dX9_init_172 : decode cX9_init 172 = .ok (.newarray .int, 2) := by decide +kernel
theorem dX9_init_174 : decode cX9_init 174 = .ok (.putfield 81, 3) := by decide +kernel
theorem dX9_init_177 : decode cX9_init 177 = .ok (.aload_n 0, 1) := by decide +kernel
theorem dX9_init_178 : decode cX9_init 178 = .ok (.bipush 10, 2) := by decide +kernel
theorem dX9_init_180 : decode cX9_init 180 = .ok (.bipush 8, 2) := by decide +kernel
theorem dX9_init_182 : decode cX9_init 182 = .ok (.multianewarray 84 2, 4) := by decide +kernel
theorem dX9_init_186 : decode cX9_init 186 = .ok (.putfield 86, 3) := by decide +kernel
theorem dX9_init_189 : decode cX9_init 189 = .ok (.aload_n 0, 1) := by decide +kernel
theorem dX9_init_190 : decode cX9_init 190 = .ok (.bipush 6, 2) := by decide +kernel
theorem dX9_init_192 : decode cX9_init 192 = .ok (.newarray .int, 2) := by decide +kernel
theorem dX9_init_194 : decode cX9_init 194 = .ok (.putfield 89, 3) := by decide +kernel
theorem dX9_init_197 : decode cX9_init 197 = .ok (.aload_n 0, 1) := by decide +kernel
theorem dX9_init_198 : decode cX9_init 198 = .ok (.bipush 6, 2) := by decide +kernel
theorem dX9_init_200 : decode cX9_init 200 = .ok (.newarray .int, 2) := by decide +kernel
theorem dX9_init_202 : decode cX9_init 202 = .ok (.putfield 92, 3) := by decide +kernel
theorem dX9_init_205 : decode cX9_init 205 = .ok (.aload_n 0, 1) := by decide +kernel
theorem dX9_init_206 : decode cX9_init 206 = .ok (.bipush 6, 2) := by decide +kernel
theorem dX9_init_208 : decode cX9_init 208 = .ok (.bipush 60, 2) := by decide +kernel
theorem dX9_init_210 : decode cX9_init 210 = .ok (.multianewarray 95 2, 4) := by decide +kernel
theorem dX9_init_214 : decode cX9_init 214 = .ok (.putfield 97, 3) := by decide +kernel
theorem dX9_init_217 : decode cX9_init 217 = .ok (.iconst 0, 1) := by decide +kernel
theorem dX9_init_218 : decode cX9_init 218 = .ok (.istore_n 1, 1) := by decide +kernel
theorem dX9_init_219 : decode cX9_init 219 = .ok (.iload_n 1, 1) := by decide +kernel
theorem dX9_init_220 : decode cX9_init 220 = .ok (.bipush 6, 2) := by decide +kernel
theorem dX9_init_222 : decode cX9_init 222 = .ok (.if_icmp .ge 16, 3) := by decide +kernel
theorem dX9_init_225 : decode cX9_init 225 = .ok (.aload_n 0, 1) := by decide +kernel
theorem dX9_init_226 : decode cX9_init 226 = .ok (.getfield 89, 3) := by decide +kernel
theorem dX9_init_229 : decode cX9_init 229 = .ok (.iload_n 1, 1) := by decide +kernel
theorem dX9_init_230 : decode cX9_init 230 = .ok (.iconst (-1), 1) := by decide +kernel
theorem dX9_init_231 : decode cX9_init 231 = .ok (.iastore, 1) := by decide +kernel
theorem dX9_init_232 : decode cX9_init 232 = .ok (.iinc 1 1, 3) := by decide +kernel
theorem dX9_init_235 : decode cX9_init 235 = .ok (.goto (-16), 3) := by decide +kernel
theorem dX9_init_238 : decode cX9_init 238 = .ok (.return_, 1) := by decide +kernel
theorem dX9_in_0 : decode cX9_in 0 = .ok (.lload_n 0, 1) := by decide +kernel
theorem dX9_in_1 : decode cX9_in 1 = .ok (.lload_n 2, 1) := by decide +kernel
theorem dX9_in_2 : decode cX9_in 2 = .ok (.lcmp, 1) := by decide +kernel
theorem dX9_in_3 : decode cX9_in 3 = .ok (.ifCond .lt 14, 3) := by decide +kernel
theorem dX9_in_6 : decode cX9_in 6 = .ok (.lload_n 0, 1) := by decide +kernel
theorem dX9_in_7 : decode cX9_in 7 = .ok (.lload 4, 2) := by decide +kernel
theorem dX9_in_9 : decode cX9_in 9 = .ok (.lcmp, 1) := by decide +kernel
theorem dX9_in_10 : decode cX9_in 10 = .ok (.ifCond .gt 7, 3) := by decide +kernel
theorem dX9_in_13 : decode cX9_in 13 = .ok (.iconst 1, 1) := by decide +kernel
theorem dX9_in_14 : decode cX9_in 14 = .ok (.goto 4, 3) := by decide +kernel
theorem dX9_in_17 : decode cX9_in 17 = .ok (.iconst 0, 1) := by decide +kernel
theorem dX9_in_18 : decode cX9_in 18 = .ok (.ireturn, 1) := by decide +kernel
theorem dX9_isPlace_0 : decode cX9_isPlace 0 = .ok (.lload_n 0, 1) := by decide +kernel
theorem dX9_isPlace_1 : decode cX9_isPlace 1 = .ok (.ldc2_w 100, 3) := by decide +kernel
theorem dX9_isPlace_4 : decode cX9_isPlace 4 = .ok (.ldc2_w 102, 3) := by decide +kernel
theorem dX9_isPlace_7 : decode cX9_isPlace 7 = .ok (.invokestatic 104, 3) := by decide +kernel
theorem dX9_isPlace_10 : decode cX9_isPlace 10 = .ok (.ifCond .eq 20, 3) := by decide +kernel
theorem dX9_isPlace_13 : decode cX9_isPlace 13 = .ok (.lload_n 2, 1) := by decide +kernel
theorem dX9_isPlace_14 : decode cX9_isPlace 14 = .ok (.ldc2_w 100, 3) := by decide +kernel
theorem dX9_isPlace_17 : decode cX9_isPlace 17 = .ok (.ldc2_w 102, 3) := by decide +kernel
theorem dX9_isPlace_20 : decode cX9_isPlace 20 = .ok (.invokestatic 104, 3) := by decide +kernel
theorem dX9_isPlace_23 : decode cX9_isPlace 23 = .ok (.ifCond .eq 7, 3) := by decide +kernel
theorem dX9_isPlace_26 : decode cX9_isPlace 26 = .ok (.iconst 1, 1) := by decide +kernel
theorem dX9_isPlace_27 : decode cX9_isPlace 27 = .ok (.goto 4, 3) := by decide +kernel
theorem dX9_isPlace_30 : decode cX9_isPlace 30 = .ok (.iconst 0, 1) := by decide +kernel
theorem dX9_isPlace_31 : decode cX9_isPlace 31 = .ok (.ireturn, 1) := by decide +kernel
theorem dX9_isSide_0 : decode cX9_isSide 0 = .ok (.iload_n 0, 1) := by decide +kernel
theorem dX9_isSide_1 : decode cX9_isSide 1 = .ok (.i2l, 1) := by decide +kernel
theorem dX9_isSide_2 : decode cX9_isSide 2 = .ok (.lconst 0, 1) := by decide +kernel
theorem dX9_isSide_3 : decode cX9_isSide 3 = .ok (.lconst 1, 1) := by decide +kernel
theorem dX9_isSide_4 : decode cX9_isSide 4 = .ok (.invokestatic 104, 3) := by decide +kernel
theorem dX9_isSide_7 : decode cX9_isSide 7 = .ok (.ireturn, 1) := by decide +kernel
theorem dX9_normOf_0 : decode cX9_normOf 0 = .ok (.ldc2_w 108, 3) := by decide +kernel
theorem dX9_normOf_3 : decode cX9_normOf 3 = .ok (.aload_n 0, 1) := by decide +kernel
theorem dX9_normOf_4 : decode cX9_normOf 4 = .ok (.getfield 15, 3) := by decide +kernel
theorem dX9_normOf_7 : decode cX9_normOf 7 = .ok (.i2l, 1) := by decide +kernel
theorem dX9_normOf_8 : decode cX9_normOf 8 = .ok (.lmul, 1) := by decide +kernel
theorem dX9_normOf_9 : decode cX9_normOf 9 = .ok (.lload_n 1, 1) := by decide +kernel
theorem dX9_normOf_10 : decode cX9_normOf 10 = .ok (.lmul, 1) := by decide +kernel
theorem dX9_normOf_11 : decode cX9_normOf 11 = .ok (.lload_n 1, 1) := by decide +kernel
theorem dX9_normOf_12 : decode cX9_normOf 12 = .ok (.lmul, 1) := by decide +kernel
theorem dX9_normOf_13 : decode cX9_normOf 13 = .ok (.ldc2_w 108, 3) := by decide +kernel
theorem dX9_normOf_16 : decode cX9_normOf 16 = .ok (.aload_n 0, 1) := by decide +kernel
theorem dX9_normOf_17 : decode cX9_normOf 17 = .ok (.getfield 9, 3) := by decide +kernel
theorem dX9_normOf_20 : decode cX9_normOf 20 = .ok (.i2l, 1) := by decide +kernel
theorem dX9_normOf_21 : decode cX9_normOf 21 = .ok (.lmul, 1) := by decide +kernel
theorem dX9_normOf_22 : decode cX9_normOf 22 = .ok (.aload_n 0, 1) := by decide +kernel
theorem dX9_normOf_23 : decode cX9_normOf 23 = .ok (.getfield 15, 3) := by decide +kernel
theorem dX9_normOf_26 : decode cX9_normOf 26 = .ok (.i2l, 1) := by decide +kernel
theorem dX9_normOf_27 : decode cX9_normOf 27 = .ok (.lmul, 1) := by decide +kernel
theorem dX9_normOf_28 : decode cX9_normOf 28 = .ok (.lload_n 1, 1) := by decide +kernel
theorem dX9_normOf_29 : decode cX9_normOf 29 = .ok (.lmul, 1) := by decide +kernel
theorem dX9_normOf_30 : decode cX9_normOf 30 = .ok (.lload_n 3, 1) := by decide +kernel
theorem dX9_normOf_31 : decode cX9_normOf 31 = .ok (.lmul, 1) := by decide +kernel
theorem dX9_normOf_32 : decode cX9_normOf 32 = .ok (.lsub, 1) := by decide +kernel
theorem dX9_normOf_33 : decode cX9_normOf 33 = .ok (.ldc2_w 108, 3) := by decide +kernel
theorem dX9_normOf_36 : decode cX9_normOf 36 = .ok (.aload_n 0, 1) := by decide +kernel
theorem dX9_normOf_37 : decode cX9_normOf 37 = .ok (.getfield 9, 3) := by decide +kernel
theorem dX9_normOf_40 : decode cX9_normOf 40 = .ok (.i2l, 1) := by decide +kernel
theorem dX9_normOf_41 : decode cX9_normOf 41 = .ok (.lmul, 1) := by decide +kernel
theorem dX9_normOf_42 : decode cX9_normOf 42 = .ok (.lload_n 3, 1) := by decide +kernel
theorem dX9_normOf_43 : decode cX9_normOf 43 = .ok (.lmul, 1) := by decide +kernel
theorem dX9_normOf_44 : decode cX9_normOf 44 = .ok (.lload_n 3, 1) := by decide +kernel
theorem dX9_normOf_45 : decode cX9_normOf 45 = .ok (.lmul, 1) := by decide +kernel
theorem dX9_normOf_46 : decode cX9_normOf 46 = .ok (.ladd, 1) := by decide +kernel
theorem dX9_normOf_47 : decode cX9_normOf 47 = .ok (.lreturn, 1) := by decide +kernel
theorem dX9_productOf_0 : decode cX9_productOf 0 = .ok (.ldc2_w 108, 3) := by decide +kernel
theorem dX9_productOf_3 : decode cX9_productOf 3 = .ok (.aload_n 0, 1) := by decide +kernel
theorem dX9_productOf_4 : decode cX9_productOf 4 = .ok (.getfield 15, 3) := by decide +kernel
theorem dX9_productOf_7 : decode cX9_productOf 7 = .ok (.i2l, 1) := by decide +kernel
theorem dX9_productOf_8 : decode cX9_productOf 8 = .ok (.lmul, 1) := by decide +kernel
theorem dX9_productOf_9 : decode cX9_productOf 9 = .ok (.lload_n 1, 1) := by decide +kernel
theorem dX9_productOf_10 : decode cX9_productOf 10 = .ok (.lmul, 1) := by decide +kernel
theorem dX9_productOf_11 : decode cX9_productOf 11 = .ok (.lload 5, 2) := by decide +kernel
theorem dX9_productOf_13 : decode cX9_productOf 13 = .ok (.lmul, 1) := by decide +kernel
theorem dX9_productOf_14 : decode cX9_productOf 14 = .ok (.aload_n 0, 1) := by decide +kernel
theorem dX9_productOf_15 : decode cX9_productOf 15 = .ok (.getfield 9, 3) := by decide +kernel
theorem dX9_productOf_18 : decode cX9_productOf 18 = .ok (.i2l, 1) := by decide +kernel
theorem dX9_productOf_19 : decode cX9_productOf 19 = .ok (.aload_n 0, 1) := by decide +kernel
theorem dX9_productOf_20 : decode cX9_productOf 20 = .ok (.getfield 15, 3) := by decide +kernel
theorem dX9_productOf_23 : decode cX9_productOf 23 = .ok (.i2l, 1) := by decide +kernel
theorem dX9_productOf_24 : decode cX9_productOf 24 = .ok (.lmul, 1) := by decide +kernel
theorem dX9_productOf_25 : decode cX9_productOf 25 = .ok (.lload_n 1, 1) := by decide +kernel
theorem dX9_productOf_26 : decode cX9_productOf 26 = .ok (.lload 7, 2) := by decide +kernel
theorem dX9_productOf_28 : decode cX9_productOf 28 = .ok (.lmul, 1) := by decide +kernel
theorem dX9_productOf_29 : decode cX9_productOf 29 = .ok (.lload_n 3, 1) := by decide +kernel
theorem dX9_productOf_30 : decode cX9_productOf 30 = .ok (.lload 5, 2) := by decide +kernel
theorem dX9_productOf_32 : decode cX9_productOf 32 = .ok (.lmul, 1) := by decide +kernel
theorem dX9_productOf_33 : decode cX9_productOf 33 = .ok (.ladd, 1) := by decide +kernel
theorem dX9_productOf_34 : decode cX9_productOf 34 = .ok (.lmul, 1) := by decide +kernel
theorem dX9_productOf_35 : decode cX9_productOf 35 = .ok (.lsub, 1) := by decide +kernel
theorem dX9_productOf_36 : decode cX9_productOf 36 = .ok (.ldc2_w 108, 3) := by decide +kernel
theorem dX9_productOf_39 : decode cX9_productOf 39 = .ok (.aload_n 0, 1) := by decide +kernel
theorem dX9_productOf_40 : decode cX9_productOf 40 = .ok (.getfield 9, 3) := by decide +kernel
theorem dX9_productOf_43 : decode cX9_productOf 43 = .ok (.i2l, 1) := by decide +kernel
theorem dX9_productOf_44 : decode cX9_productOf 44 = .ok (.lmul, 1) := by decide +kernel
theorem dX9_productOf_45 : decode cX9_productOf 45 = .ok (.lload_n 3, 1) := by decide +kernel
theorem dX9_productOf_46 : decode cX9_productOf 46 = .ok (.lmul, 1) := by decide +kernel
theorem dX9_productOf_47 : decode cX9_productOf 47 = .ok (.lload 7, 2) := by decide +kernel
theorem dX9_productOf_49 : decode cX9_productOf 49 = .ok (.lmul, 1) := by decide +kernel
theorem dX9_productOf_50 : decode cX9_productOf 50 = .ok (.ladd, 1) := by decide +kernel
theorem dX9_productOf_51 : decode cX9_productOf 51 = .ok (.lreturn, 1) := by decide +kernel
theorem dX9_coatOf_0 : decode cX9_coatOf 0 = .ok (.iload_n 1, 1) := by decide +kernel
theorem dX9_coatOf_1 : decode cX9_coatOf 1 = .ok (.ifCond .ne 16, 3) := by decide +kernel
theorem dX9_coatOf_4 : decode cX9_coatOf 4 = .ok (.iconst 2, 1) := by decide +kernel
theorem dX9_coatOf_5 : decode cX9_coatOf 5 = .ok (.iload_n 2, 1) := by decide +kernel
theorem dX9_coatOf_6 : decode cX9_coatOf 6 = .ok (.imul, 1) := by decide +kernel
theorem dX9_coatOf_7 : decode cX9_coatOf 7 = .ok (.aload_n 0, 1) := by decide +kernel
theorem dX9_coatOf_8 : decode cX9_coatOf 8 = .ok (.getfield 9, 3) := by decide +kernel
theorem dX9_coatOf_11 : decode cX9_coatOf 11 = .ok (.iload_n 3, 1) := by decide +kernel
theorem dX9_coatOf_12 : decode cX9_coatOf 12 = .ok (.imul, 1) := by decide +kernel
theorem dX9_coatOf_13 : decode cX9_coatOf 13 = .ok (.isub, 1) := by decide +kernel
theorem dX9_coatOf_14 : decode cX9_coatOf 14 = .ok (.goto 13, 3) := by decide +kernel
theorem dX9_coatOf_17 : decode cX9_coatOf 17 = .ok (.iconst 2, 1) := by decide +kernel
theorem dX9_coatOf_18 : decode cX9_coatOf 18 = .ok (.iload_n 3, 1) := by decide +kernel
theorem dX9_coatOf_19 : decode cX9_coatOf 19 = .ok (.imul, 1) := by decide +kernel
theorem dX9_coatOf_20 : decode cX9_coatOf 20 = .ok (.aload_n 0, 1) := by decide +kernel
theorem dX9_coatOf_21 : decode cX9_coatOf 21 = .ok (.getfield 15, 3) := by decide +kernel
theorem dX9_coatOf_24 : decode cX9_coatOf 24 = .ok (.iload_n 2, 1) := by decide +kernel
theorem dX9_coatOf_25 : decode cX9_coatOf 25 = .ok (.imul, 1) := by decide +kernel
theorem dX9_coatOf_26 : decode cX9_coatOf 26 = .ok (.isub, 1) := by decide +kernel
theorem dX9_coatOf_27 : decode cX9_coatOf 27 = .ok (.ireturn, 1) := by decide +kernel
theorem dX9_isLetter_0 : decode cX9_isLetter 0 = .ok (.aload_n 0, 1) := by decide +kernel
theorem dX9_isLetter_1 : decode cX9_isLetter 1 = .ok (.getfield 110, 3) := by decide +kernel
theorem dX9_isLetter_4 : decode cX9_isLetter 4 = .ok (.iconst 1, 1) := by decide +kernel
theorem dX9_isLetter_5 : decode cX9_isLetter 5 = .ok (.if_icmp .ne 10, 3) := by decide +kernel
theorem dX9_isLetter_8 : decode cX9_isLetter 8 = .ok (.aload_n 0, 1) := by decide +kernel
theorem dX9_isLetter_9 : decode cX9_isLetter 9 = .ok (.getfield 113, 3) := by decide +kernel
theorem dX9_isLetter_12 : decode cX9_isLetter 12 = .ok (.ifCond .eq 18, 3) := by decide +kernel
theorem dX9_isLetter_15 : decode cX9_isLetter 15 = .ok (.aload_n 0, 1) := by decide +kernel
theorem dX9_isLetter_16 : decode cX9_isLetter 16 = .ok (.getfield 110, 3) := by decide +kernel
theorem dX9_isLetter_19 : decode cX9_isLetter 19 = .ok (.ifCond .ne 15, 3) := by decide +kernel
theorem dX9_isLetter_22 : decode cX9_isLetter 22 = .ok (.aload_n 0, 1) := by decide +kernel
theorem dX9_isLetter_23 : decode cX9_isLetter 23 = .ok (.getfield 113, 3) := by decide +kernel
theorem dX9_isLetter_26 : decode cX9_isLetter 26 = .ok (.iconst 1, 1) := by decide +kernel
theorem dX9_isLetter_27 : decode cX9_isLetter 27 = .ok (.if_icmp .ne 7, 3) := by decide +kernel
theorem dX9_isLetter_30 : decode cX9_isLetter 30 = .ok (.iconst 1, 1) := by decide +kernel
theorem dX9_isLetter_31 : decode cX9_isLetter 31 = .ok (.goto 4, 3) := by decide +kernel
theorem dX9_isLetter_34 : decode cX9_isLetter 34 = .ok (.iconst 0, 1) := by decide +kernel
theorem dX9_isLetter_35 : decode cX9_isLetter 35 = .ok (.ireturn, 1) := by decide +kernel
theorem dX9_lower_0 : decode cX9_lower 0 = .ok (.aload_n 0, 1) := by decide +kernel
theorem dX9_lower_1 : decode cX9_lower 1 = .ok (.iload_n 1, 1) := by decide +kernel
theorem dX9_lower_2 : decode cX9_lower 2 = .ok (.putfield 110, 3) := by decide +kernel
theorem dX9_lower_5 : decode cX9_lower 5 = .ok (.aload_n 0, 1) := by decide +kernel
theorem dX9_lower_6 : decode cX9_lower 6 = .ok (.iload_n 2, 1) := by decide +kernel
theorem dX9_lower_7 : decode cX9_lower 7 = .ok (.putfield 113, 3) := by decide +kernel
theorem dX9_lower_10 : decode cX9_lower 10 = .ok (.aload_n 0, 1) := by decide +kernel
theorem dX9_lower_11 : decode cX9_lower 11 = .ok (.iconst 0, 1) := by decide +kernel
theorem dX9_lower_12 : decode cX9_lower 12 = .ok (.putfield 116, 3) := by decide +kernel
theorem dX9_lower_15 : decode cX9_lower 15 = .ok (.aload_n 0, 1) := by decide +kernel
theorem dX9_lower_16 : decode cX9_lower 16 = .ok (.aload_n 0, 1) := by decide +kernel
theorem dX9_lower_17 : decode cX9_lower 17 = .ok (.invokevirtual 119, 3) := by decide +kernel
theorem dX9_lower_20 : decode cX9_lower 20 = .ok (.putfield 123, 3) := by decide +kernel
theorem dX9_lower_23 : decode cX9_lower 23 = .ok (.aload_n 0, 1) := by decide +kernel
theorem dX9_lower_24 : decode cX9_lower 24 = .ok (.getfield 110, 3) := by decide +kernel
theorem dX9_lower_27 : decode cX9_lower 27 = .ok (.ifCond .lt 14, 3) := by decide +kernel
theorem dX9_lower_30 : decode cX9_lower 30 = .ok (.aload_n 0, 1) := by decide +kernel
theorem dX9_lower_31 : decode cX9_lower 31 = .ok (.getfield 113, 3) := by decide +kernel
theorem dX9_lower_34 : decode cX9_lower 34 = .ok (.ifCond .lt 7, 3) := by decide +kernel
theorem dX9_lower_37 : decode cX9_lower 37 = .ok (.iconst 1, 1) := by decide +kernel
theorem dX9_lower_38 : decode cX9_lower 38 = .ok (.goto 4, 3) := by decide +kernel
theorem dX9_lower_41 : decode cX9_lower 41 = .ok (.iconst 0, 1) := by decide +kernel
theorem dX9_lower_42 : decode cX9_lower 42 = .ok (.istore_n 3, 1) := by decide +kernel
theorem dX9_lower_43 : decode cX9_lower 43 = .ok (.iload_n 3, 1) := by decide +kernel
theorem dX9_lower_44 : decode cX9_lower 44 = .ok (.ifCond .eq 143, 3) := by decide +kernel
theorem dX9_lower_47 : decode cX9_lower 47 = .ok (.aload_n 0, 1) := by decide +kernel
theorem dX9_lower_48 : decode cX9_lower 48 = .ok (.iconst 0, 1) := by decide +kernel
theorem dX9_lower_49 : decode cX9_lower 49 = .ok (.aload_n 0, 1) := by decide +kernel
theorem dX9_lower_50 : decode cX9_lower 50 = .ok (.getfield 110, 3) := by decide +kernel
theorem dX9_lower_53 : decode cX9_lower 53 = .ok (.aload_n 0, 1) := by decide +kernel
theorem dX9_lower_54 : decode cX9_lower 54 = .ok (.getfield 113, 3) := by decide +kernel
theorem dX9_lower_57 : decode cX9_lower 57 = .ok (.invokevirtual 127, 3) := by decide +kernel
theorem dX9_lower_60 : decode cX9_lower 60 = .ok (.ifCond .le 7, 3) := by decide +kernel
theorem dX9_lower_63 : decode cX9_lower 63 = .ok (.iconst 0, 1) := by decide +kernel
theorem dX9_lower_64 : decode cX9_lower 64 = .ok (.goto 24, 3) := by decide +kernel
theorem dX9_lower_67 : decode cX9_lower 67 = .ok (.aload_n 0, 1) := by decide +kernel
theorem dX9_lower_68 : decode cX9_lower 68 = .ok (.iconst 1, 1) := by decide +kernel
theorem dX9_lower_69 : decode cX9_lower 69 = .ok (.aload_n 0, 1) := by decide +kernel
theorem dX9_lower_70 : decode cX9_lower 70 = .ok (.getfield 110, 3) := by decide +kernel
theorem dX9_lower_73 : decode cX9_lower 73 = .ok (.aload_n 0, 1) := by decide +kernel
theorem dX9_lower_74 : decode cX9_lower 74 = .ok (.getfield 113, 3) := by decide +kernel
theorem dX9_lower_77 : decode cX9_lower 77 = .ok (.invokevirtual 127, 3) := by decide +kernel
theorem dX9_lower_80 : decode cX9_lower 80 = .ok (.ifCond .le 7, 3) := by decide +kernel
theorem dX9_lower_83 : decode cX9_lower 83 = .ok (.iconst 1, 1) := by decide +kernel
theorem dX9_lower_84 : decode cX9_lower 84 = .ok (.goto 4, 3) := by decide +kernel
theorem dX9_lower_87 : decode cX9_lower 87 = .ok (.iconst (-1), 1) := by decide +kernel
theorem dX9_lower_88 : decode cX9_lower 88 = .ok (.istore 4, 2) := by decide +kernel
theorem dX9_lower_90 : decode cX9_lower 90 = .ok (.iload 4, 2) := by decide +kernel
theorem dX9_lower_92 : decode cX9_lower 92 = .ok (.iconst (-1), 1) := by decide +kernel
theorem dX9_lower_93 : decode cX9_lower 93 = .ok (.if_icmp .ne 4, 3) := by decide +kernel
theorem dX9_lower_96 : decode cX9_lower 96 = .ok (.return_, 1) := by decide +kernel
theorem dX9_lower_97 : decode cX9_lower 97 = .ok (.iload 4, 2) := by decide +kernel
theorem dX9_lower_99 : decode cX9_lower 99 = .ok (.ifCond .ne 24, 3) := by decide +kernel
theorem dX9_lower_102 : decode cX9_lower 102 = .ok (.aload_n 0, 1) := by decide +kernel
theorem dX9_lower_103 : decode cX9_lower 103 = .ok (.aload_n 0, 1) := by decide +kernel
theorem dX9_lower_104 : decode cX9_lower 104 = .ok (.getfield 9, 3) := by decide +kernel
theorem dX9_lower_107 : decode cX9_lower 107 = .ok (.aload_n 0, 1) := by decide +kernel
theorem dX9_lower_108 : decode cX9_lower 108 = .ok (.getfield 113, 3) := by decide +kernel
theorem dX9_lower_111 : decode cX9_lower 111 = .ok (.imul, 1) := by decide +kernel
theorem dX9_lower_112 : decode cX9_lower 112 = .ok (.aload_n 0, 1) := by decide +kernel
theorem dX9_lower_113 : decode cX9_lower 113 = .ok (.getfield 110, 3) := by decide +kernel
theorem dX9_lower_116 : decode cX9_lower 116 = .ok (.isub, 1) := by decide +kernel
theorem dX9_lower_117 : decode cX9_lower 117 = .ok (.putfield 110, 3) := by decide +kernel
theorem dX9_lower_120 : decode cX9_lower 120 = .ok (.goto 21, 3) := by decide +kernel
theorem dX9_lower_123 : decode cX9_lower 123 = .ok (.aload_n 0, 1) := by decide +kernel
theorem dX9_lower_124 : decode cX9_lower 124 = .ok (.aload_n 0, 1) := by decide +kernel
theorem dX9_lower_125 : decode cX9_lower 125 = .ok (.getfield 15, 3) := by decide +kernel
theorem dX9_lower_128 : decode cX9_lower 128 = .ok (.aload_n 0, 1) := by decide +kernel
theorem dX9_lower_129 : decode cX9_lower 129 = .ok (.getfield 110, 3) := by decide +kernel
theorem dX9_lower_132 : decode cX9_lower 132 = .ok (.imul, 1) := by decide +kernel
theorem dX9_lower_133 : decode cX9_lower 133 = .ok (.aload_n 0, 1) := by decide +kernel
theorem dX9_lower_134 : decode cX9_lower 134 = .ok (.getfield 113, 3) := by decide +kernel
theorem dX9_lower_137 : decode cX9_lower 137 = .ok (.isub, 1) := by decide +kernel
theorem dX9_lower_138 : decode cX9_lower 138 = .ok (.putfield 113, 3) := by decide +kernel
theorem dX9_lower_141 : decode cX9_lower 141 = .ok (.aload_n 0, 1) := by decide +kernel
theorem dX9_lower_142 : decode cX9_lower 142 = .ok (.dup, 1) := by decide +kernel
theorem dX9_lower_143 : decode cX9_lower 143 = .ok (.getfield 116, 3) := by decide +kernel
theorem dX9_lower_146 : decode cX9_lower 146 = .ok (.iconst 1, 1) := by decide +kernel
theorem dX9_lower_147 : decode cX9_lower 147 = .ok (.iadd, 1) := by decide +kernel
theorem dX9_lower_148 : decode cX9_lower 148 = .ok (.putfield 116, 3) := by decide +kernel
theorem dX9_lower_151 : decode cX9_lower 151 = .ok (.aload_n 0, 1) := by decide +kernel
theorem dX9_lower_152 : decode cX9_lower 152 = .ok (.dup, 1) := by decide +kernel
theorem dX9_lower_153 : decode cX9_lower 153 = .ok (.getfield 123, 3) := by decide +kernel
theorem dX9_lower_156 : decode cX9_lower 156 = .ok (.aload_n 0, 1) := by decide +kernel
theorem dX9_lower_157 : decode cX9_lower 157 = .ok (.invokevirtual 119, 3) := by decide +kernel
theorem dX9_lower_160 : decode cX9_lower 160 = .ok (.ior, 1) := by decide +kernel
theorem dX9_lower_161 : decode cX9_lower 161 = .ok (.putfield 123, 3) := by decide +kernel
theorem dX9_lower_164 : decode cX9_lower 164 = .ok (.aload_n 0, 1) := by decide +kernel
theorem dX9_lower_165 : decode cX9_lower 165 = .ok (.getfield 110, 3) := by decide +kernel
theorem dX9_lower_168 : decode cX9_lower 168 = .ok (.ifCond .lt 14, 3) := by decide +kernel
theorem dX9_lower_171 : decode cX9_lower 171 = .ok (.aload_n 0, 1) := by decide +kernel
theorem dX9_lower_172 : decode cX9_lower 172 = .ok (.getfield 113, 3) := by decide +kernel
theorem dX9_lower_175 : decode cX9_lower 175 = .ok (.ifCond .lt 7, 3) := by decide +kernel
theorem dX9_lower_178 : decode cX9_lower 178 = .ok (.iconst 1, 1) := by decide +kernel
theorem dX9_lower_179 : decode cX9_lower 179 = .ok (.goto 4, 3) := by decide +kernel
theorem dX9_lower_182 : decode cX9_lower 182 = .ok (.iconst 0, 1) := by decide +kernel
theorem dX9_lower_183 : decode cX9_lower 183 = .ok (.istore_n 3, 1) := by decide +kernel
theorem dX9_lower_184 : decode cX9_lower 184 = .ok (.goto (-141), 3) := by decide +kernel
theorem dX9_lower_187 : decode cX9_lower 187 = .ok (.return_, 1) := by decide +kernel
theorem dX9_sortOf_0 : decode cX9_sortOf 0 = .ok (.iload_n 1, 1) := by decide +kernel
theorem dX9_sortOf_1 : decode cX9_sortOf 1 = .ok (.ifCond .le 7, 3) := by decide +kernel
theorem dX9_sortOf_4 : decode cX9_sortOf 4 = .ok (.iload_n 2, 1) := by decide +kernel
theorem dX9_sortOf_5 : decode cX9_sortOf 5 = .ok (.ifCond .lt 19, 3) := by decide +kernel
theorem dX9_sortOf_8 : decode cX9_sortOf 8 = .ok (.iload_n 1, 1) := by decide +kernel
theorem dX9_sortOf_9 : decode cX9_sortOf 9 = .ok (.ifCond .ge 7, 3) := by decide +kernel
theorem dX9_sortOf_12 : decode cX9_sortOf 12 = .ok (.iload_n 2, 1) := by decide +kernel
theorem dX9_sortOf_13 : decode cX9_sortOf 13 = .ok (.ifCond .gt 11, 3) := by decide +kernel
theorem dX9_sortOf_16 : decode cX9_sortOf 16 = .ok (.iload_n 1, 1) := by decide +kernel
theorem dX9_sortOf_17 : decode cX9_sortOf 17 = .ok (.ifCond .ne 9, 3) := by decide +kernel
theorem dX9_sortOf_20 : decode cX9_sortOf 20 = .ok (.iload_n 2, 1) := by decide +kernel
theorem dX9_sortOf_21 : decode cX9_sortOf 21 = .ok (.ifCond .ne 5, 3) := by decide +kernel
theorem dX9_sortOf_24 : decode cX9_sortOf 24 = .ok (.iconst 0, 1) := by decide +kernel
theorem dX9_sortOf_25 : decode cX9_sortOf 25 = .ok (.ireturn, 1) := by decide +kernel
theorem dX9_sortOf_26 : decode cX9_sortOf 26 = .ok (.aload_n 0, 1) := by decide +kernel
theorem dX9_sortOf_27 : decode cX9_sortOf 27 = .ok (.iload_n 1, 1) := by decide +kernel
theorem dX9_sortOf_28 : decode cX9_sortOf 28 = .ok (.invokestatic 131, 3) := by decide +kernel
theorem dX9_sortOf_31 : decode cX9_sortOf 31 = .ok (.iload_n 2, 1) := by decide +kernel
theorem dX9_sortOf_32 : decode cX9_sortOf 32 = .ok (.invokestatic 131, 3) := by decide +kernel
theorem dX9_sortOf_35 : decode cX9_sortOf 35 = .ok (.invokevirtual 137, 3) := by decide +kernel
theorem dX9_sortOf_38 : decode cX9_sortOf 38 = .ok (.aload_n 0, 1) := by decide +kernel
theorem dX9_sortOf_39 : decode cX9_sortOf 39 = .ok (.getfield 123, 3) := by decide +kernel
theorem dX9_sortOf_42 : decode cX9_sortOf 42 = .ok (.ifCond .eq 7, 3) := by decide +kernel
theorem dX9_sortOf_45 : decode cX9_sortOf 45 = .ok (.iconst 1, 1) := by decide +kernel
theorem dX9_sortOf_46 : decode cX9_sortOf 46 = .ok (.goto 22, 3) := by decide +kernel
theorem dX9_sortOf_49 : decode cX9_sortOf 49 = .ok (.aload_n 0, 1) := by decide +kernel
theorem dX9_sortOf_50 : decode cX9_sortOf 50 = .ok (.getfield 110, 3) := by decide +kernel
theorem dX9_sortOf_53 : decode cX9_sortOf 53 = .ok (.ifCond .le 14, 3) := by decide +kernel
theorem dX9_sortOf_56 : decode cX9_sortOf 56 = .ok (.aload_n 0, 1) := by decide +kernel
theorem dX9_sortOf_57 : decode cX9_sortOf 57 = .ok (.getfield 113, 3) := by decide +kernel
theorem dX9_sortOf_60 : decode cX9_sortOf 60 = .ok (.ifCond .le 7, 3) := by decide +kernel
theorem dX9_sortOf_63 : decode cX9_sortOf 63 = .ok (.iconst 2, 1) := by decide +kernel
theorem dX9_sortOf_64 : decode cX9_sortOf 64 = .ok (.goto 4, 3) := by decide +kernel
theorem dX9_sortOf_67 : decode cX9_sortOf 67 = .ok (.iconst 0, 1) := by decide +kernel
theorem dX9_sortOf_68 : decode cX9_sortOf 68 = .ok (.ireturn, 1) := by decide +kernel
theorem dX9_at_0 : decode cX9_at 0 = .ok (.bipush 13, 2) := by decide +kernel
theorem dX9_at_2 : decode cX9_at 2 = .ok (.iload_n 0, 1) := by decide +kernel
theorem dX9_at_3 : decode cX9_at 3 = .ok (.imul, 1) := by decide +kernel
theorem dX9_at_4 : decode cX9_at 4 = .ok (.iload_n 1, 1) := by decide +kernel
theorem dX9_at_5 : decode cX9_at 5 = .ok (.iadd, 1) := by decide +kernel
theorem dX9_at_6 : decode cX9_at 6 = .ok (.ireturn, 1) := by decide +kernel
theorem dX9_common_0 : decode cX9_common 0 = .ok (.lload_n 2, 1) := by decide +kernel
theorem dX9_common_1 : decode cX9_common 1 = .ok (.lconst 0, 1) := by decide +kernel
theorem dX9_common_2 : decode cX9_common 2 = .ok (.lcmp, 1) := by decide +kernel
theorem dX9_common_3 : decode cX9_common 3 = .ok (.ifCond .ne 7, 3) := by decide +kernel
theorem dX9_common_6 : decode cX9_common 6 = .ok (.lload_n 0, 1) := by decide +kernel
theorem dX9_common_7 : decode cX9_common 7 = .ok (.goto 10, 3) := by decide +kernel
theorem dX9_common_10 : decode cX9_common 10 = .ok (.lload_n 2, 1) := by decide +kernel
theorem dX9_common_11 : decode cX9_common 11 = .ok (.lload_n 0, 1) := by decide +kernel
theorem dX9_common_12 : decode cX9_common 12 = .ok (.lload_n 2, 1) := by decide +kernel
theorem dX9_common_13 : decode cX9_common 13 = .ok (.lrem, 1) := by decide +kernel
theorem dX9_common_14 : decode cX9_common 14 = .ok (.invokestatic 141, 3) := by decide +kernel
theorem dX9_common_17 : decode cX9_common 17 = .ok (.lreturn, 1) := by decide +kernel
theorem dX9_lay_0 : decode cX9_lay 0 = .ok (.lload_n 1, 1) := by decide +kernel
theorem dX9_lay_1 : decode cX9_lay 1 = .ok (.invokestatic 145, 3) := by decide +kernel
theorem dX9_lay_4 : decode cX9_lay 4 = .ok (.lload_n 3, 1) := by decide +kernel
theorem dX9_lay_5 : decode cX9_lay 5 = .ok (.invokestatic 145, 3) := by decide +kernel
theorem dX9_lay_8 : decode cX9_lay 8 = .ok (.invokestatic 141, 3) := by decide +kernel
theorem dX9_lay_11 : decode cX9_lay 11 = .ok (.lstore 5, 2) := by decide +kernel
theorem dX9_lay_13 : decode cX9_lay 13 = .ok (.lload_n 3, 1) := by decide +kernel
theorem dX9_lay_14 : decode cX9_lay 14 = .ok (.lconst 0, 1) := by decide +kernel
theorem dX9_lay_15 : decode cX9_lay 15 = .ok (.lcmp, 1) := by decide +kernel
theorem dX9_lay_16 : decode cX9_lay 16 = .ok (.ifCond .ge 9, 3) := by decide +kernel
theorem dX9_lay_19 : decode cX9_lay 19 = .ok (.lload 5, 2) := by decide +kernel
theorem dX9_lay_21 : decode cX9_lay 21 = .ok (.lneg, 1) := by decide +kernel
theorem dX9_lay_22 : decode cX9_lay 22 = .ok (.goto 5, 3) := by decide +kernel
theorem dX9_lay_25 : decode cX9_lay 25 = .ok (.lload 5, 2) := by decide +kernel
theorem dX9_lay_27 : decode cX9_lay 27 = .ok (.lstore 7, 2) := by decide +kernel
theorem dX9_lay_29 : decode cX9_lay 29 = .ok (.aload_n 0, 1) := by decide +kernel
theorem dX9_lay_30 : decode cX9_lay 30 = .ok (.lload_n 1, 1) := by decide +kernel
theorem dX9_lay_31 : decode cX9_lay 31 = .ok (.lload 7, 2) := by decide +kernel
theorem dX9_lay_33 : decode cX9_lay 33 = .ok (.ldiv, 1) := by decide +kernel
theorem dX9_lay_34 : decode cX9_lay 34 = .ok (.putfield 148, 3) := by decide +kernel
theorem dX9_lay_37 : decode cX9_lay 37 = .ok (.aload_n 0, 1) := by decide +kernel
theorem dX9_lay_38 : decode cX9_lay 38 = .ok (.lload_n 3, 1) := by decide +kernel
theorem dX9_lay_39 : decode cX9_lay 39 = .ok (.lload 7, 2) := by decide +kernel
theorem dX9_lay_41 : decode cX9_lay 41 = .ok (.ldiv, 1) := by decide +kernel
theorem dX9_lay_42 : decode cX9_lay 42 = .ok (.putfield 152, 3) := by decide +kernel
theorem dX9_lay_45 : decode cX9_lay 45 = .ok (.return_, 1) := by decide +kernel
theorem dX9_adds_0 : decode cX9_adds 0 = .ok (.aload_n 0, 1) := by decide +kernel
theorem dX9_adds_1 : decode cX9_adds 1 = .ok (.aload_n 0, 1) := by decide +kernel
theorem dX9_adds_2 : decode cX9_adds 2 = .ok (.getfield 148, 3) := by decide +kernel
theorem dX9_adds_5 : decode cX9_adds 5 = .ok (.lload_n 3, 1) := by decide +kernel
theorem dX9_adds_6 : decode cX9_adds 6 = .ok (.lmul, 1) := by decide +kernel
theorem dX9_adds_7 : decode cX9_adds 7 = .ok (.lload_n 1, 1) := by decide +kernel
theorem dX9_adds_8 : decode cX9_adds 8 = .ok (.aload_n 0, 1) := by decide +kernel
theorem dX9_adds_9 : decode cX9_adds 9 = .ok (.getfield 152, 3) := by decide +kernel
theorem dX9_adds_12 : decode cX9_adds 12 = .ok (.lmul, 1) := by decide +kernel
theorem dX9_adds_13 : decode cX9_adds 13 = .ok (.ladd, 1) := by decide +kernel
theorem dX9_adds_14 : decode cX9_adds 14 = .ok (.aload_n 0, 1) := by decide +kernel
theorem dX9_adds_15 : decode cX9_adds 15 = .ok (.getfield 152, 3) := by decide +kernel
theorem dX9_adds_18 : decode cX9_adds 18 = .ok (.lload_n 3, 1) := by decide +kernel
theorem dX9_adds_19 : decode cX9_adds 19 = .ok (.lmul, 1) := by decide +kernel
theorem dX9_adds_20 : decode cX9_adds 20 = .ok (.invokevirtual 155, 3) := by decide +kernel
theorem dX9_adds_23 : decode cX9_adds 23 = .ok (.return_, 1) := by decide +kernel
theorem dX9_layParts_0 : decode cX9_layParts 0 = .ok (.aload_n 0, 1) := by decide +kernel
theorem dX9_layParts_1 : decode cX9_layParts 1 = .ok (.lconst 0, 1) := by decide +kernel
theorem dX9_layParts_2 : decode cX9_layParts 2 = .ok (.lconst 1, 1) := by decide +kernel
theorem dX9_layParts_3 : decode cX9_layParts 3 = .ok (.invokevirtual 155, 3) := by decide +kernel
theorem dX9_layParts_6 : decode cX9_layParts 6 = .ok (.iconst 2, 1) := by decide +kernel
theorem dX9_layParts_7 : decode cX9_layParts 7 = .ok (.istore_n 3, 1) := by decide +kernel
theorem dX9_layParts_8 : decode cX9_layParts 8 = .ok (.iload_n 3, 1) := by decide +kernel
theorem dX9_layParts_9 : decode cX9_layParts 9 = .ok (.bipush 12, 2) := by decide +kernel
theorem dX9_layParts_11 : decode cX9_layParts 11 = .ok (.if_icmp .gt 42, 3) := by decide +kernel
theorem dX9_layParts_14 : decode cX9_layParts 14 = .ok (.iload_n 1, 1) := by decide +kernel
theorem dX9_layParts_15 : decode cX9_layParts 15 = .ok (.iload_n 3, 1) := by decide +kernel
theorem dX9_layParts_16 : decode cX9_layParts 16 = .ok (.irem, 1) := by decide +kernel
theorem dX9_layParts_17 : decode cX9_layParts 17 = .ok (.ifCond .ne 30, 3) := by decide +kernel
theorem dX9_layParts_20 : decode cX9_layParts 20 = .ok (.iload_n 2, 1) := by decide +kernel
theorem dX9_layParts_21 : decode cX9_layParts 21 = .ok (.iload_n 3, 1) := by decide +kernel
theorem dX9_layParts_22 : decode cX9_layParts 22 = .ok (.irem, 1) := by decide +kernel
theorem dX9_layParts_23 : decode cX9_layParts 23 = .ok (.ifCond .ne 24, 3) := by decide +kernel
theorem dX9_layParts_26 : decode cX9_layParts 26 = .ok (.aload_n 0, 1) := by decide +kernel
theorem dX9_layParts_27 : decode cX9_layParts 27 = .ok (.aload_n 0, 1) := by decide +kernel
theorem dX9_layParts_28 : decode cX9_layParts 28 = .ok (.getfield 31, 3) := by decide +kernel
theorem dX9_layParts_31 : decode cX9_layParts 31 = .ok (.iload_n 1, 1) := by decide +kernel
theorem dX9_layParts_32 : decode cX9_layParts 32 = .ok (.iload_n 3, 1) := by decide +kernel
theorem dX9_layParts_33 : decode cX9_layParts 33 = .ok (.idiv, 1) := by decide +kernel
theorem dX9_layParts_34 : decode cX9_layParts 34 = .ok (.iload_n 2, 1) := by decide +kernel
theorem dX9_layParts_35 : decode cX9_layParts 35 = .ok (.iload_n 3, 1) := by decide +kernel
theorem dX9_layParts_36 : decode cX9_layParts 36 = .ok (.idiv, 1) := by decide +kernel
theorem dX9_layParts_37 : decode cX9_layParts 37 = .ok (.invokestatic 159, 3) := by decide +kernel
theorem dX9_layParts_40 : decode cX9_layParts 40 = .ok (.iaload, 1) := by decide +kernel
theorem dX9_layParts_41 : decode cX9_layParts 41 = .ok (.i2l, 1) := by decide +kernel
theorem dX9_layParts_42 : decode cX9_layParts 42 = .ok (.iload_n 3, 1) := by decide +kernel
theorem dX9_layParts_43 : decode cX9_layParts 43 = .ok (.i2l, 1) := by decide +kernel
theorem dX9_layParts_44 : decode cX9_layParts 44 = .ok (.invokevirtual 163, 3) := by decide +kernel
theorem dX9_layParts_47 : decode cX9_layParts 47 = .ok (.iinc 3 1, 3) := by decide +kernel
theorem dX9_layParts_50 : decode cX9_layParts 50 = .ok (.goto (-42), 3) := by decide +kernel
theorem dX9_layParts_53 : decode cX9_layParts 53 = .ok (.return_, 1) := by decide +kernel
theorem dX9_layPairs_0 : decode cX9_layPairs 0 = .ok (.aload_n 0, 1) := by decide +kernel
theorem dX9_layPairs_1 : decode cX9_layPairs 1 = .ok (.lconst 0, 1) := by decide +kernel
theorem dX9_layPairs_2 : decode cX9_layPairs 2 = .ok (.lconst 1, 1) := by decide +kernel
theorem dX9_layPairs_3 : decode cX9_layPairs 3 = .ok (.invokevirtual 155, 3) := by decide +kernel
theorem dX9_layPairs_6 : decode cX9_layPairs 6 = .ok (.iconst 0, 1) := by decide +kernel
theorem dX9_layPairs_7 : decode cX9_layPairs 7 = .ok (.istore_n 3, 1) := by decide +kernel
theorem dX9_layPairs_8 : decode cX9_layPairs 8 = .ok (.iload_n 3, 1) := by decide +kernel
theorem dX9_layPairs_9 : decode cX9_layPairs 9 = .ok (.iload_n 1, 1) := by decide +kernel
theorem dX9_layPairs_10 : decode cX9_layPairs 10 = .ok (.if_icmp .gt 211, 3) := by decide +kernel
theorem dX9_layPairs_13 : decode cX9_layPairs 13 = .ok (.iconst 0, 1) := by decide +kernel
theorem dX9_layPairs_14 : decode cX9_layPairs 14 = .ok (.istore 4, 2) := by decide +kernel
theorem dX9_layPairs_16 : decode cX9_layPairs 16 = .ok (.iload 4, 2) := by decide +kernel
theorem dX9_layPairs_18 : decode cX9_layPairs 18 = .ok (.iload_n 2, 1) := by decide +kernel
theorem dX9_layPairs_19 : decode cX9_layPairs 19 = .ok (.if_icmp .gt 196, 3) := by decide +kernel
theorem dX9_layPairs_22 : decode cX9_layPairs 22 = .ok (.iload_n 3, 1) := by decide +kernel
theorem dX9_layPairs_23 : decode cX9_layPairs 23 = .ok (.iload 4, 2) := by decide +kernel
theorem dX9_layPairs_25 : decode cX9_layPairs 25 = .ok (.iadd, 1) := by decide +kernel
theorem dX9_layPairs_26 : decode cX9_layPairs 26 = .ok (.ifCond .eq 183, 3) := by decide +kernel
theorem dX9_layPairs_29 : decode cX9_layPairs 29 = .ok (.iload_n 3, 1) := by decide +kernel
theorem dX9_layPairs_30 : decode cX9_layPairs 30 = .ok (.iload 4, 2) := by decide +kernel
theorem dX9_layPairs_32 : decode cX9_layPairs 32 = .ok (.iadd, 1) := by decide +kernel
theorem dX9_layPairs_33 : decode cX9_layPairs 33 = .ok (.iload_n 1, 1) := by decide +kernel
theorem dX9_layPairs_34 : decode cX9_layPairs 34 = .ok (.iload_n 2, 1) := by decide +kernel
theorem dX9_layPairs_35 : decode cX9_layPairs 35 = .ok (.iadd, 1) := by decide +kernel
theorem dX9_layPairs_36 : decode cX9_layPairs 36 = .ok (.if_icmp .ne 6, 3) := by decide +kernel
theorem dX9_layPairs_39 : decode cX9_layPairs 39 = .ok (.goto 170, 3) := by decide +kernel
theorem dX9_layPairs_42 : decode cX9_layPairs 42 = .ok (.iload_n 3, 1) := by decide +kernel
theorem dX9_layPairs_43 : decode cX9_layPairs 43 = .ok (.iload 4, 2) := by decide +kernel
theorem dX9_layPairs_45 : decode cX9_layPairs 45 = .ok (.invokestatic 159, 3) := by decide +kernel
theorem dX9_layPairs_48 : decode cX9_layPairs 48 = .ok (.istore 5, 2) := by decide +kernel
theorem dX9_layPairs_50 : decode cX9_layPairs 50 = .ok (.iload_n 1, 1) := by decide +kernel
theorem dX9_layPairs_51 : decode cX9_layPairs 51 = .ok (.iload_n 3, 1) := by decide +kernel
theorem dX9_layPairs_52 : decode cX9_layPairs 52 = .ok (.isub, 1) := by decide +kernel
theorem dX9_layPairs_53 : decode cX9_layPairs 53 = .ok (.iload_n 2, 1) := by decide +kernel
theorem dX9_layPairs_54 : decode cX9_layPairs 54 = .ok (.iload 4, 2) := by decide +kernel
theorem dX9_layPairs_56 : decode cX9_layPairs 56 = .ok (.isub, 1) := by decide +kernel
theorem dX9_layPairs_57 : decode cX9_layPairs 57 = .ok (.invokestatic 159, 3) := by decide +kernel
theorem dX9_layPairs_60 : decode cX9_layPairs 60 = .ok (.istore 6, 2) := by decide +kernel
theorem dX9_layPairs_62 : decode cX9_layPairs 62 = .ok (.aload_n 0, 1) := by decide +kernel
theorem dX9_layPairs_63 : decode cX9_layPairs 63 = .ok (.iload_n 3, 1) := by decide +kernel
theorem dX9_layPairs_64 : decode cX9_layPairs 64 = .ok (.i2l, 1) := by decide +kernel
theorem dX9_layPairs_65 : decode cX9_layPairs 65 = .ok (.iload 4, 2) := by decide +kernel
theorem dX9_layPairs_67 : decode cX9_layPairs 67 = .ok (.i2l, 1) := by decide +kernel
theorem dX9_layPairs_68 : decode cX9_layPairs 68 = .ok (.iload_n 1, 1) := by decide +kernel
theorem dX9_layPairs_69 : decode cX9_layPairs 69 = .ok (.iload_n 3, 1) := by decide +kernel
theorem dX9_layPairs_70 : decode cX9_layPairs 70 = .ok (.isub, 1) := by decide +kernel
theorem dX9_layPairs_71 : decode cX9_layPairs 71 = .ok (.i2l, 1) := by decide +kernel
theorem dX9_layPairs_72 : decode cX9_layPairs 72 = .ok (.iload_n 2, 1) := by decide +kernel
theorem dX9_layPairs_73 : decode cX9_layPairs 73 = .ok (.iload 4, 2) := by decide +kernel
theorem dX9_layPairs_75 : decode cX9_layPairs 75 = .ok (.isub, 1) := by decide +kernel
theorem dX9_layPairs_76 : decode cX9_layPairs 76 = .ok (.i2l, 1) := by decide +kernel
theorem dX9_layPairs_77 : decode cX9_layPairs 77 = .ok (.invokevirtual 166, 3) := by decide +kernel
theorem dX9_layPairs_80 : decode cX9_layPairs 80 = .ok (.lstore 7, 2) := by decide +kernel
theorem dX9_layPairs_82 : decode cX9_layPairs 82 = .ok (.lload 7, 2) := by decide +kernel
theorem dX9_layPairs_84 : decode cX9_layPairs 84 = .ok (.lconst 0, 1) := by decide +kernel
theorem dX9_layPairs_85 : decode cX9_layPairs 85 = .ok (.lcmp, 1) := by decide +kernel
theorem dX9_layPairs_86 : decode cX9_layPairs 86 = .ok (.ifCond .eq 123, 3) := by decide +kernel
theorem dX9_layPairs_89 : decode cX9_layPairs 89 = .ok (.aload_n 0, 1) := by decide +kernel
theorem dX9_layPairs_90 : decode cX9_layPairs 90 = .ok (.getfield 24, 3) := by decide +kernel
theorem dX9_layPairs_93 : decode cX9_layPairs 93 = .ok (.iload 5, 2) := by decide +kernel
theorem dX9_layPairs_95 : decode cX9_layPairs 95 = .ok (.laload, 1) := by decide +kernel
theorem dX9_layPairs_96 : decode cX9_layPairs 96 = .ok (.lconst 0, 1) := by decide +kernel
theorem dX9_layPairs_97 : decode cX9_layPairs 97 = .ok (.lcmp, 1) := by decide +kernel
theorem dX9_layPairs_98 : decode cX9_layPairs 98 = .ok (.ifCond .eq 111, 3) := by decide +kernel
theorem dX9_layPairs_101 : decode cX9_layPairs 101 = .ok (.aload_n 0, 1) := by decide +kernel
theorem dX9_layPairs_102 : decode cX9_layPairs 102 = .ok (.getfield 24, 3) := by decide +kernel
theorem dX9_layPairs_105 : decode cX9_layPairs 105 = .ok (.iload 6, 2) := by decide +kernel
theorem dX9_layPairs_107 : decode cX9_layPairs 107 = .ok (.laload, 1) := by decide +kernel
theorem dX9_layPairs_108 : decode cX9_layPairs 108 = .ok (.lconst 0, 1) := by decide +kernel
theorem dX9_layPairs_109 : decode cX9_layPairs 109 = .ok (.lcmp, 1) := by decide +kernel
theorem dX9_layPairs_110 : decode cX9_layPairs 110 = .ok (.ifCond .ne 6, 3) := by decide +kernel
theorem dX9_layPairs_113 : decode cX9_layPairs 113 = .ok (.goto 96, 3) := by decide +kernel
theorem dX9_layPairs_116 : decode cX9_layPairs 116 = .ok (.aload_n 0, 1) := by decide +kernel
theorem dX9_layPairs_117 : decode cX9_layPairs 117 = .ok (.getfield 24, 3) := by decide +kernel
theorem dX9_layPairs_120 : decode cX9_layPairs 120 = .ok (.iload 5, 2) := by decide +kernel
theorem dX9_layPairs_122 : decode cX9_layPairs 122 = .ok (.laload, 1) := by decide +kernel
theorem dX9_layPairs_123 : decode cX9_layPairs 123 = .ok (.invokestatic 145, 3) := by decide +kernel
theorem dX9_layPairs_126 : decode cX9_layPairs 126 = .ok (.aload_n 0, 1) := by decide +kernel
theorem dX9_layPairs_127 : decode cX9_layPairs 127 = .ok (.getfield 28, 3) := by decide +kernel
theorem dX9_layPairs_130 : decode cX9_layPairs 130 = .ok (.iload 6, 2) := by decide +kernel
theorem dX9_layPairs_132 : decode cX9_layPairs 132 = .ok (.laload, 1) := by decide +kernel
theorem dX9_layPairs_133 : decode cX9_layPairs 133 = .ok (.invokestatic 141, 3) := by decide +kernel
theorem dX9_layPairs_136 : decode cX9_layPairs 136 = .ok (.lstore 9, 2) := by decide +kernel
theorem dX9_layPairs_138 : decode cX9_layPairs 138 = .ok (.aload_n 0, 1) := by decide +kernel
theorem dX9_layPairs_139 : decode cX9_layPairs 139 = .ok (.getfield 24, 3) := by decide +kernel
theorem dX9_layPairs_142 : decode cX9_layPairs 142 = .ok (.iload 6, 2) := by decide +kernel
theorem dX9_layPairs_144 : decode cX9_layPairs 144 = .ok (.laload, 1) := by decide +kernel
theorem dX9_layPairs_145 : decode cX9_layPairs 145 = .ok (.invokestatic 145, 3) := by decide +kernel
theorem dX9_layPairs_148 : decode cX9_layPairs 148 = .ok (.aload_n 0, 1) := by decide +kernel
theorem dX9_layPairs_149 : decode cX9_layPairs 149 = .ok (.getfield 28, 3) := by decide +kernel
theorem dX9_layPairs_152 : decode cX9_layPairs 152 = .ok (.iload 5, 2) := by decide +kernel
theorem dX9_layPairs_154 : decode cX9_layPairs 154 = .ok (.laload, 1) := by decide +kernel
theorem dX9_layPairs_155 : decode cX9_layPairs 155 = .ok (.invokestatic 141, 3) := by decide +kernel
theorem dX9_layPairs_158 : decode cX9_layPairs 158 = .ok (.lstore 11, 2) := by decide +kernel
theorem dX9_layPairs_160 : decode cX9_layPairs 160 = .ok (.aload_n 0, 1) := by decide +kernel
theorem dX9_layPairs_161 : decode cX9_layPairs 161 = .ok (.lload 7, 2) := by decide +kernel
theorem dX9_layPairs_163 : decode cX9_layPairs 163 = .ok (.aload_n 0, 1) := by decide +kernel
theorem dX9_layPairs_164 : decode cX9_layPairs 164 = .ok (.getfield 24, 3) := by decide +kernel
theorem dX9_layPairs_167 : decode cX9_layPairs 167 = .ok (.iload 5, 2) := by decide +kernel
theorem dX9_layPairs_169 : decode cX9_layPairs 169 = .ok (.laload, 1) := by decide +kernel
theorem dX9_layPairs_170 : decode cX9_layPairs 170 = .ok (.lload 9, 2) := by decide +kernel
theorem dX9_layPairs_172 : decode cX9_layPairs 172 = .ok (.ldiv, 1) := by decide +kernel
theorem dX9_layPairs_173 : decode cX9_layPairs 173 = .ok (.lmul, 1) := by decide +kernel
theorem dX9_layPairs_174 : decode cX9_layPairs 174 = .ok (.aload_n 0, 1) := by decide +kernel
theorem dX9_layPairs_175 : decode cX9_layPairs 175 = .ok (.getfield 24, 3) := by decide +kernel
theorem dX9_layPairs_178 : decode cX9_layPairs 178 = .ok (.iload 6, 2) := by decide +kernel
theorem dX9_layPairs_180 : decode cX9_layPairs 180 = .ok (.laload, 1) := by decide +kernel
theorem dX9_layPairs_181 : decode cX9_layPairs 181 = .ok (.lload 11, 2) := by decide +kernel
theorem dX9_layPairs_183 : decode cX9_layPairs 183 = .ok (.ldiv, 1) := by decide +kernel
theorem dX9_layPairs_184 : decode cX9_layPairs 184 = .ok (.lmul, 1) := by decide +kernel
theorem dX9_layPairs_185 : decode cX9_layPairs 185 = .ok (.aload_n 0, 1) := by decide +kernel
theorem dX9_layPairs_186 : decode cX9_layPairs 186 = .ok (.getfield 28, 3) := by decide +kernel
theorem dX9_layPairs_189 : decode cX9_layPairs 189 = .ok (.iload 5, 2) := by decide +kernel
theorem dX9_layPairs_191 : decode cX9_layPairs 191 = .ok (.laload, 1) := by decide +kernel
theorem dX9_layPairs_192 : decode cX9_layPairs 192 = .ok (.lload 11, 2) := by decide +kernel
theorem dX9_layPairs_194 : decode cX9_layPairs 194 = .ok (.ldiv, 1) := by decide +kernel
theorem dX9_layPairs_195 : decode cX9_layPairs 195 = .ok (.aload_n 0, 1) := by decide +kernel
theorem dX9_layPairs_196 : decode cX9_layPairs 196 = .ok (.getfield 28, 3) := by decide +kernel
theorem dX9_layPairs_199 : decode cX9_layPairs 199 = .ok (.iload 6, 2) := by decide +kernel
theorem dX9_layPairs_201 : decode cX9_layPairs 201 = .ok (.laload, 1) := by decide +kernel
theorem dX9_layPairs_202 : decode cX9_layPairs 202 = .ok (.lload 9, 2) := by decide +kernel
theorem dX9_layPairs_204 : decode cX9_layPairs 204 = .ok (.ldiv, 1) := by decide +kernel
theorem dX9_layPairs_205 : decode cX9_layPairs 205 = .ok (.lmul, 1) := by decide +kernel
theorem dX9_layPairs_206 : decode cX9_layPairs 206 = .ok (.invokevirtual 163, 3) := by decide +kernel
theorem dX9_layPairs_209 : decode cX9_layPairs 209 = .ok (.iinc 4 1, 3) := by decide +kernel
theorem dX9_layPairs_212 : decode cX9_layPairs 212 = .ok (.goto (-196), 3) := by decide +kernel
theorem dX9_layPairs_215 : decode cX9_layPairs 215 = .ok (.iinc 3 1, 3) := by decide +kernel
theorem dX9_layPairs_218 : decode cX9_layPairs 218 = .ok (.goto (-210), 3) := by decide +kernel
theorem dX9_layPairs_221 : decode cX9_layPairs 221 = .ok (.aload_n 0, 1) := by decide +kernel
theorem dX9_layPairs_222 : decode cX9_layPairs 222 = .ok (.aload_n 0, 1) := by decide +kernel
theorem dX9_layPairs_223 : decode cX9_layPairs 223 = .ok (.getfield 148, 3) := by decide +kernel
theorem dX9_layPairs_226 : decode cX9_layPairs 226 = .ok (.aload_n 0, 1) := by decide +kernel
theorem dX9_layPairs_227 : decode cX9_layPairs 227 = .ok (.getfield 152, 3) := by decide +kernel
theorem dX9_layPairs_230 : decode cX9_layPairs 230 = .ok (.aload_n 0, 1) := by decide +kernel
theorem dX9_layPairs_231 : decode cX9_layPairs 231 = .ok (.iload_n 1, 1) := by decide +kernel
theorem dX9_layPairs_232 : decode cX9_layPairs 232 = .ok (.i2l, 1) := by decide +kernel
theorem dX9_layPairs_233 : decode cX9_layPairs 233 = .ok (.iload_n 2, 1) := by decide +kernel
theorem dX9_layPairs_234 : decode cX9_layPairs 234 = .ok (.i2l, 1) := by decide +kernel
theorem dX9_layPairs_235 : decode cX9_layPairs 235 = .ok (.invokevirtual 170, 3) := by decide +kernel
theorem dX9_layPairs_238 : decode cX9_layPairs 238 = .ok (.ldc2_w 108, 3) := by decide +kernel
theorem dX9_layPairs_241 : decode cX9_layPairs 241 = .ok (.aload_n 0, 1) := by decide +kernel
theorem dX9_layPairs_242 : decode cX9_layPairs 242 = .ok (.getfield 15, 3) := by decide +kernel
theorem dX9_layPairs_245 : decode cX9_layPairs 245 = .ok (.i2l, 1) := by decide +kernel
theorem dX9_layPairs_246 : decode cX9_layPairs 246 = .ok (.iload_n 1, 1) := by decide +kernel
theorem dX9_layPairs_247 : decode cX9_layPairs 247 = .ok (.i2l, 1) := by decide +kernel
theorem dX9_layPairs_248 : decode cX9_layPairs 248 = .ok (.lmul, 1) := by decide +kernel
theorem dX9_layPairs_249 : decode cX9_layPairs 249 = .ok (.aload_n 0, 1) := by decide +kernel
theorem dX9_layPairs_250 : decode cX9_layPairs 250 = .ok (.getfield 9, 3) := by decide +kernel
theorem dX9_layPairs_253 : decode cX9_layPairs 253 = .ok (.i2l, 1) := by decide +kernel
theorem dX9_layPairs_254 : decode cX9_layPairs 254 = .ok (.iload_n 2, 1) := by decide +kernel
theorem dX9_layPairs_255 : decode cX9_layPairs 255 = .ok (.i2l, 1) := by decide +kernel
theorem dX9_layPairs_256 : decode cX9_layPairs 256 = .ok (.lmul, 1) := by decide +kernel
theorem dX9_layPairs_257 : decode cX9_layPairs 257 = .ok (.ladd, 1) := by decide +kernel
theorem dX9_layPairs_258 : decode cX9_layPairs 258 = .ok (.lmul, 1) := by decide +kernel
theorem dX9_layPairs_259 : decode cX9_layPairs 259 = .ok (.lsub, 1) := by decide +kernel
theorem dX9_layPairs_260 : decode cX9_layPairs 260 = .ok (.lmul, 1) := by decide +kernel
theorem dX9_layPairs_261 : decode cX9_layPairs 261 = .ok (.invokevirtual 155, 3) := by decide +kernel
theorem dX9_layPairs_264 : decode cX9_layPairs 264 = .ok (.return_, 1) := by decide +kernel
theorem dX9_works_0 : decode cX9_works 0 = .ok (.iload_n 1, 1) := by decide +kernel
theorem dX9_works_1 : decode cX9_works 1 = .ok (.iload_n 2, 1) := by decide +kernel
theorem dX9_works_2 : decode cX9_works 2 = .ok (.invokestatic 159, 3) := by decide +kernel
theorem dX9_works_5 : decode cX9_works 5 = .ok (.istore_n 3, 1) := by decide +kernel
theorem dX9_works_6 : decode cX9_works 6 = .ok (.aload_n 0, 1) := by decide +kernel
theorem dX9_works_7 : decode cX9_works 7 = .ok (.iload_n 1, 1) := by decide +kernel
theorem dX9_works_8 : decode cX9_works 8 = .ok (.iload_n 2, 1) := by decide +kernel
theorem dX9_works_9 : decode cX9_works 9 = .ok (.invokevirtual 173, 3) := by decide +kernel
theorem dX9_works_12 : decode cX9_works 12 = .ok (.istore 4, 2) := by decide +kernel
theorem dX9_works_14 : decode cX9_works 14 = .ok (.iload 4, 2) := by decide +kernel
theorem dX9_works_16 : decode cX9_works 16 = .ok (.iconst 1, 1) := by decide +kernel
theorem dX9_works_17 : decode cX9_works 17 = .ok (.if_icmp .ne 12, 3) := by decide +kernel
theorem dX9_works_20 : decode cX9_works 20 = .ok (.aload_n 0, 1) := by decide +kernel
theorem dX9_works_21 : decode cX9_works 21 = .ok (.lconst 1, 1) := by decide +kernel
theorem dX9_works_22 : decode cX9_works 22 = .ok (.lconst 1, 1) := by decide +kernel
theorem dX9_works_23 : decode cX9_works 23 = .ok (.invokevirtual 155, 3) := by decide +kernel
theorem dX9_works_26 : decode cX9_works 26 = .ok (.goto 23, 3) := by decide +kernel
theorem dX9_works_29 : decode cX9_works 29 = .ok (.iload 4, 2) := by decide +kernel
theorem dX9_works_31 : decode cX9_works 31 = .ok (.ifCond .ne 12, 3) := by decide +kernel
theorem dX9_works_34 : decode cX9_works 34 = .ok (.aload_n 0, 1) := by decide +kernel
theorem dX9_works_35 : decode cX9_works 35 = .ok (.iload_n 1, 1) := by decide +kernel
theorem dX9_works_36 : decode cX9_works 36 = .ok (.iload_n 2, 1) := by decide +kernel
theorem dX9_works_37 : decode cX9_works 37 = .ok (.invokevirtual 176, 3) := by decide +kernel
theorem dX9_works_40 : decode cX9_works 40 = .ok (.goto 9, 3) := by decide +kernel
theorem dX9_works_43 : decode cX9_works 43 = .ok (.aload_n 0, 1) := by decide +kernel
theorem dX9_works_44 : decode cX9_works 44 = .ok (.iload_n 1, 1) := by decide +kernel
theorem dX9_works_45 : decode cX9_works 45 = .ok (.iload_n 2, 1) := by decide +kernel
theorem dX9_works_46 : decode cX9_works 46 = .ok (.invokevirtual 179, 3) := by decide +kernel
theorem dX9_works_49 : decode cX9_works 49 = .ok (.aload_n 0, 1) := by decide +kernel
theorem dX9_works_50 : decode cX9_works 50 = .ok (.getfield 24, 3) := by decide +kernel
theorem dX9_works_53 : decode cX9_works 53 = .ok (.iload_n 3, 1) := by decide +kernel
theorem dX9_works_54 : decode cX9_works 54 = .ok (.aload_n 0, 1) := by decide +kernel
theorem dX9_works_55 : decode cX9_works 55 = .ok (.getfield 148, 3) := by decide +kernel
theorem dX9_works_58 : decode cX9_works 58 = .ok (.lastore, 1) := by decide +kernel
theorem dX9_works_59 : decode cX9_works 59 = .ok (.aload_n 0, 1) := by decide +kernel
theorem dX9_works_60 : decode cX9_works 60 = .ok (.getfield 28, 3) := by decide +kernel
theorem dX9_works_63 : decode cX9_works 63 = .ok (.iload_n 3, 1) := by decide +kernel
theorem dX9_works_64 : decode cX9_works 64 = .ok (.aload_n 0, 1) := by decide +kernel
theorem dX9_works_65 : decode cX9_works 65 = .ok (.getfield 152, 3) := by decide +kernel
theorem dX9_works_68 : decode cX9_works 68 = .ok (.lastore, 1) := by decide +kernel
theorem dX9_works_69 : decode cX9_works 69 = .ok (.aload_n 0, 1) := by decide +kernel
theorem dX9_works_70 : decode cX9_works 70 = .ok (.getfield 31, 3) := by decide +kernel
theorem dX9_works_73 : decode cX9_works 73 = .ok (.iload_n 3, 1) := by decide +kernel
theorem dX9_works_74 : decode cX9_works 74 = .ok (.iload 4, 2) := by decide +kernel
theorem dX9_works_76 : decode cX9_works 76 = .ok (.iconst 1, 1) := by decide +kernel
theorem dX9_works_77 : decode cX9_works 77 = .ok (.if_icmp .ne 7, 3) := by decide +kernel
theorem dX9_works_80 : decode cX9_works 80 = .ok (.iconst 1, 1) := by decide +kernel
theorem dX9_works_81 : decode cX9_works 81 = .ok (.goto 4, 3) := by decide +kernel
theorem dX9_works_84 : decode cX9_works 84 = .ok (.iconst 0, 1) := by decide +kernel
theorem dX9_works_85 : decode cX9_works 85 = .ok (.iastore, 1) := by decide +kernel
theorem dX9_works_86 : decode cX9_works 86 = .ok (.iload 4, 2) := by decide +kernel
theorem dX9_works_88 : decode cX9_works 88 = .ok (.iconst 2, 1) := by decide +kernel
theorem dX9_works_89 : decode cX9_works 89 = .ok (.if_icmp .eq 4, 3) := by decide +kernel
theorem dX9_works_92 : decode cX9_works 92 = .ok (.return_, 1) := by decide +kernel
theorem dX9_works_93 : decode cX9_works 93 = .ok (.iconst 2, 1) := by decide +kernel
theorem dX9_works_94 : decode cX9_works 94 = .ok (.istore 5, 2) := by decide +kernel
theorem dX9_works_96 : decode cX9_works 96 = .ok (.iload 5, 2) := by decide +kernel
theorem dX9_works_98 : decode cX9_works 98 = .ok (.bipush 12, 2) := by decide +kernel
theorem dX9_works_100 : decode cX9_works 100 = .ok (.if_icmp .gt 48, 3) := by decide +kernel
theorem dX9_works_103 : decode cX9_works 103 = .ok (.iload_n 1, 1) := by decide +kernel
theorem dX9_works_104 : decode cX9_works 104 = .ok (.iload 5, 2) := by decide +kernel
theorem dX9_works_106 : decode cX9_works 106 = .ok (.irem, 1) := by decide +kernel
theorem dX9_works_107 : decode cX9_works 107 = .ok (.ifCond .ne 35, 3) := by decide +kernel
theorem dX9_works_110 : decode cX9_works 110 = .ok (.iload_n 2, 1) := by decide +kernel
theorem dX9_works_111 : decode cX9_works 111 = .ok (.iload 5, 2) := by decide +kernel
theorem dX9_works_113 : decode cX9_works 113 = .ok (.irem, 1) := by decide +kernel
theorem dX9_works_114 : decode cX9_works 114 = .ok (.ifCond .ne 28, 3) := by decide +kernel
theorem dX9_works_117 : decode cX9_works 117 = .ok (.aload_n 0, 1) := by decide +kernel
theorem dX9_works_118 : decode cX9_works 118 = .ok (.aload_n 0, 1) := by decide +kernel
theorem dX9_works_119 : decode cX9_works 119 = .ok (.getfield 31, 3) := by decide +kernel
theorem dX9_works_122 : decode cX9_works 122 = .ok (.iload_n 1, 1) := by decide +kernel
theorem dX9_works_123 : decode cX9_works 123 = .ok (.iload 5, 2) := by decide +kernel
theorem dX9_works_125 : decode cX9_works 125 = .ok (.idiv, 1) := by decide +kernel
theorem dX9_works_126 : decode cX9_works 126 = .ok (.iload_n 2, 1) := by decide +kernel
theorem dX9_works_127 : decode cX9_works 127 = .ok (.iload 5, 2) := by decide +kernel
theorem dX9_works_129 : decode cX9_works 129 = .ok (.idiv, 1) := by decide +kernel
theorem dX9_works_130 : decode cX9_works 130 = .ok (.invokestatic 159, 3) := by decide +kernel
theorem dX9_works_133 : decode cX9_works 133 = .ok (.iaload, 1) := by decide +kernel
theorem dX9_works_134 : decode cX9_works 134 = .ok (.ineg, 1) := by decide +kernel
theorem dX9_works_135 : decode cX9_works 135 = .ok (.i2l, 1) := by decide +kernel
theorem dX9_works_136 : decode cX9_works 136 = .ok (.iload 5, 2) := by decide +kernel
theorem dX9_works_138 : decode cX9_works 138 = .ok (.i2l, 1) := by decide +kernel
theorem dX9_works_139 : decode cX9_works 139 = .ok (.invokevirtual 163, 3) := by decide +kernel
theorem dX9_works_142 : decode cX9_works 142 = .ok (.iinc 5 1, 3) := by decide +kernel
theorem dX9_works_145 : decode cX9_works 145 = .ok (.goto (-49), 3) := by decide +kernel
theorem dX9_works_148 : decode cX9_works 148 = .ok (.aload_n 0, 1) := by decide +kernel
theorem dX9_works_149 : decode cX9_works 149 = .ok (.getfield 31, 3) := by decide +kernel
theorem dX9_works_152 : decode cX9_works 152 = .ok (.iload_n 3, 1) := by decide +kernel
theorem dX9_works_153 : decode cX9_works 153 = .ok (.aload_n 0, 1) := by decide +kernel
theorem dX9_works_154 : decode cX9_works 154 = .ok (.getfield 148, 3) := by decide +kernel
theorem dX9_works_157 : decode cX9_works 157 = .ok (.aload_n 0, 1) := by decide +kernel
theorem dX9_works_158 : decode cX9_works 158 = .ok (.getfield 152, 3) := by decide +kernel
theorem dX9_works_161 : decode cX9_works 161 = .ok (.ldiv, 1) := by decide +kernel
theorem dX9_works_162 : decode cX9_works 162 = .ok (.l2i, 1) := by decide +kernel
theorem dX9_works_163 : decode cX9_works 163 = .ok (.iastore, 1) := by decide +kernel
theorem dX9_works_164 : decode cX9_works 164 = .ok (.return_, 1) := by decide +kernel
theorem dX9_layCounts_0 : decode cX9_layCounts 0 = .ok (.aload_n 0, 1) := by decide +kernel
theorem dX9_layCounts_1 : decode cX9_layCounts 1 = .ok (.getfield 182, 3) := by decide +kernel
theorem dX9_layCounts_4 : decode cX9_layCounts 4 = .ok (.aload_n 0, 1) := by decide +kernel
theorem dX9_layCounts_5 : decode cX9_layCounts 5 = .ok (.getfield 9, 3) := by decide +kernel
theorem dX9_layCounts_8 : decode cX9_layCounts 8 = .ok (.if_icmp .ne 15, 3) := by decide +kernel
theorem dX9_layCounts_11 : decode cX9_layCounts 11 = .ok (.aload_n 0, 1) := by decide +kernel
theorem dX9_layCounts_12 : decode cX9_layCounts 12 = .ok (.getfield 185, 3) := by decide +kernel
theorem dX9_layCounts_15 : decode cX9_layCounts 15 = .ok (.aload_n 0, 1) := by decide +kernel
theorem dX9_layCounts_16 : decode cX9_layCounts 16 = .ok (.getfield 15, 3) := by decide +kernel
theorem dX9_layCounts_19 : decode cX9_layCounts 19 = .ok (.if_icmp .ne 4, 3) := by decide +kernel
theorem dX9_layCounts_22 : decode cX9_layCounts 22 = .ok (.return_, 1) := by decide +kernel
theorem dX9_layCounts_23 : decode cX9_layCounts 23 = .ok (.aload_n 0, 1) := by decide +kernel
theorem dX9_layCounts_24 : decode cX9_layCounts 24 = .ok (.aload_n 0, 1) := by decide +kernel
theorem dX9_layCounts_25 : decode cX9_layCounts 25 = .ok (.getfield 9, 3) := by decide +kernel
theorem dX9_layCounts_28 : decode cX9_layCounts 28 = .ok (.putfield 182, 3) := by decide +kernel
theorem dX9_layCounts_31 : decode cX9_layCounts 31 = .ok (.aload_n 0, 1) := by decide +kernel
theorem dX9_layCounts_32 : decode cX9_layCounts 32 = .ok (.aload_n 0, 1) := by decide +kernel
theorem dX9_layCounts_33 : decode cX9_layCounts 33 = .ok (.getfield 15, 3) := by decide +kernel
theorem dX9_layCounts_36 : decode cX9_layCounts 36 = .ok (.putfield 185, 3) := by decide +kernel
theorem dX9_layCounts_39 : decode cX9_layCounts 39 = .ok (.iconst 1, 1) := by decide +kernel
theorem dX9_layCounts_40 : decode cX9_layCounts 40 = .ok (.istore_n 1, 1) := by decide +kernel
theorem dX9_layCounts_41 : decode cX9_layCounts 41 = .ok (.iload_n 1, 1) := by decide +kernel
theorem dX9_layCounts_42 : decode cX9_layCounts 42 = .ok (.bipush 12, 2) := by decide +kernel
theorem dX9_layCounts_44 : decode cX9_layCounts 44 = .ok (.if_icmp .gt 30, 3) := by decide +kernel
theorem dX9_layCounts_47 : decode cX9_layCounts 47 = .ok (.iconst 0, 1) := by decide +kernel
theorem dX9_layCounts_48 : decode cX9_layCounts 48 = .ok (.istore_n 2, 1) := by decide +kernel
theorem dX9_layCounts_49 : decode cX9_layCounts 49 = .ok (.iload_n 2, 1) := by decide +kernel
theorem dX9_layCounts_50 : decode cX9_layCounts 50 = .ok (.iload_n 1, 1) := by decide +kernel
theorem dX9_layCounts_51 : decode cX9_layCounts 51 = .ok (.if_icmp .gt 17, 3) := by decide +kernel
theorem dX9_layCounts_54 : decode cX9_layCounts 54 = .ok (.aload_n 0, 1) := by decide +kernel
theorem dX9_layCounts_55 : decode cX9_layCounts 55 = .ok (.iload_n 2, 1) := by decide +kernel
theorem dX9_layCounts_56 : decode cX9_layCounts 56 = .ok (.iload_n 1, 1) := by decide +kernel
theorem dX9_layCounts_57 : decode cX9_layCounts 57 = .ok (.iload_n 2, 1) := by decide +kernel
theorem dX9_layCounts_58 : decode cX9_layCounts 58 = .ok (.isub, 1) := by decide +kernel
theorem dX9_layCounts_59 : decode cX9_layCounts 59 = .ok (.invokevirtual 188, 3) := by decide +kernel
theorem dX9_layCounts_62 : decode cX9_layCounts 62 = .ok (.iinc 2 1, 3) := by decide +kernel
theorem dX9_layCounts_65 : decode cX9_layCounts 65 = .ok (.goto (-16), 3) := by decide +kernel
theorem dX9_layCounts_68 : decode cX9_layCounts 68 = .ok (.iinc 1 1, 3) := by decide +kernel
theorem dX9_layCounts_71 : decode cX9_layCounts 71 = .ok (.goto (-30), 3) := by decide +kernel
theorem dX9_layCounts_74 : decode cX9_layCounts 74 = .ok (.return_, 1) := by decide +kernel
theorem dX9_countOf_0 : decode cX9_countOf 0 = .ok (.aload_n 0, 1) := by decide +kernel
theorem dX9_countOf_1 : decode cX9_countOf 1 = .ok (.invokevirtual 191, 3) := by decide +kernel
theorem dX9_countOf_4 : decode cX9_countOf 4 = .ok (.aload_n 0, 1) := by decide +kernel
theorem dX9_countOf_5 : decode cX9_countOf 5 = .ok (.getfield 31, 3) := by decide +kernel
theorem dX9_countOf_8 : decode cX9_countOf 8 = .ok (.iload_n 1, 1) := by decide +kernel
theorem dX9_countOf_9 : decode cX9_countOf 9 = .ok (.iload_n 2, 1) := by decide +kernel
theorem dX9_countOf_10 : decode cX9_countOf 10 = .ok (.invokestatic 159, 3) := by decide +kernel
theorem dX9_countOf_13 : decode cX9_countOf 13 = .ok (.iaload, 1) := by decide +kernel
theorem dX9_countOf_14 : decode cX9_countOf 14 = .ok (.ireturn, 1) := by decide +kernel
theorem dX9_isLow_0 : decode cX9_isLow 0 = .ok (.iload_n 0, 1) := by decide +kernel
theorem dX9_isLow_1 : decode cX9_isLow 1 = .ok (.i2l, 1) := by decide +kernel
theorem dX9_isLow_2 : decode cX9_isLow 2 = .ok (.lconst 0, 1) := by decide +kernel
theorem dX9_isLow_3 : decode cX9_isLow 3 = .ok (.ldc2_w 194, 3) := by decide +kernel
theorem dX9_isLow_6 : decode cX9_isLow 6 = .ok (.invokestatic 104, 3) := by decide +kernel
theorem dX9_isLow_9 : decode cX9_isLow 9 = .ok (.ifCond .eq 34, 3) := by decide +kernel
theorem dX9_isLow_12 : decode cX9_isLow 12 = .ok (.iload_n 1, 1) := by decide +kernel
theorem dX9_isLow_13 : decode cX9_isLow 13 = .ok (.i2l, 1) := by decide +kernel
theorem dX9_isLow_14 : decode cX9_isLow 14 = .ok (.lconst 0, 1) := by decide +kernel
theorem dX9_isLow_15 : decode cX9_isLow 15 = .ok (.ldc2_w 194, 3) := by decide +kernel
theorem dX9_isLow_18 : decode cX9_isLow 18 = .ok (.invokestatic 104, 3) := by decide +kernel
theorem dX9_isLow_21 : decode cX9_isLow 21 = .ok (.ifCond .eq 22, 3) := by decide +kernel
theorem dX9_isLow_24 : decode cX9_isLow 24 = .ok (.iload_n 0, 1) := by decide +kernel
theorem dX9_isLow_25 : decode cX9_isLow 25 = .ok (.iload_n 1, 1) := by decide +kernel
theorem dX9_isLow_26 : decode cX9_isLow 26 = .ok (.iadd, 1) := by decide +kernel
theorem dX9_isLow_27 : decode cX9_isLow 27 = .ok (.i2l, 1) := by decide +kernel
theorem dX9_isLow_28 : decode cX9_isLow 28 = .ok (.iload_n 2, 1) := by decide +kernel
theorem dX9_isLow_29 : decode cX9_isLow 29 = .ok (.i2l, 1) := by decide +kernel
theorem dX9_isLow_30 : decode cX9_isLow 30 = .ok (.ldc2_w 194, 3) := by decide +kernel
theorem dX9_isLow_33 : decode cX9_isLow 33 = .ok (.invokestatic 104, 3) := by decide +kernel
theorem dX9_isLow_36 : decode cX9_isLow 36 = .ok (.ifCond .eq 7, 3) := by decide +kernel
theorem dX9_isLow_39 : decode cX9_isLow 39 = .ok (.iconst 1, 1) := by decide +kernel
theorem dX9_isLow_40 : decode cX9_isLow 40 = .ok (.goto 4, 3) := by decide +kernel
theorem dX9_isLow_43 : decode cX9_isLow 43 = .ok (.iconst 0, 1) := by decide +kernel
theorem dX9_isLow_44 : decode cX9_isLow 44 = .ok (.ireturn, 1) := by decide +kernel
theorem dX9_told_0 : decode cX9_told 0 = .ok (.bipush 10, 2) := by decide +kernel
theorem dX9_told_2 : decode cX9_told 2 = .ok (.aload_n 0, 1) := by decide +kernel
theorem dX9_told_3 : decode cX9_told 3 = .ok (.getfield 9, 3) := by decide +kernel
theorem dX9_told_6 : decode cX9_told 6 = .ok (.imul, 1) := by decide +kernel
theorem dX9_told_7 : decode cX9_told 7 = .ok (.aload_n 0, 1) := by decide +kernel
theorem dX9_told_8 : decode cX9_told 8 = .ok (.getfield 15, 3) := by decide +kernel
theorem dX9_told_11 : decode cX9_told 11 = .ok (.iadd, 1) := by decide +kernel
theorem dX9_told_12 : decode cX9_told 12 = .ok (.ireturn, 1) := by decide +kernel
theorem dX9_table_0 : decode cX9_table 0 = .ok (.iload_n 1, 1) := by decide +kernel
theorem dX9_table_1 : decode cX9_table 1 = .ok (.i2l, 1) := by decide +kernel
theorem dX9_table_2 : decode cX9_table 2 = .ok (.lconst 1, 1) := by decide +kernel
theorem dX9_table_3 : decode cX9_table 3 = .ok (.ldc2_w 196, 3) := by decide +kernel
theorem dX9_table_6 : decode cX9_table 6 = .ok (.invokestatic 104, 3) := by decide +kernel
theorem dX9_table_9 : decode cX9_table 9 = .ok (.ifCond .eq 15, 3) := by decide +kernel
theorem dX9_table_12 : decode cX9_table 12 = .ok (.iload_n 2, 1) := by decide +kernel
theorem dX9_table_13 : decode cX9_table 13 = .ok (.i2l, 1) := by decide +kernel
theorem dX9_table_14 : decode cX9_table 14 = .ok (.lconst 1, 1) := by decide +kernel
theorem dX9_table_15 : decode cX9_table 15 = .ok (.ldc2_w 196, 3) := by decide +kernel
theorem dX9_table_18 : decode cX9_table 18 = .ok (.invokestatic 104, 3) := by decide +kernel
theorem dX9_table_21 : decode cX9_table 21 = .ok (.ifCond .ne 6, 3) := by decide +kernel
theorem dX9_table_24 : decode cX9_table 24 = .ok (.bipush (-2), 2) := by decide +kernel
theorem dX9_table_26 : decode cX9_table 26 = .ok (.ireturn, 1) := by decide +kernel
theorem dX9_table_27 : decode cX9_table 27 = .ok (.aload_n 0, 1) := by decide +kernel
theorem dX9_table_28 : decode cX9_table 28 = .ok (.invokevirtual 198, 3) := by decide +kernel
theorem dX9_table_31 : decode cX9_table 31 = .ok (.istore_n 3, 1) := by decide +kernel
theorem dX9_table_32 : decode cX9_table 32 = .ok (.aload_n 0, 1) := by decide +kernel
theorem dX9_table_33 : decode cX9_table 33 = .ok (.iload_n 1, 1) := by decide +kernel
theorem dX9_table_34 : decode cX9_table 34 = .ok (.putfield 9, 3) := by decide +kernel
theorem dX9_table_37 : decode cX9_table 37 = .ok (.aload_n 0, 1) := by decide +kernel
theorem dX9_table_38 : decode cX9_table 38 = .ok (.iload_n 2, 1) := by decide +kernel
theorem dX9_table_39 : decode cX9_table 39 = .ok (.putfield 15, 3) := by decide +kernel
theorem dX9_table_42 : decode cX9_table 42 = .ok (.iload_n 3, 1) := by decide +kernel
theorem dX9_table_43 : decode cX9_table 43 = .ok (.ireturn, 1) := by decide +kernel
theorem dX9_place_0 : decode cX9_place 0 = .ok (.iload_n 1, 1) := by decide +kernel
theorem dX9_place_1 : decode cX9_place 1 = .ok (.i2l, 1) := by decide +kernel
theorem dX9_place_2 : decode cX9_place 2 = .ok (.iload_n 2, 1) := by decide +kernel
theorem dX9_place_3 : decode cX9_place 3 = .ok (.i2l, 1) := by decide +kernel
theorem dX9_place_4 : decode cX9_place 4 = .ok (.invokestatic 202, 3) := by decide +kernel
theorem dX9_place_7 : decode cX9_place 7 = .ok (.ifCond .ne 6, 3) := by decide +kernel
theorem dX9_place_10 : decode cX9_place 10 = .ok (.bipush (-2), 2) := by decide +kernel
theorem dX9_place_12 : decode cX9_place 12 = .ok (.ireturn, 1) := by decide +kernel
theorem dX9_place_13 : decode cX9_place 13 = .ok (.aload_n 0, 1) := by decide +kernel
theorem dX9_place_14 : decode cX9_place 14 = .ok (.iload_n 1, 1) := by decide +kernel
theorem dX9_place_15 : decode cX9_place 15 = .ok (.putfield 18, 3) := by decide +kernel
theorem dX9_place_18 : decode cX9_place 18 = .ok (.aload_n 0, 1) := by decide +kernel
theorem dX9_place_19 : decode cX9_place 19 = .ok (.iload_n 2, 1) := by decide +kernel
theorem dX9_place_20 : decode cX9_place 20 = .ok (.putfield 21, 3) := by decide +kernel
theorem dX9_place_23 : decode cX9_place 23 = .ok (.aload_n 0, 1) := by decide +kernel
theorem dX9_place_24 : decode cX9_place 24 = .ok (.iload_n 1, 1) := by decide +kernel
theorem dX9_place_25 : decode cX9_place 25 = .ok (.iload_n 2, 1) := by decide +kernel
theorem dX9_place_26 : decode cX9_place 26 = .ok (.invokevirtual 173, 3) := by decide +kernel
theorem dX9_place_29 : decode cX9_place 29 = .ok (.ireturn, 1) := by decide +kernel
theorem dX9_carries_0 : decode cX9_carries 0 = .ok (.iload_n 1, 1) := by decide +kernel
theorem dX9_carries_1 : decode cX9_carries 1 = .ok (.ifCond .ne 20, 3) := by decide +kernel
theorem dX9_carries_4 : decode cX9_carries 4 = .ok (.aload_n 0, 1) := by decide +kernel
theorem dX9_carries_5 : decode cX9_carries 5 = .ok (.getfield 9, 3) := by decide +kernel
theorem dX9_carries_8 : decode cX9_carries 8 = .ok (.aload_n 0, 1) := by decide +kernel
theorem dX9_carries_9 : decode cX9_carries 9 = .ok (.getfield 21, 3) := by decide +kernel
theorem dX9_carries_12 : decode cX9_carries 12 = .ok (.imul, 1) := by decide +kernel
theorem dX9_carries_13 : decode cX9_carries 13 = .ok (.aload_n 0, 1) := by decide +kernel
theorem dX9_carries_14 : decode cX9_carries 14 = .ok (.getfield 18, 3) := by decide +kernel
theorem dX9_carries_17 : decode cX9_carries 17 = .ok (.isub, 1) := by decide +kernel
theorem dX9_carries_18 : decode cX9_carries 18 = .ok (.goto 7, 3) := by decide +kernel
theorem dX9_carries_21 : decode cX9_carries 21 = .ok (.aload_n 0, 1) := by decide +kernel
theorem dX9_carries_22 : decode cX9_carries 22 = .ok (.getfield 18, 3) := by decide +kernel
theorem dX9_carries_25 : decode cX9_carries 25 = .ok (.istore_n 2, 1) := by decide +kernel
theorem dX9_carries_26 : decode cX9_carries 26 = .ok (.iload_n 1, 1) := by decide +kernel
theorem dX9_carries_27 : decode cX9_carries 27 = .ok (.ifCond .ne 10, 3) := by decide +kernel
theorem dX9_carries_30 : decode cX9_carries 30 = .ok (.aload_n 0, 1) := by decide +kernel
theorem dX9_carries_31 : decode cX9_carries 31 = .ok (.getfield 21, 3) := by decide +kernel
theorem dX9_carries_34 : decode cX9_carries 34 = .ok (.goto 17, 3) := by decide +kernel
theorem dX9_carries_37 : decode cX9_carries 37 = .ok (.aload_n 0, 1) := by decide +kernel
theorem dX9_carries_38 : decode cX9_carries 38 = .ok (.getfield 15, 3) := by decide +kernel
theorem dX9_carries_41 : decode cX9_carries 41 = .ok (.aload_n 0, 1) := by decide +kernel
theorem dX9_carries_42 : decode cX9_carries 42 = .ok (.getfield 18, 3) := by decide +kernel
theorem dX9_carries_45 : decode cX9_carries 45 = .ok (.imul, 1) := by decide +kernel
theorem dX9_carries_46 : decode cX9_carries 46 = .ok (.aload_n 0, 1) := by decide +kernel
theorem dX9_carries_47 : decode cX9_carries 47 = .ok (.getfield 21, 3) := by decide +kernel
theorem dX9_carries_50 : decode cX9_carries 50 = .ok (.isub, 1) := by decide +kernel
theorem dX9_carries_51 : decode cX9_carries 51 = .ok (.istore_n 3, 1) := by decide +kernel
theorem dX9_carries_52 : decode cX9_carries 52 = .ok (.iload_n 2, 1) := by decide +kernel
theorem dX9_carries_53 : decode cX9_carries 53 = .ok (.i2l, 1) := by decide +kernel
theorem dX9_carries_54 : decode cX9_carries 54 = .ok (.iload_n 3, 1) := by decide +kernel
theorem dX9_carries_55 : decode cX9_carries 55 = .ok (.i2l, 1) := by decide +kernel
theorem dX9_carries_56 : decode cX9_carries 56 = .ok (.invokestatic 202, 3) := by decide +kernel
theorem dX9_carries_59 : decode cX9_carries 59 = .ok (.ifCond .ne 5, 3) := by decide +kernel
theorem dX9_carries_62 : decode cX9_carries 62 = .ok (.iconst 0, 1) := by decide +kernel
theorem dX9_carries_63 : decode cX9_carries 63 = .ok (.ireturn, 1) := by decide +kernel
theorem dX9_carries_64 : decode cX9_carries 64 = .ok (.aload_n 0, 1) := by decide +kernel
theorem dX9_carries_65 : decode cX9_carries 65 = .ok (.iload_n 2, 1) := by decide +kernel
theorem dX9_carries_66 : decode cX9_carries 66 = .ok (.putfield 18, 3) := by decide +kernel
theorem dX9_carries_69 : decode cX9_carries 69 = .ok (.aload_n 0, 1) := by decide +kernel
theorem dX9_carries_70 : decode cX9_carries 70 = .ok (.iload_n 3, 1) := by decide +kernel
theorem dX9_carries_71 : decode cX9_carries 71 = .ok (.putfield 21, 3) := by decide +kernel
theorem dX9_carries_74 : decode cX9_carries 74 = .ok (.iconst 1, 1) := by decide +kernel
theorem dX9_carries_75 : decode cX9_carries 75 = .ok (.ireturn, 1) := by decide +kernel
theorem dX9_carry_0 : decode cX9_carry 0 = .ok (.iload_n 1, 1) := by decide +kernel
theorem dX9_carry_1 : decode cX9_carry 1 = .ok (.invokestatic 206, 3) := by decide +kernel
theorem dX9_carry_4 : decode cX9_carry 4 = .ok (.ifCond .ne 5, 3) := by decide +kernel
theorem dX9_carry_7 : decode cX9_carry 7 = .ok (.iconst (-1), 1) := by decide +kernel
theorem dX9_carry_8 : decode cX9_carry 8 = .ok (.ireturn, 1) := by decide +kernel
theorem dX9_carry_9 : decode cX9_carry 9 = .ok (.aload_n 0, 1) := by decide +kernel
theorem dX9_carry_10 : decode cX9_carry 10 = .ok (.iload_n 1, 1) := by decide +kernel
theorem dX9_carry_11 : decode cX9_carry 11 = .ok (.invokevirtual 210, 3) := by decide +kernel
theorem dX9_carry_14 : decode cX9_carry 14 = .ok (.ifCond .eq 19, 3) := by decide +kernel
theorem dX9_carry_17 : decode cX9_carry 17 = .ok (.sipush 5000, 3) := by decide +kernel
theorem dX9_carry_20 : decode cX9_carry 20 = .ok (.aload_n 0, 1) := by decide +kernel
theorem dX9_carry_21 : decode cX9_carry 21 = .ok (.getfield 18, 3) := by decide +kernel
theorem dX9_carry_24 : decode cX9_carry 24 = .ok (.iadd, 1) := by decide +kernel
theorem dX9_carry_25 : decode cX9_carry 25 = .ok (.aload_n 0, 1) := by decide +kernel
theorem dX9_carry_26 : decode cX9_carry 26 = .ok (.getfield 21, 3) := by decide +kernel
theorem dX9_carry_29 : decode cX9_carry 29 = .ok (.iadd, 1) := by decide +kernel
theorem dX9_carry_30 : decode cX9_carry 30 = .ok (.goto 5, 3) := by decide +kernel
theorem dX9_carry_33 : decode cX9_carry 33 = .ok (.bipush (-3), 2) := by decide +kernel
theorem dX9_carry_35 : decode cX9_carry 35 = .ok (.ireturn, 1) := by decide +kernel
theorem dX9_note_0 : decode cX9_note 0 = .ok (.iconst 0, 1) := by decide +kernel
theorem dX9_note_1 : decode cX9_note 1 = .ok (.istore_n 1, 1) := by decide +kernel
theorem dX9_note_2 : decode cX9_note 2 = .ok (.iload_n 1, 1) := by decide +kernel
theorem dX9_note_3 : decode cX9_note 3 = .ok (.aload_n 0, 1) := by decide +kernel
theorem dX9_note_4 : decode cX9_note 4 = .ok (.getfield 213, 3) := by decide +kernel
theorem dX9_note_7 : decode cX9_note 7 = .ok (.if_icmp .ge 38, 3) := by decide +kernel
theorem dX9_note_10 : decode cX9_note 10 = .ok (.aload_n 0, 1) := by decide +kernel
theorem dX9_note_11 : decode cX9_note 11 = .ok (.getfield 35, 3) := by decide +kernel
theorem dX9_note_14 : decode cX9_note 14 = .ok (.iload_n 1, 1) := by decide +kernel
theorem dX9_note_15 : decode cX9_note 15 = .ok (.iaload, 1) := by decide +kernel
theorem dX9_note_16 : decode cX9_note 16 = .ok (.aload_n 0, 1) := by decide +kernel
theorem dX9_note_17 : decode cX9_note 17 = .ok (.getfield 18, 3) := by decide +kernel
theorem dX9_note_20 : decode cX9_note 20 = .ok (.if_icmp .ne 19, 3) := by decide +kernel
theorem dX9_note_23 : decode cX9_note 23 = .ok (.aload_n 0, 1) := by decide +kernel
theorem dX9_note_24 : decode cX9_note 24 = .ok (.getfield 38, 3) := by decide +kernel
theorem dX9_note_27 : decode cX9_note 27 = .ok (.iload_n 1, 1) := by decide +kernel
theorem dX9_note_28 : decode cX9_note 28 = .ok (.iaload, 1) := by decide +kernel
theorem dX9_note_29 : decode cX9_note 29 = .ok (.aload_n 0, 1) := by decide +kernel
theorem dX9_note_30 : decode cX9_note 30 = .ok (.getfield 21, 3) := by decide +kernel
theorem dX9_note_33 : decode cX9_note 33 = .ok (.if_icmp .ne 6, 3) := by decide +kernel
theorem dX9_note_36 : decode cX9_note 36 = .ok (.bipush (-3), 2) := by decide +kernel
theorem dX9_note_38 : decode cX9_note 38 = .ok (.ireturn, 1) := by decide +kernel
theorem dX9_note_39 : decode cX9_note 39 = .ok (.iinc 1 1, 3) := by decide +kernel
theorem dX9_note_42 : decode cX9_note 42 = .ok (.goto (-40), 3) := by decide +kernel
theorem dX9_note_45 : decode cX9_note 45 = .ok (.aload_n 0, 1) := by decide +kernel
theorem dX9_note_46 : decode cX9_note 46 = .ok (.getfield 213, 3) := by decide +kernel
theorem dX9_note_49 : decode cX9_note 49 = .ok (.bipush 8, 2) := by decide +kernel
theorem dX9_note_51 : decode cX9_note 51 = .ok (.if_icmp .ne 6, 3) := by decide +kernel
theorem dX9_note_54 : decode cX9_note 54 = .ok (.bipush (-4), 2) := by decide +kernel
theorem dX9_note_56 : decode cX9_note 56 = .ok (.ireturn, 1) := by decide +kernel
theorem dX9_note_57 : decode cX9_note 57 = .ok (.aload_n 0, 1) := by decide +kernel
theorem dX9_note_58 : decode cX9_note 58 = .ok (.getfield 35, 3) := by decide +kernel
theorem dX9_note_61 : decode cX9_note 61 = .ok (.aload_n 0, 1) := by decide +kernel
theorem dX9_note_62 : decode cX9_note 62 = .ok (.getfield 213, 3) := by decide +kernel
theorem dX9_note_65 : decode cX9_note 65 = .ok (.aload_n 0, 1) := by decide +kernel
theorem dX9_note_66 : decode cX9_note 66 = .ok (.getfield 18, 3) := by decide +kernel
theorem dX9_note_69 : decode cX9_note 69 = .ok (.iastore, 1) := by decide +kernel
theorem dX9_note_70 : decode cX9_note 70 = .ok (.aload_n 0, 1) := by decide +kernel
theorem dX9_note_71 : decode cX9_note 71 = .ok (.getfield 38, 3) := by decide +kernel
theorem dX9_note_74 : decode cX9_note 74 = .ok (.aload_n 0, 1) := by decide +kernel
theorem dX9_note_75 : decode cX9_note 75 = .ok (.getfield 213, 3) := by decide +kernel
theorem dX9_note_78 : decode cX9_note 78 = .ok (.aload_n 0, 1) := by decide +kernel
theorem dX9_note_79 : decode cX9_note 79 = .ok (.getfield 21, 3) := by decide +kernel
theorem dX9_note_82 : decode cX9_note 82 = .ok (.iastore, 1) := by decide +kernel
theorem dX9_note_83 : decode cX9_note 83 = .ok (.aload_n 0, 1) := by decide +kernel
theorem dX9_note_84 : decode cX9_note 84 = .ok (.dup, 1) := by decide +kernel
theorem dX9_note_85 : decode cX9_note 85 = .ok (.getfield 213, 3) := by decide +kernel
theorem dX9_note_88 : decode cX9_note 88 = .ok (.iconst 1, 1) := by decide +kernel
theorem dX9_note_89 : decode cX9_note 89 = .ok (.iadd, 1) := by decide +kernel
theorem dX9_note_90 : decode cX9_note 90 = .ok (.putfield 213, 3) := by decide +kernel
theorem dX9_note_93 : decode cX9_note 93 = .ok (.aload_n 0, 1) := by decide +kernel
theorem dX9_note_94 : decode cX9_note 94 = .ok (.getfield 213, 3) := by decide +kernel
theorem dX9_note_97 : decode cX9_note 97 = .ok (.ireturn, 1) := by decide +kernel
theorem dX9_wipe_0 : decode cX9_wipe 0 = .ok (.aload_n 0, 1) := by decide +kernel
theorem dX9_wipe_1 : decode cX9_wipe 1 = .ok (.getfield 213, 3) := by decide +kernel
theorem dX9_wipe_4 : decode cX9_wipe 4 = .ok (.istore_n 1, 1) := by decide +kernel
theorem dX9_wipe_5 : decode cX9_wipe 5 = .ok (.aload_n 0, 1) := by decide +kernel
theorem dX9_wipe_6 : decode cX9_wipe 6 = .ok (.iconst 0, 1) := by decide +kernel
theorem dX9_wipe_7 : decode cX9_wipe 7 = .ok (.putfield 213, 3) := by decide +kernel
theorem dX9_wipe_10 : decode cX9_wipe 10 = .ok (.iload_n 1, 1) := by decide +kernel
theorem dX9_wipe_11 : decode cX9_wipe 11 = .ok (.ireturn, 1) := by decide +kernel
theorem dX9_feed_0 : decode cX9_feed 0 = .ok (.iload_n 1, 1) := by decide +kernel
theorem dX9_feed_1 : decode cX9_feed 1 = .ok (.i2l, 1) := by decide +kernel
theorem dX9_feed_2 : decode cX9_feed 2 = .ok (.lconst 0, 1) := by decide +kernel
theorem dX9_feed_3 : decode cX9_feed 3 = .ok (.ldc2_w 216, 3) := by decide +kernel
theorem dX9_feed_6 : decode cX9_feed 6 = .ok (.invokestatic 104, 3) := by decide +kernel
theorem dX9_feed_9 : decode cX9_feed 9 = .ok (.ifCond .ne 6, 3) := by decide +kernel
theorem dX9_feed_12 : decode cX9_feed 12 = .ok (.bipush (-2), 2) := by decide +kernel
theorem dX9_feed_14 : decode cX9_feed 14 = .ok (.ireturn, 1) := by decide +kernel
theorem dX9_feed_15 : decode cX9_feed 15 = .ok (.aload_n 0, 1) := by decide +kernel
theorem dX9_feed_16 : decode cX9_feed 16 = .ok (.getfield 218, 3) := by decide +kernel
theorem dX9_feed_19 : decode cX9_feed 19 = .ok (.bipush 100, 2) := by decide +kernel
theorem dX9_feed_21 : decode cX9_feed 21 = .ok (.if_icmp .ne 6, 3) := by decide +kernel
theorem dX9_feed_24 : decode cX9_feed 24 = .ok (.bipush (-4), 2) := by decide +kernel
theorem dX9_feed_26 : decode cX9_feed 26 = .ok (.ireturn, 1) := by decide +kernel
theorem dX9_feed_27 : decode cX9_feed 27 = .ok (.aload_n 0, 1) := by decide +kernel
theorem dX9_feed_28 : decode cX9_feed 28 = .ok (.getfield 41, 3) := by decide +kernel
theorem dX9_feed_31 : decode cX9_feed 31 = .ok (.aload_n 0, 1) := by decide +kernel
theorem dX9_feed_32 : decode cX9_feed 32 = .ok (.getfield 218, 3) := by decide +kernel
theorem dX9_feed_35 : decode cX9_feed 35 = .ok (.iload_n 1, 1) := by decide +kernel
theorem dX9_feed_36 : decode cX9_feed 36 = .ok (.i2b, 1) := by decide +kernel
theorem dX9_feed_37 : decode cX9_feed 37 = .ok (.bastore, 1) := by decide +kernel
theorem dX9_feed_38 : decode cX9_feed 38 = .ok (.aload_n 0, 1) := by decide +kernel
theorem dX9_feed_39 : decode cX9_feed 39 = .ok (.dup, 1) := by decide +kernel
theorem dX9_feed_40 : decode cX9_feed 40 = .ok (.getfield 218, 3) := by decide +kernel
theorem dX9_feed_43 : decode cX9_feed 43 = .ok (.iconst 1, 1) := by decide +kernel
theorem dX9_feed_44 : decode cX9_feed 44 = .ok (.iadd, 1) := by decide +kernel
theorem dX9_feed_45 : decode cX9_feed 45 = .ok (.putfield 218, 3) := by decide +kernel
theorem dX9_feed_48 : decode cX9_feed 48 = .ok (.aload_n 0, 1) := by decide +kernel
theorem dX9_feed_49 : decode cX9_feed 49 = .ok (.getfield 218, 3) := by decide +kernel
theorem dX9_feed_52 : decode cX9_feed 52 = .ok (.ireturn, 1) := by decide +kernel
theorem dX9_wordOf_0 : decode cX9_wordOf 0 = .ok (.iload_n 0, 1) := by decide +kernel
theorem dX9_wordOf_1 : decode cX9_wordOf 1 = .ok (.tableswitch 43 0 3 #[31, 34, 37, 40], 31) := by decide +kernel
theorem dX9_wordOf_32 : decode cX9_wordOf 32 = .ok (.ldc 221, 2) := by decide +kernel
theorem dX9_wordOf_34 : decode cX9_wordOf 34 = .ok (.areturn, 1) := by decide +kernel
theorem dX9_wordOf_35 : decode cX9_wordOf 35 = .ok (.ldc 223, 2) := by decide +kernel
theorem dX9_wordOf_37 : decode cX9_wordOf 37 = .ok (.areturn, 1) := by decide +kernel
theorem dX9_wordOf_38 : decode cX9_wordOf 38 = .ok (.ldc 224, 2) := by decide +kernel
theorem dX9_wordOf_40 : decode cX9_wordOf 40 = .ok (.areturn, 1) := by decide +kernel
theorem dX9_wordOf_41 : decode cX9_wordOf 41 = .ok (.ldc 226, 2) := by decide +kernel
theorem dX9_wordOf_43 : decode cX9_wordOf 43 = .ok (.areturn, 1) := by decide +kernel
theorem dX9_wordOf_44 : decode cX9_wordOf 44 = .ok (.ldc 228, 2) := by decide +kernel
theorem dX9_wordOf_46 : decode cX9_wordOf 46 = .ok (.areturn, 1) := by decide +kernel
theorem dX9_isAt_0 : decode cX9_isAt 0 = .ok (.aload_n 0, 1) := by decide +kernel
theorem dX9_isAt_1 : decode cX9_isAt 1 = .ok (.getfield 230, 3) := by decide +kernel
theorem dX9_isAt_4 : decode cX9_isAt 4 = .ok (.aload_n 0, 1) := by decide +kernel
theorem dX9_isAt_5 : decode cX9_isAt 5 = .ok (.getfield 218, 3) := by decide +kernel
theorem dX9_isAt_8 : decode cX9_isAt 8 = .ok (.if_icmp .ge 27, 3) := by decide +kernel
theorem dX9_isAt_11 : decode cX9_isAt 11 = .ok (.aload_n 0, 1) := by decide +kernel
theorem dX9_isAt_12 : decode cX9_isAt 12 = .ok (.getfield 41, 3) := by decide +kernel
theorem dX9_isAt_15 : decode cX9_isAt 15 = .ok (.aload_n 0, 1) := by decide +kernel
theorem dX9_isAt_16 : decode cX9_isAt 16 = .ok (.getfield 230, 3) := by decide +kernel
theorem dX9_isAt_19 : decode cX9_isAt 19 = .ok (.baload, 1) := by decide +kernel
theorem dX9_isAt_20 : decode cX9_isAt 20 = .ok (.i2l, 1) := by decide +kernel
theorem dX9_isAt_21 : decode cX9_isAt 21 = .ok (.iload_n 1, 1) := by decide +kernel
theorem dX9_isAt_22 : decode cX9_isAt 22 = .ok (.i2l, 1) := by decide +kernel
theorem dX9_isAt_23 : decode cX9_isAt 23 = .ok (.iload_n 2, 1) := by decide +kernel
theorem dX9_isAt_24 : decode cX9_isAt 24 = .ok (.i2l, 1) := by decide +kernel
theorem dX9_isAt_25 : decode cX9_isAt 25 = .ok (.invokestatic 104, 3) := by decide +kernel
theorem dX9_isAt_28 : decode cX9_isAt 28 = .ok (.ifCond .eq 7, 3) := by decide +kernel
theorem dX9_isAt_31 : decode cX9_isAt 31 = .ok (.iconst 1, 1) := by decide +kernel
theorem dX9_isAt_32 : decode cX9_isAt 32 = .ok (.goto 4, 3) := by decide +kernel
theorem dX9_isAt_35 : decode cX9_isAt 35 = .ok (.iconst 0, 1) := by decide +kernel
theorem dX9_isAt_36 : decode cX9_isAt 36 = .ok (.ireturn, 1) := by decide +kernel
theorem dX9_begun_0 : decode cX9_begun 0 = .ok (.iload_n 1, 1) := by decide +kernel
theorem dX9_begun_1 : decode cX9_begun 1 = .ok (.invokestatic 232, 3) := by decide +kernel
theorem dX9_begun_4 : decode cX9_begun 4 = .ok (.astore_n 2, 1) := by decide +kernel
theorem dX9_begun_5 : decode cX9_begun 5 = .ok (.iconst 0, 1) := by decide +kernel
theorem dX9_begun_6 : decode cX9_begun 6 = .ok (.istore_n 3, 1) := by decide +kernel
theorem dX9_begun_7 : decode cX9_begun 7 = .ok (.iload_n 3, 1) := by decide +kernel
theorem dX9_begun_8 : decode cX9_begun 8 = .ok (.aload_n 2, 1) := by decide +kernel
theorem dX9_begun_9 : decode cX9_begun 9 = .ok (.invokevirtual 236, 3) := by decide +kernel
theorem dX9_begun_12 : decode cX9_begun 12 = .ok (.if_icmp .ge 41, 3) := by decide +kernel
theorem dX9_begun_15 : decode cX9_begun 15 = .ok (.aload_n 0, 1) := by decide +kernel
theorem dX9_begun_16 : decode cX9_begun 16 = .ok (.getfield 230, 3) := by decide +kernel
theorem dX9_begun_19 : decode cX9_begun 19 = .ok (.iload_n 3, 1) := by decide +kernel
theorem dX9_begun_20 : decode cX9_begun 20 = .ok (.iadd, 1) := by decide +kernel
theorem dX9_begun_21 : decode cX9_begun 21 = .ok (.aload_n 0, 1) := by decide +kernel
theorem dX9_begun_22 : decode cX9_begun 22 = .ok (.getfield 218, 3) := by decide +kernel
theorem dX9_begun_25 : decode cX9_begun 25 = .ok (.if_icmp .ge 28, 3) := by decide +kernel
theorem dX9_begun_28 : decode cX9_begun 28 = .ok (.aload_n 0, 1) := by decide +kernel
theorem dX9_begun_29 : decode cX9_begun 29 = .ok (.getfield 41, 3) := by decide +kernel
theorem dX9_begun_32 : decode cX9_begun 32 = .ok (.aload_n 0, 1) := by decide +kernel
theorem dX9_begun_33 : decode cX9_begun 33 = .ok (.getfield 230, 3) := by decide +kernel
theorem dX9_begun_36 : decode cX9_begun 36 = .ok (.iload_n 3, 1) := by decide +kernel
theorem dX9_begun_37 : decode cX9_begun 37 = .ok (.iadd, 1) := by decide +kernel
theorem dX9_begun_38 : decode cX9_begun 38 = .ok (.baload, 1) := by decide +kernel
theorem dX9_begun_39 : decode cX9_begun 39 = .ok (.aload_n 2, 1) := by decide +kernel
theorem dX9_begun_40 : decode cX9_begun 40 = .ok (.iload_n 3, 1) := by decide +kernel
theorem dX9_begun_41 : decode cX9_begun 41 = .ok (.invokevirtual 241, 3) := by decide +kernel
theorem dX9_begun_44 : decode cX9_begun 44 = .ok (.if_icmp .ne 9, 3) := by decide +kernel
theorem dX9_begun_47 : decode cX9_begun 47 = .ok (.iinc 3 1, 3) := by decide +kernel
theorem dX9_begun_50 : decode cX9_begun 50 = .ok (.goto (-43), 3) := by decide +kernel
theorem dX9_begun_53 : decode cX9_begun 53 = .ok (.iload_n 3, 1) := by decide +kernel
theorem dX9_begun_54 : decode cX9_begun 54 = .ok (.ireturn, 1) := by decide +kernel
theorem dX9_takesWord_0 : decode cX9_takesWord 0 = .ok (.iconst 0, 1) := by decide +kernel
theorem dX9_takesWord_1 : decode cX9_takesWord 1 = .ok (.istore_n 1, 1) := by decide +kernel
theorem dX9_takesWord_2 : decode cX9_takesWord 2 = .ok (.iconst 1, 1) := by decide +kernel
theorem dX9_takesWord_3 : decode cX9_takesWord 3 = .ok (.istore_n 2, 1) := by decide +kernel
theorem dX9_takesWord_4 : decode cX9_takesWord 4 = .ok (.iload_n 2, 1) := by decide +kernel
theorem dX9_takesWord_5 : decode cX9_takesWord 5 = .ok (.iconst 5, 1) := by decide +kernel
theorem dX9_takesWord_6 : decode cX9_takesWord 6 = .ok (.if_icmp .ge 24, 3) := by decide +kernel
theorem dX9_takesWord_9 : decode cX9_takesWord 9 = .ok (.aload_n 0, 1) := by decide +kernel
theorem dX9_takesWord_10 : decode cX9_takesWord 10 = .ok (.iload_n 2, 1) := by decide +kernel
theorem dX9_takesWord_11 : decode cX9_takesWord 11 = .ok (.invokevirtual 245, 3) := by decide +kernel
theorem dX9_takesWord_14 : decode cX9_takesWord 14 = .ok (.aload_n 0, 1) := by decide +kernel
theorem dX9_takesWord_15 : decode cX9_takesWord 15 = .ok (.iload_n 1, 1) := by decide +kernel
theorem dX9_takesWord_16 : decode cX9_takesWord 16 = .ok (.invokevirtual 245, 3) := by decide +kernel
theorem dX9_takesWord_19 : decode cX9_takesWord 19 = .ok (.if_icmp .le 5, 3) := by decide +kernel
theorem dX9_takesWord_22 : decode cX9_takesWord 22 = .ok (.iload_n 2, 1) := by decide +kernel
theorem dX9_takesWord_23 : decode cX9_takesWord 23 = .ok (.istore_n 1, 1) := by decide +kernel
theorem dX9_takesWord_24 : decode cX9_takesWord 24 = .ok (.iinc 2 1, 3) := by decide +kernel
theorem dX9_takesWord_27 : decode cX9_takesWord 27 = .ok (.goto (-23), 3) := by decide +kernel
theorem dX9_takesWord_30 : decode cX9_takesWord 30 = .ok (.aload_n 0, 1) := by decide +kernel
theorem dX9_takesWord_31 : decode cX9_takesWord 31 = .ok (.getfield 45, 3) := by decide +kernel
theorem dX9_takesWord_34 : decode cX9_takesWord 34 = .ok (.aload_n 0, 1) := by decide +kernel
theorem dX9_takesWord_35 : decode cX9_takesWord 35 = .ok (.getfield 248, 3) := by decide +kernel
theorem dX9_takesWord_38 : decode cX9_takesWord 38 = .ok (.iload_n 1, 1) := by decide +kernel
theorem dX9_takesWord_39 : decode cX9_takesWord 39 = .ok (.iastore, 1) := by decide +kernel
theorem dX9_takesWord_40 : decode cX9_takesWord 40 = .ok (.aload_n 0, 1) := by decide +kernel
theorem dX9_takesWord_41 : decode cX9_takesWord 41 = .ok (.iload_n 1, 1) := by decide +kernel
theorem dX9_takesWord_42 : decode cX9_takesWord 42 = .ok (.invokevirtual 245, 3) := by decide +kernel
theorem dX9_takesWord_45 : decode cX9_takesWord 45 = .ok (.istore_n 2, 1) := by decide +kernel
theorem dX9_takesWord_46 : decode cX9_takesWord 46 = .ok (.aload_n 0, 1) := by decide +kernel
theorem dX9_takesWord_47 : decode cX9_takesWord 47 = .ok (.dup, 1) := by decide +kernel
theorem dX9_takesWord_48 : decode cX9_takesWord 48 = .ok (.getfield 230, 3) := by decide +kernel
theorem dX9_takesWord_51 : decode cX9_takesWord 51 = .ok (.iload_n 2, 1) := by decide +kernel
theorem dX9_takesWord_52 : decode cX9_takesWord 52 = .ok (.iadd, 1) := by decide +kernel
theorem dX9_takesWord_53 : decode cX9_takesWord 53 = .ok (.putfield 230, 3) := by decide +kernel
theorem dX9_takesWord_56 : decode cX9_takesWord 56 = .ok (.iload_n 2, 1) := by decide +kernel
theorem dX9_takesWord_57 : decode cX9_takesWord 57 = .ok (.iload_n 1, 1) := by decide +kernel
theorem dX9_takesWord_58 : decode cX9_takesWord 58 = .ok (.invokestatic 232, 3) := by decide +kernel
theorem dX9_takesWord_61 : decode cX9_takesWord 61 = .ok (.invokevirtual 236, 3) := by decide +kernel
theorem dX9_takesWord_64 : decode cX9_takesWord 64 = .ok (.if_icmp .ne 7, 3) := by decide +kernel
theorem dX9_takesWord_67 : decode cX9_takesWord 67 = .ok (.iconst 1, 1) := by decide +kernel
theorem dX9_takesWord_68 : decode cX9_takesWord 68 = .ok (.goto 4, 3) := by decide +kernel
theorem dX9_takesWord_71 : decode cX9_takesWord 71 = .ok (.iconst 0, 1) := by decide +kernel
theorem dX9_takesWord_72 : decode cX9_takesWord 72 = .ok (.ireturn, 1) := by decide +kernel
theorem dX9_takesBlank_0 : decode cX9_takesBlank 0 = .ok (.aload_n 0, 1) := by decide +kernel
theorem dX9_takesBlank_1 : decode cX9_takesBlank 1 = .ok (.bipush 32, 2) := by decide +kernel
theorem dX9_takesBlank_3 : decode cX9_takesBlank 3 = .ok (.bipush 32, 2) := by decide +kernel
theorem dX9_takesBlank_5 : decode cX9_takesBlank 5 = .ok (.invokevirtual 251, 3) := by decide +kernel
theorem dX9_takesBlank_8 : decode cX9_takesBlank 8 = .ok (.ifCond .ne 5, 3) := by decide +kernel
theorem dX9_takesBlank_11 : decode cX9_takesBlank 11 = .ok (.iconst 0, 1) := by decide +kernel
theorem dX9_takesBlank_12 : decode cX9_takesBlank 12 = .ok (.ireturn, 1) := by decide +kernel
theorem dX9_takesBlank_13 : decode cX9_takesBlank 13 = .ok (.aload_n 0, 1) := by decide +kernel
theorem dX9_takesBlank_14 : decode cX9_takesBlank 14 = .ok (.dup, 1) := by decide +kernel
theorem dX9_takesBlank_15 : decode cX9_takesBlank 15 = .ok (.getfield 230, 3) := by decide +kernel
theorem dX9_takesBlank_18 : decode cX9_takesBlank 18 = .ok (.iconst 1, 1) := by decide +kernel
theorem dX9_takesBlank_19 : decode cX9_takesBlank 19 = .ok (.iadd, 1) := by decide +kernel
theorem dX9_takesBlank_20 : decode cX9_takesBlank 20 = .ok (.putfield 230, 3) := by decide +kernel
theorem dX9_takesBlank_23 : decode cX9_takesBlank 23 = .ok (.iconst 1, 1) := by decide +kernel
theorem dX9_takesBlank_24 : decode cX9_takesBlank 24 = .ok (.ireturn, 1) := by decide +kernel
theorem dX9_takesDigits_0 : decode cX9_takesDigits 0 = .ok (.aload_n 0, 1) := by decide +kernel
theorem dX9_takesDigits_1 : decode cX9_takesDigits 1 = .ok (.bipush 48, 2) := by decide +kernel
theorem dX9_takesDigits_3 : decode cX9_takesDigits 3 = .ok (.bipush 57, 2) := by decide +kernel
theorem dX9_takesDigits_5 : decode cX9_takesDigits 5 = .ok (.invokevirtual 251, 3) := by decide +kernel
theorem dX9_takesDigits_8 : decode cX9_takesDigits 8 = .ok (.ifCond .ne 5, 3) := by decide +kernel
theorem dX9_takesDigits_11 : decode cX9_takesDigits 11 = .ok (.iconst 0, 1) := by decide +kernel
theorem dX9_takesDigits_12 : decode cX9_takesDigits 12 = .ok (.ireturn, 1) := by decide +kernel
theorem dX9_takesDigits_13 : decode cX9_takesDigits 13 = .ok (.aload_n 0, 1) := by decide +kernel
theorem dX9_takesDigits_14 : decode cX9_takesDigits 14 = .ok (.iconst 0, 1) := by decide +kernel
theorem dX9_takesDigits_15 : decode cX9_takesDigits 15 = .ok (.putfield 255, 3) := by decide +kernel
theorem dX9_takesDigits_18 : decode cX9_takesDigits 18 = .ok (.iconst 0, 1) := by decide +kernel
theorem dX9_takesDigits_19 : decode cX9_takesDigits 19 = .ok (.istore_n 2, 1) := by decide +kernel
theorem dX9_takesDigits_20 : decode cX9_takesDigits 20 = .ok (.iload_n 2, 1) := by decide +kernel
theorem dX9_takesDigits_21 : decode cX9_takesDigits 21 = .ok (.iload_n 1, 1) := by decide +kernel
theorem dX9_takesDigits_22 : decode cX9_takesDigits 22 = .ok (.if_icmp .ge 54, 3) := by decide +kernel
theorem dX9_takesDigits_25 : decode cX9_takesDigits 25 = .ok (.aload_n 0, 1) := by decide +kernel
theorem dX9_takesDigits_26 : decode cX9_takesDigits 26 = .ok (.bipush 48, 2) := by decide +kernel
theorem dX9_takesDigits_28 : decode cX9_takesDigits 28 = .ok (.bipush 57, 2) := by decide +kernel
theorem dX9_takesDigits_30 : decode cX9_takesDigits 30 = .ok (.invokevirtual 251, 3) := by decide +kernel
theorem dX9_takesDigits_33 : decode cX9_takesDigits 33 = .ok (.ifCond .eq 43, 3) := by decide +kernel
