theorem dX7_itemAt_2 : decode cX7_itemAt 2 = .ok (.iload_n 2, 1) := by decide +kernel
theorem dX7_itemAt_3 : decode cX7_itemAt 3 = .ok (.iconst 1, 1) := by decide +kernel
theorem dX7_itemAt_4 : decode cX7_itemAt 4 = .ok (.invokevirtual 34, 3) := by decide +kernel
theorem dX7_itemAt_7 : decode cX7_itemAt 7 = .ok (.ifCond .eq 17, 3) := by decide +kernel
theorem dX7_itemAt_10 : decode cX7_itemAt 10 = .ok (.aload_n 0, 1) := by decide +kernel
theorem dX7_itemAt_11 : decode cX7_itemAt 11 = .ok (.getfield 18, 3) := by decide +kernel
theorem dX7_itemAt_14 : decode cX7_itemAt 14 = .ok (.bipush 60, 2) := by decide +kernel
theorem dX7_itemAt_16 : decode cX7_itemAt 16 = .ok (.iload_n 1, 1) := by decide +kernel
theorem dX7_itemAt_17 : decode cX7_itemAt 17 = .ok (.imul, 1) := by decide +kernel
theorem dX7_itemAt_18 : decode cX7_itemAt 18 = .ok (.iload_n 2, 1) := by decide +kernel
theorem dX7_itemAt_19 : decode cX7_itemAt 19 = .ok (.iadd, 1) := by decide +kernel
theorem dX7_itemAt_20 : decode cX7_itemAt 20 = .ok (.laload, 1) := by decide +kernel
theorem dX7_itemAt_21 : decode cX7_itemAt 21 = .ok (.goto 4, 3) := by decide +kernel
theorem dX7_itemAt_24 : decode cX7_itemAt 24 = .ok (.lconst 0, 1) := by decide +kernel
theorem dX7_itemAt_25 : decode cX7_itemAt 25 = .ok (.lreturn, 1) := by decide +kernel
theorem dX7_setItem_0 : decode cX7_setItem 0 = .ok (.aload_n 0, 1) := by decide +kernel
theorem dX7_setItem_1 : decode cX7_setItem 1 = .ok (.iload_n 1, 1) := by decide +kernel
theorem dX7_setItem_2 : decode cX7_setItem 2 = .ok (.iload_n 2, 1) := by decide +kernel
theorem dX7_setItem_3 : decode cX7_setItem 3 = .ok (.iconst 1, 1) := by decide +kernel
theorem dX7_setItem_4 : decode cX7_setItem 4 = .ok (.invokevirtual 34, 3) := by decide +kernel
theorem dX7_setItem_7 : decode cX7_setItem 7 = .ok (.ifCond .eq 24, 3) := by decide +kernel
theorem dX7_setItem_10 : decode cX7_setItem 10 = .ok (.aload_n 0, 1) := by decide +kernel
theorem dX7_setItem_11 : decode cX7_setItem 11 = .ok (.getfield 18, 3) := by decide +kernel
theorem dX7_setItem_14 : decode cX7_setItem 14 = .ok (.bipush 60, 2) := by decide +kernel
theorem dX7_setItem_16 : decode cX7_setItem 16 = .ok (.iload_n 1, 1) := by decide +kernel
theorem dX7_setItem_17 : decode cX7_setItem 17 = .ok (.imul, 1) := by decide +kernel
theorem dX7_setItem_18 : decode cX7_setItem 18 = .ok (.iload_n 2, 1) := by decide +kernel
theorem dX7_setItem_19 : decode cX7_setItem 19 = .ok (.iadd, 1) := by decide +kernel
theorem dX7_setItem_20 : decode cX7_setItem 20 = .ok (.aload_n 0, 1) := by decide +kernel
theorem dX7_setItem_21 : decode cX7_setItem 21 = .ok (.getfield 11, 3) := by decide +kernel
theorem dX7_setItem_24 : decode cX7_setItem 24 = .ok (.iload_n 1, 1) := by decide +kernel
theorem dX7_setItem_25 : decode cX7_setItem 25 = .ok (.iaload, 1) := by decide +kernel
theorem dX7_setItem_26 : decode cX7_setItem 26 = .ok (.lload_n 3, 1) := by decide +kernel
theorem dX7_setItem_27 : decode cX7_setItem 27 = .ok (.invokestatic 37, 3) := by decide +kernel
theorem dX7_setItem_30 : decode cX7_setItem 30 = .ok (.lastore, 1) := by decide +kernel
theorem dX7_setItem_31 : decode cX7_setItem 31 = .ok (.return_, 1) := by decide +kernel
theorem dX7_cutTo_0 : decode cX7_cutTo 0 = .ok (.iload_n 0, 1) := by decide +kernel
theorem dX7_cutTo_1 : decode cX7_cutTo 1 = .ok (.tableswitch 47 0 3 #[31, 36, 41, 45], 31) := by decide +kernel
theorem dX7_cutTo_32 : decode cX7_cutTo 32 = .ok (.lload_n 1, 1) := by decide +kernel
theorem dX7_cutTo_33 : decode cX7_cutTo 33 = .ok (.l2i, 1) := by decide +kernel
theorem dX7_cutTo_34 : decode cX7_cutTo 34 = .ok (.i2b, 1) := by decide +kernel
theorem dX7_cutTo_35 : decode cX7_cutTo 35 = .ok (.i2l, 1) := by decide +kernel
theorem dX7_cutTo_36 : decode cX7_cutTo 36 = .ok (.lreturn, 1) := by decide +kernel
theorem dX7_cutTo_37 : decode cX7_cutTo 37 = .ok (.lload_n 1, 1) := by decide +kernel
theorem dX7_cutTo_38 : decode cX7_cutTo 38 = .ok (.l2i, 1) := by decide +kernel
theorem dX7_cutTo_39 : decode cX7_cutTo 39 = .ok (.i2s, 1) := by decide +kernel
theorem dX7_cutTo_40 : decode cX7_cutTo 40 = .ok (.i2l, 1) := by decide +kernel
theorem dX7_cutTo_41 : decode cX7_cutTo 41 = .ok (.lreturn, 1) := by decide +kernel
theorem dX7_cutTo_42 : decode cX7_cutTo 42 = .ok (.lload_n 1, 1) := by decide +kernel
theorem dX7_cutTo_43 : decode cX7_cutTo 43 = .ok (.l2i, 1) := by decide +kernel
theorem dX7_cutTo_44 : decode cX7_cutTo 44 = .ok (.i2l, 1) := by decide +kernel
theorem dX7_cutTo_45 : decode cX7_cutTo 45 = .ok (.lreturn, 1) := by decide +kernel
theorem dX7_cutTo_46 : decode cX7_cutTo 46 = .ok (.lload_n 1, 1) := by decide +kernel
theorem dX7_cutTo_47 : decode cX7_cutTo 47 = .ok (.lreturn, 1) := by decide +kernel
theorem dX7_cutTo_48 : decode cX7_cutTo 48 = .ok (.lload_n 1, 1) := by decide +kernel
theorem dX7_cutTo_49 : decode cX7_cutTo 49 = .ok (.lconst 0, 1) := by decide +kernel
theorem dX7_cutTo_50 : decode cX7_cutTo 50 = .ok (.lcmp, 1) := by decide +kernel
theorem dX7_cutTo_51 : decode cX7_cutTo 51 = .ok (.ifCond .eq 7, 3) := by decide +kernel
theorem dX7_cutTo_54 : decode cX7_cutTo 54 = .ok (.lconst 1, 1) := by decide +kernel
theorem dX7_cutTo_55 : decode cX7_cutTo 55 = .ok (.goto 4, 3) := by decide +kernel
theorem dX7_cutTo_58 : decode cX7_cutTo 58 = .ok (.lconst 0, 1) := by decide +kernel
theorem dX7_cutTo_59 : decode cX7_cutTo 59 = .ok (.lreturn, 1) := by decide +kernel
theorem dX7_copyRun_0 : decode cX7_copyRun 0 = .ok (.aload_n 0, 1) := by decide +kernel
theorem dX7_copyRun_1 : decode cX7_copyRun 1 = .ok (.iload_n 1, 1) := by decide +kernel
theorem dX7_copyRun_2 : decode cX7_copyRun 2 = .ok (.iload_n 2, 1) := by decide +kernel
theorem dX7_copyRun_3 : decode cX7_copyRun 3 = .ok (.iload 5, 2) := by decide +kernel
theorem dX7_copyRun_5 : decode cX7_copyRun 5 = .ok (.invokevirtual 34, 3) := by decide +kernel
theorem dX7_copyRun_8 : decode cX7_copyRun 8 = .ok (.ifCond .eq 41, 3) := by decide +kernel
theorem dX7_copyRun_11 : decode cX7_copyRun 11 = .ok (.aload_n 0, 1) := by decide +kernel
theorem dX7_copyRun_12 : decode cX7_copyRun 12 = .ok (.iload_n 3, 1) := by decide +kernel
theorem dX7_copyRun_13 : decode cX7_copyRun 13 = .ok (.iload 4, 2) := by decide +kernel
theorem dX7_copyRun_15 : decode cX7_copyRun 15 = .ok (.iload 5, 2) := by decide +kernel
theorem dX7_copyRun_17 : decode cX7_copyRun 17 = .ok (.invokevirtual 34, 3) := by decide +kernel
theorem dX7_copyRun_20 : decode cX7_copyRun 20 = .ok (.ifCond .eq 29, 3) := by decide +kernel
theorem dX7_copyRun_23 : decode cX7_copyRun 23 = .ok (.aload_n 0, 1) := by decide +kernel
theorem dX7_copyRun_24 : decode cX7_copyRun 24 = .ok (.getfield 18, 3) := by decide +kernel
theorem dX7_copyRun_27 : decode cX7_copyRun 27 = .ok (.bipush 60, 2) := by decide +kernel
theorem dX7_copyRun_29 : decode cX7_copyRun 29 = .ok (.iload_n 1, 1) := by decide +kernel
theorem dX7_copyRun_30 : decode cX7_copyRun 30 = .ok (.imul, 1) := by decide +kernel
theorem dX7_copyRun_31 : decode cX7_copyRun 31 = .ok (.iload_n 2, 1) := by decide +kernel
theorem dX7_copyRun_32 : decode cX7_copyRun 32 = .ok (.iadd, 1) := by decide +kernel
theorem dX7_copyRun_33 : decode cX7_copyRun 33 = .ok (.aload_n 0, 1) := by decide +kernel
theorem dX7_copyRun_34 : decode cX7_copyRun 34 = .ok (.getfield 18, 3) := by decide +kernel
theorem dX7_copyRun_37 : decode cX7_copyRun 37 = .ok (.bipush 60, 2) := by decide +kernel
theorem dX7_copyRun_39 : decode cX7_copyRun 39 = .ok (.iload_n 3, 1) := by decide +kernel
theorem dX7_copyRun_40 : decode cX7_copyRun 40 = .ok (.imul, 1) := by decide +kernel
theorem dX7_copyRun_41 : decode cX7_copyRun 41 = .ok (.iload 4, 2) := by decide +kernel
theorem dX7_copyRun_43 : decode cX7_copyRun 43 = .ok (.iadd, 1) := by decide +kernel
theorem dX7_copyRun_44 : decode cX7_copyRun 44 = .ok (.iload 5, 2) := by decide +kernel
theorem dX7_copyRun_46 : decode cX7_copyRun 46 = .ok (.invokestatic 41, 3) := by decide +kernel
theorem dX7_copyRun_49 : decode cX7_copyRun 49 = .ok (.return_, 1) := by decide +kernel
theorem dX8_init_0 : decode cX8_init 0 = .ok (.aload_n 0, 1) := by decide +kernel
theorem dX8_init_1 : decode cX8_init 1 = .ok (.invokespecial 5, 3) := by decide +kernel
theorem dX8_init_4 : decode cX8_init 4 = .ok (.aload_n 0, 1) := by decide +kernel
theorem dX8_init_5 : decode cX8_init 5 = .ok (.new 11, 3) := by decide +kernel
theorem dX8_init_8 : decode cX8_init 8 = .ok (.dup, 1) := by decide +kernel
theorem dX8_init_9 : decode cX8_init 9 = .ok (.invokespecial 13, 3) := by decide +kernel
theorem dX8_init_12 : decode cX8_init 12 = .ok (.putfield 14, 3) := by decide +kernel
theorem dX8_init_15 : decode cX8_init 15 = .ok (.aload_n 0, 1) := by decide +kernel
theorem dX8_init_16 : decode cX8_init 16 = .ok (.new 11, 3) := by decide +kernel
theorem dX8_init_19 : decode cX8_init 19 = .ok (.dup, 1) := by decide +kernel
theorem dX8_init_20 : decode cX8_init 20 = .ok (.invokespecial 13, 3) := by decide +kernel
theorem dX8_init_23 : decode cX8_init 23 = .ok (.putfield 18, 3) := by decide +kernel
theorem dX8_init_26 : decode cX8_init 26 = .ok (.aload_n 0, 1) := by decide +kernel
theorem dX8_init_27 : decode cX8_init 27 = .ok (.iconst 0, 1) := by decide +kernel
theorem dX8_init_28 : decode cX8_init 28 = .ok (.putfield 21, 3) := by decide +kernel
theorem dX8_init_31 : decode cX8_init 31 = .ok (.aload_n 0, 1) := by decide +kernel
theorem dX8_init_32 : decode cX8_init 32 = .ok (.new 25, 3) := by decide +kernel
theorem dX8_init_35 : decode cX8_init 35 = .ok (.dup, 1) := by decide +kernel
theorem dX8_init_36 : decode cX8_init 36 = .ok (.invokespecial 27, 3) := by decide +kernel
theorem dX8_init_39 : decode cX8_init 39 = .ok (.putfield 28, 3) := by decide +kernel
theorem dX8_init_42 : decode cX8_init 42 = .ok (.aload_n 0, 1) := by decide +kernel
theorem dX8_init_43 : decode cX8_init 43 = .ok (.new 32, 3) := by decide +kernel
theorem dX8_init_46 : decode cX8_init 46 = .ok (.dup, 1) := by decide +kernel
theorem dX8_init_47 : decode cX8_init 47 = .ok (.invokespecial 34, 3) := by decide +kernel
theorem dX8_init_50 : decode cX8_init 50 = .ok (.putfield 35, 3) := by decide +kernel
theorem dX8_init_53 : decode cX8_init 53 = .ok (.aload_n 0, 1) := by decide +kernel
theorem dX8_init_54 : decode cX8_init 54 = .ok (.new 39, 3) := by decide +kernel
theorem dX8_init_57 : decode cX8_init 57 = .ok (.dup, 1) := by decide +kernel
theorem dX8_init_58 : decode cX8_init 58 = .ok (.aload_n 0, 1) := by decide +kernel
theorem dX8_init_59 : decode cX8_init 59 = .ok (.getfield 35, 3) := by decide +kernel
theorem dX8_init_62 : decode cX8_init 62 = .ok (.invokespecial 41, 3) := by decide +kernel
theorem dX8_init_65 : decode cX8_init 65 = .ok (.putfield 44, 3) := by decide +kernel
theorem dX8_init_68 : decode cX8_init 68 = .ok (.aload_n 0, 1) := by decide +kernel
theorem dX8_init_69 : decode cX8_init 69 = .ok (.new 48, 3) := by decide +kernel
theorem dX8_init_72 : decode cX8_init 72 = .ok (.dup, 1) := by decide +kernel
theorem dX8_init_73 : decode cX8_init 73 = .ok (.invokespecial 50, 3) := by decide +kernel
theorem dX8_init_76 : decode cX8_init 76 = .ok (.putfield 51, 3) := by decide +kernel
theorem dX8_init_79 : decode cX8_init 79 = .ok (.aload_n 0, 1) := by decide +kernel
theorem dX8_init_80 : decode cX8_init 80 = .ok (.new 55, 3) := by decide +kernel
theorem dX8_init_83 : decode cX8_init 83 = .ok (.dup, 1) := by decide +kernel
theorem dX8_init_84 : decode cX8_init 84 = .ok (.invokespecial 57, 3) := by decide +kernel
theorem dX8_init_87 : decode cX8_init 87 = .ok (.putfield 58, 3) := by decide +kernel
theorem dX8_init_90 : decode cX8_init 90 = .ok (.aload_n 0, 1) := by decide +kernel
theorem dX8_init_91 : decode cX8_init 91 = .ok (.new 62, 3) := by decide +kernel
theorem dX8_init_94 : decode cX8_init 94 = .ok (.dup, 1) := by decide +kernel
theorem dX8_init_95 : decode cX8_init 95 = .ok (.invokespecial 64, 3) := by decide +kernel
theorem dX8_init_98 : decode cX8_init 98 = .ok (.putfield 65, 3) := by decide +kernel
theorem dX8_init_101 : decode cX8_init 101 = .ok (.return_, 1) := by decide +kernel
theorem dX8_table_0 : decode cX8_table 0 = .ok (.iload_n 1, 1) := by decide +kernel
theorem dX8_table_1 : decode cX8_table 1 = .ok (.iconst 1, 1) := by decide +kernel
theorem dX8_table_2 : decode cX8_table 2 = .ok (.bipush 6, 2) := by decide +kernel
theorem dX8_table_4 : decode cX8_table 4 = .ok (.invokestatic 69, 3) := by decide +kernel
theorem dX8_table_7 : decode cX8_table 7 = .ok (.ifCond .eq 13, 3) := by decide +kernel
theorem dX8_table_10 : decode cX8_table 10 = .ok (.iload_n 2, 1) := by decide +kernel
theorem dX8_table_11 : decode cX8_table 11 = .ok (.iconst 1, 1) := by decide +kernel
theorem dX8_table_12 : decode cX8_table 12 = .ok (.bipush 6, 2) := by decide +kernel
theorem dX8_table_14 : decode cX8_table 14 = .ok (.invokestatic 69, 3) := by decide +kernel
theorem dX8_table_17 : decode cX8_table 17 = .ok (.ifCond .ne 6, 3) := by decide +kernel
theorem dX8_table_20 : decode cX8_table 20 = .ok (.bipush (-2), 2) := by decide +kernel
theorem dX8_table_22 : decode cX8_table 22 = .ok (.ireturn, 1) := by decide +kernel
theorem dX8_table_23 : decode cX8_table 23 = .ok (.aload_n 0, 1) := by decide +kernel
theorem dX8_table_24 : decode cX8_table 24 = .ok (.invokevirtual 73, 3) := by decide +kernel
theorem dX8_table_27 : decode cX8_table 27 = .ok (.istore_n 3, 1) := by decide +kernel
theorem dX8_table_28 : decode cX8_table 28 = .ok (.aload_n 0, 1) := by decide +kernel
theorem dX8_table_29 : decode cX8_table 29 = .ok (.getfield 14, 3) := by decide +kernel
theorem dX8_table_32 : decode cX8_table 32 = .ok (.getfield 77, 3) := by decide +kernel
theorem dX8_table_35 : decode cX8_table 35 = .ok (.iload_n 1, 1) := by decide +kernel
theorem dX8_table_36 : decode cX8_table 36 = .ok (.putfield 80, 3) := by decide +kernel
theorem dX8_table_39 : decode cX8_table 39 = .ok (.aload_n 0, 1) := by decide +kernel
theorem dX8_table_40 : decode cX8_table 40 = .ok (.getfield 14, 3) := by decide +kernel
theorem dX8_table_43 : decode cX8_table 43 = .ok (.getfield 77, 3) := by decide +kernel
theorem dX8_table_46 : decode cX8_table 46 = .ok (.iload_n 2, 1) := by decide +kernel
theorem dX8_table_47 : decode cX8_table 47 = .ok (.putfield 84, 3) := by decide +kernel
theorem dX8_table_50 : decode cX8_table 50 = .ok (.iload_n 3, 1) := by decide +kernel
theorem dX8_table_51 : decode cX8_table 51 = .ok (.ireturn, 1) := by decide +kernel
theorem dX8_place_0 : decode cX8_place 0 = .ok (.iload_n 1, 1) := by decide +kernel
theorem dX8_place_1 : decode cX8_place 1 = .ok (.iload_n 2, 1) := by decide +kernel
theorem dX8_place_2 : decode cX8_place 2 = .ok (.invokestatic 87, 3) := by decide +kernel
theorem dX8_place_5 : decode cX8_place 5 = .ok (.ifCond .ne 6, 3) := by decide +kernel
theorem dX8_place_8 : decode cX8_place 8 = .ok (.bipush (-2), 2) := by decide +kernel
theorem dX8_place_10 : decode cX8_place 10 = .ok (.ireturn, 1) := by decide +kernel
theorem dX8_place_11 : decode cX8_place 11 = .ok (.aload_n 0, 1) := by decide +kernel
theorem dX8_place_12 : decode cX8_place 12 = .ok (.getfield 14, 3) := by decide +kernel
theorem dX8_place_15 : decode cX8_place 15 = .ok (.getfield 77, 3) := by decide +kernel
theorem dX8_place_18 : decode cX8_place 18 = .ok (.iload_n 1, 1) := by decide +kernel
theorem dX8_place_19 : decode cX8_place 19 = .ok (.putfield 91, 3) := by decide +kernel
theorem dX8_place_22 : decode cX8_place 22 = .ok (.aload_n 0, 1) := by decide +kernel
theorem dX8_place_23 : decode cX8_place 23 = .ok (.getfield 14, 3) := by decide +kernel
theorem dX8_place_26 : decode cX8_place 26 = .ok (.getfield 77, 3) := by decide +kernel
theorem dX8_place_29 : decode cX8_place 29 = .ok (.iload_n 2, 1) := by decide +kernel
theorem dX8_place_30 : decode cX8_place 30 = .ok (.putfield 94, 3) := by decide +kernel
theorem dX8_place_33 : decode cX8_place 33 = .ok (.aload_n 0, 1) := by decide +kernel
theorem dX8_place_34 : decode cX8_place 34 = .ok (.iload_n 1, 1) := by decide +kernel
theorem dX8_place_35 : decode cX8_place 35 = .ok (.iload_n 2, 1) := by decide +kernel
theorem dX8_place_36 : decode cX8_place 36 = .ok (.invokevirtual 97, 3) := by decide +kernel
theorem dX8_place_39 : decode cX8_place 39 = .ok (.ireturn, 1) := by decide +kernel
theorem dX8_carry_0 : decode cX8_carry 0 = .ok (.iload_n 1, 1) := by decide +kernel
theorem dX8_carry_1 : decode cX8_carry 1 = .ok (.iconst 0, 1) := by decide +kernel
theorem dX8_carry_2 : decode cX8_carry 2 = .ok (.iconst 1, 1) := by decide +kernel
theorem dX8_carry_3 : decode cX8_carry 3 = .ok (.invokestatic 69, 3) := by decide +kernel
theorem dX8_carry_6 : decode cX8_carry 6 = .ok (.ifCond .ne 5, 3) := by decide +kernel
theorem dX8_carry_9 : decode cX8_carry 9 = .ok (.iconst (-1), 1) := by decide +kernel
theorem dX8_carry_10 : decode cX8_carry 10 = .ok (.ireturn, 1) := by decide +kernel
theorem dX8_carry_11 : decode cX8_carry 11 = .ok (.aload_n 0, 1) := by decide +kernel
theorem dX8_carry_12 : decode cX8_carry 12 = .ok (.getfield 14, 3) := by decide +kernel
theorem dX8_carry_15 : decode cX8_carry 15 = .ok (.getfield 77, 3) := by decide +kernel
theorem dX8_carry_18 : decode cX8_carry 18 = .ok (.iload_n 1, 1) := by decide +kernel
theorem dX8_carry_19 : decode cX8_carry 19 = .ok (.invokevirtual 101, 3) := by decide +kernel
theorem dX8_carry_22 : decode cX8_carry 22 = .ok (.ifCond .ne 6, 3) := by decide +kernel
theorem dX8_carry_25 : decode cX8_carry 25 = .ok (.bipush (-3), 2) := by decide +kernel
theorem dX8_carry_27 : decode cX8_carry 27 = .ok (.ireturn, 1) := by decide +kernel
theorem dX8_carry_28 : decode cX8_carry 28 = .ok (.aload_n 0, 1) := by decide +kernel
theorem dX8_carry_29 : decode cX8_carry 29 = .ok (.getfield 14, 3) := by decide +kernel
theorem dX8_carry_32 : decode cX8_carry 32 = .ok (.getfield 77, 3) := by decide +kernel
theorem dX8_carry_35 : decode cX8_carry 35 = .ok (.getfield 91, 3) := by decide +kernel
theorem dX8_carry_38 : decode cX8_carry 38 = .ok (.aload_n 0, 1) := by decide +kernel
theorem dX8_carry_39 : decode cX8_carry 39 = .ok (.getfield 14, 3) := by decide +kernel
theorem dX8_carry_42 : decode cX8_carry 42 = .ok (.getfield 77, 3) := by decide +kernel
theorem dX8_carry_45 : decode cX8_carry 45 = .ok (.getfield 94, 3) := by decide +kernel
theorem dX8_carry_48 : decode cX8_carry 48 = .ok (.iadd, 1) := by decide +kernel
theorem dX8_carry_49 : decode cX8_carry 49 = .ok (.sipush 5000, 3) := by decide +kernel
theorem dX8_carry_52 : decode cX8_carry 52 = .ok (.iadd, 1) := by decide +kernel
theorem dX8_carry_53 : decode cX8_carry 53 = .ok (.ireturn, 1) := by decide +kernel
theorem dX8_note_0 : decode cX8_note 0 = .ok (.iconst 0, 1) := by decide +kernel
theorem dX8_note_1 : decode cX8_note 1 = .ok (.istore_n 1, 1) := by decide +kernel
theorem dX8_note_2 : decode cX8_note 2 = .ok (.iload_n 1, 1) := by decide +kernel
theorem dX8_note_3 : decode cX8_note 3 = .ok (.aload_n 0, 1) := by decide +kernel
theorem dX8_note_4 : decode cX8_note 4 = .ok (.getfield 14, 3) := by decide +kernel
theorem dX8_note_7 : decode cX8_note 7 = .ok (.getfield 105, 3) := by decide +kernel
theorem dX8_note_10 : decode cX8_note 10 = .ok (.invokevirtual 109, 3) := by decide +kernel
theorem dX8_note_13 : decode cX8_note 13 = .ok (.if_icmp .ge 62, 3) := by decide +kernel
theorem dX8_note_16 : decode cX8_note 16 = .ok (.aload_n 0, 1) := by decide +kernel
theorem dX8_note_17 : decode cX8_note 17 = .ok (.getfield 14, 3) := by decide +kernel
theorem dX8_note_20 : decode cX8_note 20 = .ok (.getfield 105, 3) := by decide +kernel
theorem dX8_note_23 : decode cX8_note 23 = .ok (.iload_n 1, 1) := by decide +kernel
theorem dX8_note_24 : decode cX8_note 24 = .ok (.iconst 0, 1) := by decide +kernel
theorem dX8_note_25 : decode cX8_note 25 = .ok (.invokevirtual 114, 3) := by decide +kernel
theorem dX8_note_28 : decode cX8_note 28 = .ok (.aload_n 0, 1) := by decide +kernel
theorem dX8_note_29 : decode cX8_note 29 = .ok (.getfield 14, 3) := by decide +kernel
theorem dX8_note_32 : decode cX8_note 32 = .ok (.getfield 77, 3) := by decide +kernel
theorem dX8_note_35 : decode cX8_note 35 = .ok (.getfield 91, 3) := by decide +kernel
theorem dX8_note_38 : decode cX8_note 38 = .ok (.if_icmp .ne 31, 3) := by decide +kernel
theorem dX8_note_41 : decode cX8_note 41 = .ok (.aload_n 0, 1) := by decide +kernel
theorem dX8_note_42 : decode cX8_note 42 = .ok (.getfield 14, 3) := by decide +kernel
theorem dX8_note_45 : decode cX8_note 45 = .ok (.getfield 105, 3) := by decide +kernel
theorem dX8_note_48 : decode cX8_note 48 = .ok (.iload_n 1, 1) := by decide +kernel
theorem dX8_note_49 : decode cX8_note 49 = .ok (.iconst 1, 1) := by decide +kernel
theorem dX8_note_50 : decode cX8_note 50 = .ok (.invokevirtual 114, 3) := by decide +kernel
theorem dX8_note_53 : decode cX8_note 53 = .ok (.aload_n 0, 1) := by decide +kernel
theorem dX8_note_54 : decode cX8_note 54 = .ok (.getfield 14, 3) := by decide +kernel
theorem dX8_note_57 : decode cX8_note 57 = .ok (.getfield 77, 3) := by decide +kernel
theorem dX8_note_60 : decode cX8_note 60 = .ok (.getfield 94, 3) := by decide +kernel
theorem dX8_note_63 : decode cX8_note 63 = .ok (.if_icmp .ne 6, 3) := by decide +kernel
theorem dX8_note_66 : decode cX8_note 66 = .ok (.bipush (-3), 2) := by decide +kernel
theorem dX8_note_68 : decode cX8_note 68 = .ok (.ireturn, 1) := by decide +kernel
theorem dX8_note_69 : decode cX8_note 69 = .ok (.iinc 1 1, 3) := by decide +kernel
theorem dX8_note_72 : decode cX8_note 72 = .ok (.goto (-70), 3) := by decide +kernel
theorem dX8_note_75 : decode cX8_note 75 = .ok (.aload_n 0, 1) := by decide +kernel
theorem dX8_note_76 : decode cX8_note 76 = .ok (.getfield 14, 3) := by decide +kernel
theorem dX8_note_79 : decode cX8_note 79 = .ok (.getfield 105, 3) := by decide +kernel
theorem dX8_note_82 : decode cX8_note 82 = .ok (.aload_n 0, 1) := by decide +kernel
theorem dX8_note_83 : decode cX8_note 83 = .ok (.getfield 14, 3) := by decide +kernel
theorem dX8_note_86 : decode cX8_note 86 = .ok (.getfield 77, 3) := by decide +kernel
theorem dX8_note_89 : decode cX8_note 89 = .ok (.getfield 91, 3) := by decide +kernel
theorem dX8_note_92 : decode cX8_note 92 = .ok (.aload_n 0, 1) := by decide +kernel
theorem dX8_note_93 : decode cX8_note 93 = .ok (.getfield 14, 3) := by decide +kernel
theorem dX8_note_96 : decode cX8_note 96 = .ok (.getfield 77, 3) := by decide +kernel
theorem dX8_note_99 : decode cX8_note 99 = .ok (.getfield 94, 3) := by decide +kernel
theorem dX8_note_102 : decode cX8_note 102 = .ok (.iconst 0, 1) := by decide +kernel
theorem dX8_note_103 : decode cX8_note 103 = .ok (.invokevirtual 117, 3) := by decide +kernel
theorem dX8_note_106 : decode cX8_note 106 = .ok (.ireturn, 1) := by decide +kernel
theorem dX8_wipe_0 : decode cX8_wipe 0 = .ok (.aload_n 0, 1) := by decide +kernel
theorem dX8_wipe_1 : decode cX8_wipe 1 = .ok (.getfield 14, 3) := by decide +kernel
theorem dX8_wipe_4 : decode cX8_wipe 4 = .ok (.getfield 105, 3) := by decide +kernel
theorem dX8_wipe_7 : decode cX8_wipe 7 = .ok (.invokevirtual 109, 3) := by decide +kernel
theorem dX8_wipe_10 : decode cX8_wipe 10 = .ok (.istore_n 1, 1) := by decide +kernel
theorem dX8_wipe_11 : decode cX8_wipe 11 = .ok (.aload_n 0, 1) := by decide +kernel
theorem dX8_wipe_12 : decode cX8_wipe 12 = .ok (.getfield 14, 3) := by decide +kernel
theorem dX8_wipe_15 : decode cX8_wipe 15 = .ok (.getfield 105, 3) := by decide +kernel
theorem dX8_wipe_18 : decode cX8_wipe 18 = .ok (.invokevirtual 121, 3) := by decide +kernel
theorem dX8_wipe_21 : decode cX8_wipe 21 = .ok (.iload_n 1, 1) := by decide +kernel
theorem dX8_wipe_22 : decode cX8_wipe 22 = .ok (.ireturn, 1) := by decide +kernel
theorem dX8_feed_0 : decode cX8_feed 0 = .ok (.iload_n 1, 1) := by decide +kernel
theorem dX8_feed_1 : decode cX8_feed 1 = .ok (.iconst 0, 1) := by decide +kernel
theorem dX8_feed_2 : decode cX8_feed 2 = .ok (.bipush 127, 2) := by decide +kernel
theorem dX8_feed_4 : decode cX8_feed 4 = .ok (.invokestatic 69, 3) := by decide +kernel
theorem dX8_feed_7 : decode cX8_feed 7 = .ok (.ifCond .ne 6, 3) := by decide +kernel
theorem dX8_feed_10 : decode cX8_feed 10 = .ok (.bipush (-2), 2) := by decide +kernel
theorem dX8_feed_12 : decode cX8_feed 12 = .ok (.ireturn, 1) := by decide +kernel
theorem dX8_feed_13 : decode cX8_feed 13 = .ok (.aload_n 0, 1) := by decide +kernel
theorem dX8_feed_14 : decode cX8_feed 14 = .ok (.getfield 58, 3) := by decide +kernel
theorem dX8_feed_17 : decode cX8_feed 17 = .ok (.iload_n 1, 1) := by decide +kernel
theorem dX8_feed_18 : decode cX8_feed 18 = .ok (.invokevirtual 124, 3) := by decide +kernel
theorem dX8_feed_21 : decode cX8_feed 21 = .ok (.ireturn, 1) := by decide +kernel
theorem dX8_read_0 : decode cX8_read 0 = .ok (.aload_n 0, 1) := by decide +kernel
theorem dX8_read_1 : decode cX8_read 1 = .ok (.getfield 58, 3) := by decide +kernel
theorem dX8_read_4 : decode cX8_read 4 = .ok (.invokevirtual 128, 3) := by decide +kernel
theorem dX8_read_7 : decode cX8_read 7 = .ok (.istore_n 1, 1) := by decide +kernel
theorem dX8_read_8 : decode cX8_read 8 = .ok (.iconst 0, 1) := by decide +kernel
theorem dX8_read_9 : decode cX8_read 9 = .ok (.istore_n 2, 1) := by decide +kernel
theorem dX8_read_10 : decode cX8_read 10 = .ok (.iconst 0, 1) := by decide +kernel
theorem dX8_read_11 : decode cX8_read 11 = .ok (.istore_n 3, 1) := by decide +kernel
theorem dX8_read_12 : decode cX8_read 12 = .ok (.iload_n 1, 1) := by decide +kernel
theorem dX8_read_13 : decode cX8_read 13 = .ok (.ifCond .ge 54, 3) := by decide +kernel
theorem dX8_read_16 : decode cX8_read 16 = .ok (.iload_n 3, 1) := by decide +kernel
theorem dX8_read_17 : decode cX8_read 17 = .ok (.aload_n 0, 1) := by decide +kernel
theorem dX8_read_18 : decode cX8_read 18 = .ok (.getfield 58, 3) := by decide +kernel
theorem dX8_read_21 : decode cX8_read 21 = .ok (.invokevirtual 131, 3) := by decide +kernel
theorem dX8_read_24 : decode cX8_read 24 = .ok (.if_icmp .ge 43, 3) := by decide +kernel
theorem dX8_read_27 : decode cX8_read 27 = .ok (.aload_n 0, 1) := by decide +kernel
theorem dX8_read_28 : decode cX8_read 28 = .ok (.aload_n 0, 1) := by decide +kernel
theorem dX8_read_29 : decode cX8_read 29 = .ok (.getfield 58, 3) := by decide +kernel
theorem dX8_read_32 : decode cX8_read 32 = .ok (.iload_n 3, 1) := by decide +kernel
theorem dX8_read_33 : decode cX8_read 33 = .ok (.invokevirtual 132, 3) := by decide +kernel
theorem dX8_read_36 : decode cX8_read 36 = .ok (.aload_n 0, 1) := by decide +kernel
theorem dX8_read_37 : decode cX8_read 37 = .ok (.getfield 58, 3) := by decide +kernel
theorem dX8_read_40 : decode cX8_read 40 = .ok (.iload_n 3, 1) := by decide +kernel
theorem dX8_read_41 : decode cX8_read 41 = .ok (.invokevirtual 135, 3) := by decide +kernel
theorem dX8_read_44 : decode cX8_read 44 = .ok (.aload_n 0, 1) := by decide +kernel
theorem dX8_read_45 : decode cX8_read 45 = .ok (.getfield 58, 3) := by decide +kernel
theorem dX8_read_48 : decode cX8_read 48 = .ok (.iload_n 3, 1) := by decide +kernel
theorem dX8_read_49 : decode cX8_read 49 = .ok (.invokevirtual 138, 3) := by decide +kernel
theorem dX8_read_52 : decode cX8_read 52 = .ok (.invokevirtual 141, 3) := by decide +kernel
theorem dX8_read_55 : decode cX8_read 55 = .ok (.ifCond .eq 6, 3) := by decide +kernel
theorem dX8_read_58 : decode cX8_read 58 = .ok (.iinc 2 1, 3) := by decide +kernel
theorem dX8_read_61 : decode cX8_read 61 = .ok (.iinc 3 1, 3) := by decide +kernel
theorem dX8_read_64 : decode cX8_read 64 = .ok (.goto (-52), 3) := by decide +kernel
theorem dX8_read_67 : decode cX8_read 67 = .ok (.aload_n 0, 1) := by decide +kernel
theorem dX8_read_68 : decode cX8_read 68 = .ok (.getfield 58, 3) := by decide +kernel
theorem dX8_read_71 : decode cX8_read 71 = .ok (.invokevirtual 144, 3) := by decide +kernel
theorem dX8_read_74 : decode cX8_read 74 = .ok (.iload_n 1, 1) := by decide +kernel
theorem dX8_read_75 : decode cX8_read 75 = .ok (.ifCond .ge 7, 3) := by decide +kernel
theorem dX8_read_78 : decode cX8_read 78 = .ok (.iload_n 2, 1) := by decide +kernel
theorem dX8_read_79 : decode cX8_read 79 = .ok (.goto 7, 3) := by decide +kernel
theorem dX8_read_82 : decode cX8_read 82 = .ok (.bipush (-10), 2) := by decide +kernel
theorem dX8_read_84 : decode cX8_read 84 = .ok (.iload_n 1, 1) := by decide +kernel
theorem dX8_read_85 : decode cX8_read 85 = .ok (.isub, 1) := by decide +kernel
theorem dX8_read_86 : decode cX8_read 86 = .ok (.ireturn, 1) := by decide +kernel
theorem dX8_doClause_0 : decode cX8_doClause 0 = .ok (.iload_n 1, 1) := by decide +kernel
theorem dX8_doClause_1 : decode cX8_doClause 1 = .ok (.tableswitch 98 0 4 #[35, 50, 65, 72, 85], 35) := by decide +kernel
theorem dX8_doClause_36 : decode cX8_doClause 36 = .ok (.aload_n 0, 1) := by decide +kernel
theorem dX8_doClause_37 : decode cX8_doClause 37 = .ok (.iload_n 2, 1) := by decide +kernel
theorem dX8_doClause_38 : decode cX8_doClause 38 = .ok (.iload_n 3, 1) := by decide +kernel
theorem dX8_doClause_39 : decode cX8_doClause 39 = .ok (.invokevirtual 145, 3) := by decide +kernel
theorem dX8_doClause_42 : decode cX8_doClause 42 = .ok (.ifCond .lt 7, 3) := by decide +kernel
theorem dX8_doClause_45 : decode cX8_doClause 45 = .ok (.iconst 1, 1) := by decide +kernel
theorem dX8_doClause_46 : decode cX8_doClause 46 = .ok (.goto 4, 3) := by decide +kernel
theorem dX8_doClause_49 : decode cX8_doClause 49 = .ok (.iconst 0, 1) := by decide +kernel
theorem dX8_doClause_50 : decode cX8_doClause 50 = .ok (.ireturn, 1) := by decide +kernel
theorem dX8_doClause_51 : decode cX8_doClause 51 = .ok (.aload_n 0, 1) := by decide +kernel
theorem dX8_doClause_52 : decode cX8_doClause 52 = .ok (.iload_n 2, 1) := by decide +kernel
theorem dX8_doClause_53 : decode cX8_doClause 53 = .ok (.iload_n 3, 1) := by decide +kernel
theorem dX8_doClause_54 : decode cX8_doClause 54 = .ok (.invokevirtual 148, 3) := by decide +kernel
theorem dX8_doClause_57 : decode cX8_doClause 57 = .ok (.ifCond .lt 7, 3) := by decide +kernel
theorem dX8_doClause_60 : decode cX8_doClause 60 = .ok (.iconst 1, 1) := by decide +kernel
theorem dX8_doClause_61 : decode cX8_doClause 61 = .ok (.goto 4, 3) := by decide +kernel
theorem dX8_doClause_64 : decode cX8_doClause 64 = .ok (.iconst 0, 1) := by decide +kernel
theorem dX8_doClause_65 : decode cX8_doClause 65 = .ok (.ireturn, 1) := by decide +kernel
theorem dX8_doClause_66 : decode cX8_doClause 66 = .ok (.aload_n 0, 1) := by decide +kernel
theorem dX8_doClause_67 : decode cX8_doClause 67 = .ok (.iload_n 2, 1) := by decide +kernel
theorem dX8_doClause_68 : decode cX8_doClause 68 = .ok (.iload_n 3, 1) := by decide +kernel
theorem dX8_doClause_69 : decode cX8_doClause 69 = .ok (.invokevirtual 151, 3) := by decide +kernel
theorem dX8_doClause_72 : decode cX8_doClause 72 = .ok (.ireturn, 1) := by decide +kernel
theorem dX8_doClause_73 : decode cX8_doClause 73 = .ok (.aload_n 0, 1) := by decide +kernel
theorem dX8_doClause_74 : decode cX8_doClause 74 = .ok (.invokevirtual 154, 3) := by decide +kernel
theorem dX8_doClause_77 : decode cX8_doClause 77 = .ok (.ifCond .lt 7, 3) := by decide +kernel
theorem dX8_doClause_80 : decode cX8_doClause 80 = .ok (.iconst 1, 1) := by decide +kernel
theorem dX8_doClause_81 : decode cX8_doClause 81 = .ok (.goto 4, 3) := by decide +kernel
theorem dX8_doClause_84 : decode cX8_doClause 84 = .ok (.iconst 0, 1) := by decide +kernel
theorem dX8_doClause_85 : decode cX8_doClause 85 = .ok (.ireturn, 1) := by decide +kernel
theorem dX8_doClause_86 : decode cX8_doClause 86 = .ok (.aload_n 0, 1) := by decide +kernel
theorem dX8_doClause_87 : decode cX8_doClause 87 = .ok (.invokevirtual 157, 3) := by decide +kernel
theorem dX8_doClause_90 : decode cX8_doClause 90 = .ok (.ifCond .lt 7, 3) := by decide +kernel
theorem dX8_doClause_93 : decode cX8_doClause 93 = .ok (.iconst 1, 1) := by decide +kernel
theorem dX8_doClause_94 : decode cX8_doClause 94 = .ok (.goto 4, 3) := by decide +kernel
theorem dX8_doClause_97 : decode cX8_doClause 97 = .ok (.iconst 0, 1) := by decide +kernel
theorem dX8_doClause_98 : decode cX8_doClause 98 = .ok (.ireturn, 1) := by decide +kernel
theorem dX8_doClause_99 : decode cX8_doClause 99 = .ok (.iconst 0, 1) := by decide +kernel
theorem dX8_doClause_100 : decode cX8_doClause 100 = .ok (.ireturn, 1) := by decide +kernel
theorem dX8_carryByWord_0 : decode cX8_carryByWord 0 = .ok (.aload_n 0, 1) := by decide +kernel
theorem dX8_carryByWord_1 : decode cX8_carryByWord 1 = .ok (.getfield 28, 3) := by decide +kernel
theorem dX8_carryByWord_4 : decode cX8_carryByWord 4 = .ok (.aload_n 0, 1) := by decide +kernel
theorem dX8_carryByWord_5 : decode cX8_carryByWord 5 = .ok (.getfield 14, 3) := by decide +kernel
theorem dX8_carryByWord_8 : decode cX8_carryByWord 8 = .ok (.getfield 77, 3) := by decide +kernel
theorem dX8_carryByWord_11 : decode cX8_carryByWord 11 = .ok (.invokevirtual 160, 3) := by decide +kernel
theorem dX8_carryByWord_14 : decode cX8_carryByWord 14 = .ok (.iconst 0, 1) := by decide +kernel
theorem dX8_carryByWord_15 : decode cX8_carryByWord 15 = .ok (.istore_n 3, 1) := by decide +kernel
theorem dX8_carryByWord_16 : decode cX8_carryByWord 16 = .ok (.iload_n 3, 1) := by decide +kernel
theorem dX8_carryByWord_17 : decode cX8_carryByWord 17 = .ok (.iload_n 2, 1) := by decide +kernel
theorem dX8_carryByWord_18 : decode cX8_carryByWord 18 = .ok (.if_icmp .ge 34, 3) := by decide +kernel
theorem dX8_carryByWord_21 : decode cX8_carryByWord 21 = .ok (.aload_n 0, 1) := by decide +kernel
theorem dX8_carryByWord_22 : decode cX8_carryByWord 22 = .ok (.getfield 28, 3) := by decide +kernel
theorem dX8_carryByWord_25 : decode cX8_carryByWord 25 = .ok (.aload_n 0, 1) := by decide +kernel
theorem dX8_carryByWord_26 : decode cX8_carryByWord 26 = .ok (.getfield 58, 3) := by decide +kernel
theorem dX8_carryByWord_29 : decode cX8_carryByWord 29 = .ok (.iload_n 1, 1) := by decide +kernel
theorem dX8_carryByWord_30 : decode cX8_carryByWord 30 = .ok (.iload_n 3, 1) := by decide +kernel
theorem dX8_carryByWord_31 : decode cX8_carryByWord 31 = .ok (.iadd, 1) := by decide +kernel
theorem dX8_carryByWord_32 : decode cX8_carryByWord 32 = .ok (.invokevirtual 164, 3) := by decide +kernel
theorem dX8_carryByWord_35 : decode cX8_carryByWord 35 = .ok (.bipush 48, 2) := by decide +kernel
theorem dX8_carryByWord_37 : decode cX8_carryByWord 37 = .ok (.isub, 1) := by decide +kernel
theorem dX8_carryByWord_38 : decode cX8_carryByWord 38 = .ok (.invokevirtual 101, 3) := by decide +kernel
theorem dX8_carryByWord_41 : decode cX8_carryByWord 41 = .ok (.ifCond .ne 5, 3) := by decide +kernel
theorem dX8_carryByWord_44 : decode cX8_carryByWord 44 = .ok (.iconst 0, 1) := by decide +kernel
theorem dX8_carryByWord_45 : decode cX8_carryByWord 45 = .ok (.ireturn, 1) := by decide +kernel
theorem dX8_carryByWord_46 : decode cX8_carryByWord 46 = .ok (.iinc 3 1, 3) := by decide +kernel
theorem dX8_carryByWord_49 : decode cX8_carryByWord 49 = .ok (.goto (-33), 3) := by decide +kernel
theorem dX8_carryByWord_52 : decode cX8_carryByWord 52 = .ok (.aload_n 0, 1) := by decide +kernel
theorem dX8_carryByWord_53 : decode cX8_carryByWord 53 = .ok (.getfield 14, 3) := by decide +kernel
theorem dX8_carryByWord_56 : decode cX8_carryByWord 56 = .ok (.getfield 77, 3) := by decide +kernel
theorem dX8_carryByWord_59 : decode cX8_carryByWord 59 = .ok (.aload_n 0, 1) := by decide +kernel
theorem dX8_carryByWord_60 : decode cX8_carryByWord 60 = .ok (.getfield 28, 3) := by decide +kernel
theorem dX8_carryByWord_63 : decode cX8_carryByWord 63 = .ok (.invokevirtual 160, 3) := by decide +kernel
theorem dX8_carryByWord_66 : decode cX8_carryByWord 66 = .ok (.iconst 1, 1) := by decide +kernel
theorem dX8_carryByWord_67 : decode cX8_carryByWord 67 = .ok (.ireturn, 1) := by decide +kernel
theorem dX8_told_0 : decode cX8_told 0 = .ok (.iload_n 1, 1) := by decide +kernel
theorem dX8_told_1 : decode cX8_told 1 = .ok (.tableswitch 155 0 6 #[43, 54, 65, 89, 104, 119, 144], 43) := by decide +kernel
theorem dX8_told_44 : decode cX8_told 44 = .ok (.aload_n 0, 1) := by decide +kernel
theorem dX8_told_45 : decode cX8_told 45 = .ok (.getfield 14, 3) := by decide +kernel
theorem dX8_told_48 : decode cX8_told 48 = .ok (.getfield 77, 3) := by decide +kernel
theorem dX8_told_51 : decode cX8_told 51 = .ok (.getfield 80, 3) := by decide +kernel
theorem dX8_told_54 : decode cX8_told 54 = .ok (.ireturn, 1) := by decide +kernel
theorem dX8_told_55 : decode cX8_told 55 = .ok (.aload_n 0, 1) := by decide +kernel
theorem dX8_told_56 : decode cX8_told 56 = .ok (.getfield 14, 3) := by decide +kernel
theorem dX8_told_59 : decode cX8_told 59 = .ok (.getfield 77, 3) := by decide +kernel
theorem dX8_told_62 : decode cX8_told 62 = .ok (.getfield 84, 3) := by decide +kernel
theorem dX8_told_65 : decode cX8_told 65 = .ok (.ireturn, 1) := by decide +kernel
theorem dX8_told_66 : decode cX8_told 66 = .ok (.aload_n 0, 1) := by decide +kernel
theorem dX8_told_67 : decode cX8_told 67 = .ok (.getfield 14, 3) := by decide +kernel
theorem dX8_told_70 : decode cX8_told 70 = .ok (.getfield 77, 3) := by decide +kernel
theorem dX8_told_73 : decode cX8_told 73 = .ok (.getfield 80, 3) := by decide +kernel
theorem dX8_told_76 : decode cX8_told 76 = .ok (.aload_n 0, 1) := by decide +kernel
theorem dX8_told_77 : decode cX8_told 77 = .ok (.getfield 14, 3) := by decide +kernel
theorem dX8_told_80 : decode cX8_told 80 = .ok (.getfield 77, 3) := by decide +kernel
theorem dX8_told_83 : decode cX8_told 83 = .ok (.getfield 84, 3) := by decide +kernel
theorem dX8_told_86 : decode cX8_told 86 = .ok (.invokestatic 167, 3) := by decide +kernel
theorem dX8_told_89 : decode cX8_told 89 = .ok (.ireturn, 1) := by decide +kernel
theorem dX8_told_90 : decode cX8_told 90 = .ok (.aload_n 0, 1) := by decide +kernel
theorem dX8_told_91 : decode cX8_told 91 = .ok (.getfield 14, 3) := by decide +kernel
theorem dX8_told_94 : decode cX8_told 94 = .ok (.getfield 77, 3) := by decide +kernel
theorem dX8_told_97 : decode cX8_told 97 = .ok (.getfield 91, 3) := by decide +kernel
theorem dX8_told_100 : decode cX8_told 100 = .ok (.sipush 1000, 3) := by decide +kernel
theorem dX8_told_103 : decode cX8_told 103 = .ok (.iadd, 1) := by decide +kernel
theorem dX8_told_104 : decode cX8_told 104 = .ok (.ireturn, 1) := by decide +kernel
theorem dX8_told_105 : decode cX8_told 105 = .ok (.aload_n 0, 1) := by decide +kernel
theorem dX8_told_106 : decode cX8_told 106 = .ok (.getfield 14, 3) := by decide +kernel
theorem dX8_told_109 : decode cX8_told 109 = .ok (.getfield 77, 3) := by decide +kernel
theorem dX8_told_112 : decode cX8_told 112 = .ok (.getfield 94, 3) := by decide +kernel
theorem dX8_told_115 : decode cX8_told 115 = .ok (.sipush 1000, 3) := by decide +kernel
theorem dX8_told_118 : decode cX8_told 118 = .ok (.iadd, 1) := by decide +kernel
theorem dX8_told_119 : decode cX8_told 119 = .ok (.ireturn, 1) := by decide +kernel
theorem dX8_told_120 : decode cX8_told 120 = .ok (.aload_n 0, 1) := by decide +kernel
theorem dX8_told_121 : decode cX8_told 121 = .ok (.aload_n 0, 1) := by decide +kernel
theorem dX8_told_122 : decode cX8_told 122 = .ok (.getfield 14, 3) := by decide +kernel
theorem dX8_told_125 : decode cX8_told 125 = .ok (.getfield 77, 3) := by decide +kernel
theorem dX8_told_128 : decode cX8_told 128 = .ok (.getfield 91, 3) := by decide +kernel
theorem dX8_told_131 : decode cX8_told 131 = .ok (.aload_n 0, 1) := by decide +kernel
theorem dX8_told_132 : decode cX8_told 132 = .ok (.getfield 14, 3) := by decide +kernel
theorem dX8_told_135 : decode cX8_told 135 = .ok (.getfield 77, 3) := by decide +kernel
theorem dX8_told_138 : decode cX8_told 138 = .ok (.getfield 94, 3) := by decide +kernel
theorem dX8_told_141 : decode cX8_told 141 = .ok (.invokevirtual 97, 3) := by decide +kernel
theorem dX8_told_144 : decode cX8_told 144 = .ok (.ireturn, 1) := by decide +kernel
theorem dX8_told_145 : decode cX8_told 145 = .ok (.aload_n 0, 1) := by decide +kernel
theorem dX8_told_146 : decode cX8_told 146 = .ok (.getfield 14, 3) := by decide +kernel
theorem dX8_told_149 : decode cX8_told 149 = .ok (.getfield 105, 3) := by decide +kernel
theorem dX8_told_152 : decode cX8_told 152 = .ok (.invokevirtual 109, 3) := by decide +kernel
theorem dX8_told_155 : decode cX8_told 155 = .ok (.ireturn, 1) := by decide +kernel
theorem dX8_told_156 : decode cX8_told 156 = .ok (.iconst (-1), 1) := by decide +kernel
theorem dX8_told_157 : decode cX8_told 157 = .ok (.ireturn, 1) := by decide +kernel
theorem dX8_noted_0 : decode cX8_noted 0 = .ok (.iload_n 1, 1) := by decide +kernel
theorem dX8_noted_1 : decode cX8_noted 1 = .ok (.iconst 0, 1) := by decide +kernel
theorem dX8_noted_2 : decode cX8_noted 2 = .ok (.aload_n 0, 1) := by decide +kernel
theorem dX8_noted_3 : decode cX8_noted 3 = .ok (.getfield 14, 3) := by decide +kernel
theorem dX8_noted_6 : decode cX8_noted 6 = .ok (.getfield 105, 3) := by decide +kernel
theorem dX8_noted_9 : decode cX8_noted 9 = .ok (.invokevirtual 109, 3) := by decide +kernel
theorem dX8_noted_12 : decode cX8_noted 12 = .ok (.iconst 1, 1) := by decide +kernel
theorem dX8_noted_13 : decode cX8_noted 13 = .ok (.isub, 1) := by decide +kernel
theorem dX8_noted_14 : decode cX8_noted 14 = .ok (.invokestatic 69, 3) := by decide +kernel
theorem dX8_noted_17 : decode cX8_noted 17 = .ok (.ifCond .eq 12, 3) := by decide +kernel
theorem dX8_noted_20 : decode cX8_noted 20 = .ok (.iload_n 2, 1) := by decide +kernel
theorem dX8_noted_21 : decode cX8_noted 21 = .ok (.iconst 0, 1) := by decide +kernel
theorem dX8_noted_22 : decode cX8_noted 22 = .ok (.iconst 2, 1) := by decide +kernel
theorem dX8_noted_23 : decode cX8_noted 23 = .ok (.invokestatic 69, 3) := by decide +kernel
theorem dX8_noted_26 : decode cX8_noted 26 = .ok (.ifCond .ne 5, 3) := by decide +kernel
theorem dX8_noted_29 : decode cX8_noted 29 = .ok (.iconst (-1), 1) := by decide +kernel
theorem dX8_noted_30 : decode cX8_noted 30 = .ok (.ireturn, 1) := by decide +kernel
theorem dX8_noted_31 : decode cX8_noted 31 = .ok (.aload_n 0, 1) := by decide +kernel
theorem dX8_noted_32 : decode cX8_noted 32 = .ok (.getfield 14, 3) := by decide +kernel
theorem dX8_noted_35 : decode cX8_noted 35 = .ok (.getfield 105, 3) := by decide +kernel
theorem dX8_noted_38 : decode cX8_noted 38 = .ok (.iload_n 1, 1) := by decide +kernel
theorem dX8_noted_39 : decode cX8_noted 39 = .ok (.iconst 0, 1) := by decide +kernel
theorem dX8_noted_40 : decode cX8_noted 40 = .ok (.invokevirtual 114, 3) := by decide +kernel
theorem dX8_noted_43 : decode cX8_noted 43 = .ok (.istore_n 3, 1) := by decide +kernel
theorem dX8_noted_44 : decode cX8_noted 44 = .ok (.aload_n 0, 1) := by decide +kernel
theorem dX8_noted_45 : decode cX8_noted 45 = .ok (.getfield 14, 3) := by decide +kernel
theorem dX8_noted_48 : decode cX8_noted 48 = .ok (.getfield 105, 3) := by decide +kernel
theorem dX8_noted_51 : decode cX8_noted 51 = .ok (.iload_n 1, 1) := by decide +kernel
theorem dX8_noted_52 : decode cX8_noted 52 = .ok (.iconst 1, 1) := by decide +kernel
theorem dX8_noted_53 : decode cX8_noted 53 = .ok (.invokevirtual 114, 3) := by decide +kernel
theorem dX8_noted_56 : decode cX8_noted 56 = .ok (.istore 4, 2) := by decide +kernel
theorem dX8_noted_58 : decode cX8_noted 58 = .ok (.iload_n 2, 1) := by decide +kernel
theorem dX8_noted_59 : decode cX8_noted 59 = .ok (.iconst 2, 1) := by decide +kernel
theorem dX8_noted_60 : decode cX8_noted 60 = .ok (.if_icmp .ne 11, 3) := by decide +kernel
theorem dX8_noted_63 : decode cX8_noted 63 = .ok (.aload_n 0, 1) := by decide +kernel
theorem dX8_noted_64 : decode cX8_noted 64 = .ok (.iload_n 3, 1) := by decide +kernel
theorem dX8_noted_65 : decode cX8_noted 65 = .ok (.iload 4, 2) := by decide +kernel
theorem dX8_noted_67 : decode cX8_noted 67 = .ok (.invokevirtual 97, 3) := by decide +kernel
theorem dX8_noted_70 : decode cX8_noted 70 = .ok (.ireturn, 1) := by decide +kernel
theorem dX8_noted_71 : decode cX8_noted 71 = .ok (.iload_n 2, 1) := by decide +kernel
theorem dX8_noted_72 : decode cX8_noted 72 = .ok (.ifCond .ne 7, 3) := by decide +kernel
theorem dX8_noted_75 : decode cX8_noted 75 = .ok (.iload_n 3, 1) := by decide +kernel
theorem dX8_noted_76 : decode cX8_noted 76 = .ok (.goto 5, 3) := by decide +kernel
theorem dX8_noted_79 : decode cX8_noted 79 = .ok (.iload 4, 2) := by decide +kernel
theorem dX8_noted_81 : decode cX8_noted 81 = .ok (.sipush 1000, 3) := by decide +kernel
theorem dX8_noted_84 : decode cX8_noted 84 = .ok (.iadd, 1) := by decide +kernel
theorem dX8_noted_85 : decode cX8_noted 85 = .ok (.ireturn, 1) := by decide +kernel
theorem dX8_norm_0 : decode cX8_norm 0 = .ok (.iload_n 1, 1) := by decide +kernel
theorem dX8_norm_1 : decode cX8_norm 1 = .ok (.iload_n 2, 1) := by decide +kernel
theorem dX8_norm_2 : decode cX8_norm 2 = .ok (.invokestatic 87, 3) := by decide +kernel
theorem dX8_norm_5 : decode cX8_norm 5 = .ok (.ifCond .ne 7, 3) := by decide +kernel
theorem dX8_norm_8 : decode cX8_norm 8 = .ok (.ldc2_w 170, 3) := by decide +kernel
theorem dX8_norm_11 : decode cX8_norm 11 = .ok (.lreturn, 1) := by decide +kernel
theorem dX8_norm_12 : decode cX8_norm 12 = .ok (.aload_n 0, 1) := by decide +kernel
theorem dX8_norm_13 : decode cX8_norm 13 = .ok (.getfield 14, 3) := by decide +kernel
theorem dX8_norm_16 : decode cX8_norm 16 = .ok (.getfield 77, 3) := by decide +kernel
theorem dX8_norm_19 : decode cX8_norm 19 = .ok (.getfield 80, 3) := by decide +kernel
theorem dX8_norm_22 : decode cX8_norm 22 = .ok (.aload_n 0, 1) := by decide +kernel
theorem dX8_norm_23 : decode cX8_norm 23 = .ok (.getfield 14, 3) := by decide +kernel
theorem dX8_norm_26 : decode cX8_norm 26 = .ok (.getfield 77, 3) := by decide +kernel
theorem dX8_norm_29 : decode cX8_norm 29 = .ok (.getfield 84, 3) := by decide +kernel
theorem dX8_norm_32 : decode cX8_norm 32 = .ok (.iload_n 1, 1) := by decide +kernel
theorem dX8_norm_33 : decode cX8_norm 33 = .ok (.iload_n 2, 1) := by decide +kernel
theorem dX8_norm_34 : decode cX8_norm 34 = .ok (.invokestatic 172, 3) := by decide +kernel
theorem dX8_norm_37 : decode cX8_norm 37 = .ok (.lreturn, 1) := by decide +kernel
theorem dX8_product_0 : decode cX8_product 0 = .ok (.iload_n 1, 1) := by decide +kernel
theorem dX8_product_1 : decode cX8_product 1 = .ok (.iload_n 2, 1) := by decide +kernel
theorem dX8_product_2 : decode cX8_product 2 = .ok (.invokestatic 87, 3) := by decide +kernel
theorem dX8_product_5 : decode cX8_product 5 = .ok (.ifCond .eq 12, 3) := by decide +kernel
theorem dX8_product_8 : decode cX8_product 8 = .ok (.iload_n 3, 1) := by decide +kernel
theorem dX8_product_9 : decode cX8_product 9 = .ok (.iload 4, 2) := by decide +kernel
theorem dX8_product_11 : decode cX8_product 11 = .ok (.invokestatic 87, 3) := by decide +kernel
theorem dX8_product_14 : decode cX8_product 14 = .ok (.ifCond .ne 7, 3) := by decide +kernel
theorem dX8_product_17 : decode cX8_product 17 = .ok (.ldc2_w 170, 3) := by decide +kernel
theorem dX8_product_20 : decode cX8_product 20 = .ok (.lreturn, 1) := by decide +kernel
theorem dX8_product_21 : decode cX8_product 21 = .ok (.aload_n 0, 1) := by decide +kernel
theorem dX8_product_22 : decode cX8_product 22 = .ok (.getfield 14, 3) := by decide +kernel
theorem dX8_product_25 : decode cX8_product 25 = .ok (.getfield 77, 3) := by decide +kernel
theorem dX8_product_28 : decode cX8_product 28 = .ok (.getfield 80, 3) := by decide +kernel
theorem dX8_product_31 : decode cX8_product 31 = .ok (.aload_n 0, 1) := by decide +kernel
theorem dX8_product_32 : decode cX8_product 32 = .ok (.getfield 14, 3) := by decide +kernel
theorem dX8_product_35 : decode cX8_product 35 = .ok (.getfield 77, 3) := by decide +kernel
theorem dX8_product_38 : decode cX8_product 38 = .ok (.getfield 84, 3) := by decide +kernel
theorem dX8_product_41 : decode cX8_product 41 = .ok (.iload_n 1, 1) := by decide +kernel
theorem dX8_product_42 : decode cX8_product 42 = .ok (.i2l, 1) := by decide +kernel
theorem dX8_product_43 : decode cX8_product 43 = .ok (.iload_n 2, 1) := by decide +kernel
theorem dX8_product_44 : decode cX8_product 44 = .ok (.i2l, 1) := by decide +kernel
theorem dX8_product_45 : decode cX8_product 45 = .ok (.iload_n 3, 1) := by decide +kernel
theorem dX8_product_46 : decode cX8_product 46 = .ok (.i2l, 1) := by decide +kernel
theorem dX8_product_47 : decode cX8_product 47 = .ok (.iload 4, 2) := by decide +kernel
theorem dX8_product_49 : decode cX8_product 49 = .ok (.i2l, 1) := by decide +kernel
theorem dX8_product_50 : decode cX8_product 50 = .ok (.invokestatic 176, 3) := by decide +kernel
theorem dX8_product_53 : decode cX8_product 53 = .ok (.lreturn, 1) := by decide +kernel
theorem dX8_coat_0 : decode cX8_coat 0 = .ok (.iload_n 1, 1) := by decide +kernel
theorem dX8_coat_1 : decode cX8_coat 1 = .ok (.iconst 0, 1) := by decide +kernel
theorem dX8_coat_2 : decode cX8_coat 2 = .ok (.iconst 1, 1) := by decide +kernel
theorem dX8_coat_3 : decode cX8_coat 3 = .ok (.invokestatic 69, 3) := by decide +kernel
theorem dX8_coat_6 : decode cX8_coat 6 = .ok (.ifCond .ne 5, 3) := by decide +kernel
theorem dX8_coat_9 : decode cX8_coat 9 = .ok (.iconst (-1), 1) := by decide +kernel
theorem dX8_coat_10 : decode cX8_coat 10 = .ok (.ireturn, 1) := by decide +kernel
theorem dX8_coat_11 : decode cX8_coat 11 = .ok (.iload_n 2, 1) := by decide +kernel
theorem dX8_coat_12 : decode cX8_coat 12 = .ok (.iload_n 3, 1) := by decide +kernel
theorem dX8_coat_13 : decode cX8_coat 13 = .ok (.invokestatic 87, 3) := by decide +kernel
theorem dX8_coat_16 : decode cX8_coat 16 = .ok (.ifCond .ne 6, 3) := by decide +kernel
theorem dX8_coat_19 : decode cX8_coat 19 = .ok (.bipush (-2), 2) := by decide +kernel
theorem dX8_coat_21 : decode cX8_coat 21 = .ok (.ireturn, 1) := by decide +kernel
theorem dX8_coat_22 : decode cX8_coat 22 = .ok (.iload_n 1, 1) := by decide +kernel
theorem dX8_coat_23 : decode cX8_coat 23 = .ok (.ifCond .ne 21, 3) := by decide +kernel
theorem dX8_coat_26 : decode cX8_coat 26 = .ok (.aload_n 0, 1) := by decide +kernel
theorem dX8_coat_27 : decode cX8_coat 27 = .ok (.getfield 14, 3) := by decide +kernel
theorem dX8_coat_30 : decode cX8_coat 30 = .ok (.getfield 77, 3) := by decide +kernel
theorem dX8_coat_33 : decode cX8_coat 33 = .ok (.getfield 80, 3) := by decide +kernel
theorem dX8_coat_36 : decode cX8_coat 36 = .ok (.iload_n 2, 1) := by decide +kernel
theorem dX8_coat_37 : decode cX8_coat 37 = .ok (.iload_n 3, 1) := by decide +kernel
theorem dX8_coat_38 : decode cX8_coat 38 = .ok (.invokestatic 180, 3) := by decide +kernel
theorem dX8_coat_41 : decode cX8_coat 41 = .ok (.goto 18, 3) := by decide +kernel
theorem dX8_coat_44 : decode cX8_coat 44 = .ok (.aload_n 0, 1) := by decide +kernel
theorem dX8_coat_45 : decode cX8_coat 45 = .ok (.getfield 14, 3) := by decide +kernel
theorem dX8_coat_48 : decode cX8_coat 48 = .ok (.getfield 77, 3) := by decide +kernel
theorem dX8_coat_51 : decode cX8_coat 51 = .ok (.getfield 84, 3) := by decide +kernel
theorem dX8_coat_54 : decode cX8_coat 54 = .ok (.iload_n 3, 1) := by decide +kernel
theorem dX8_coat_55 : decode cX8_coat 55 = .ok (.iload_n 2, 1) := by decide +kernel
theorem dX8_coat_56 : decode cX8_coat 56 = .ok (.invokestatic 180, 3) := by decide +kernel
theorem dX8_coat_59 : decode cX8_coat 59 = .ok (.sipush 10000, 3) := by decide +kernel
theorem dX8_coat_62 : decode cX8_coat 62 = .ok (.iadd, 1) := by decide +kernel
theorem dX8_coat_63 : decode cX8_coat 63 = .ok (.ireturn, 1) := by decide +kernel
theorem dX8_sort_0 : decode cX8_sort 0 = .ok (.iload_n 1, 1) := by decide +kernel
theorem dX8_sort_1 : decode cX8_sort 1 = .ok (.iload_n 2, 1) := by decide +kernel
theorem dX8_sort_2 : decode cX8_sort 2 = .ok (.invokestatic 87, 3) := by decide +kernel
theorem dX8_sort_5 : decode cX8_sort 5 = .ok (.ifCond .ne 6, 3) := by decide +kernel
theorem dX8_sort_8 : decode cX8_sort 8 = .ok (.bipush (-2), 2) := by decide +kernel
theorem dX8_sort_10 : decode cX8_sort 10 = .ok (.ireturn, 1) := by decide +kernel
theorem dX8_sort_11 : decode cX8_sort 11 = .ok (.aload_n 0, 1) := by decide +kernel
theorem dX8_sort_12 : decode cX8_sort 12 = .ok (.iload_n 1, 1) := by decide +kernel
theorem dX8_sort_13 : decode cX8_sort 13 = .ok (.iload_n 2, 1) := by decide +kernel
theorem dX8_sort_14 : decode cX8_sort 14 = .ok (.invokevirtual 97, 3) := by decide +kernel
theorem dX8_sort_17 : decode cX8_sort 17 = .ok (.ireturn, 1) := by decide +kernel
theorem dX8_lowered_0 : decode cX8_lowered 0 = .ok (.iload_n 1, 1) := by decide +kernel
theorem dX8_lowered_1 : decode cX8_lowered 1 = .ok (.iconst 0, 1) := by decide +kernel
theorem dX8_lowered_2 : decode cX8_lowered 2 = .ok (.sipush 999, 3) := by decide +kernel
theorem dX8_lowered_5 : decode cX8_lowered 5 = .ok (.invokestatic 69, 3) := by decide +kernel
theorem dX8_lowered_8 : decode cX8_lowered 8 = .ok (.ifCond .eq 14, 3) := by decide +kernel
theorem dX8_lowered_11 : decode cX8_lowered 11 = .ok (.iload_n 2, 1) := by decide +kernel
theorem dX8_lowered_12 : decode cX8_lowered 12 = .ok (.iconst 0, 1) := by decide +kernel
theorem dX8_lowered_13 : decode cX8_lowered 13 = .ok (.sipush 999, 3) := by decide +kernel
theorem dX8_lowered_16 : decode cX8_lowered 16 = .ok (.invokestatic 69, 3) := by decide +kernel
theorem dX8_lowered_19 : decode cX8_lowered 19 = .ok (.ifCond .ne 6, 3) := by decide +kernel
theorem dX8_lowered_22 : decode cX8_lowered 22 = .ok (.bipush (-2), 2) := by decide +kernel
theorem dX8_lowered_24 : decode cX8_lowered 24 = .ok (.ireturn, 1) := by decide +kernel
theorem dX8_lowered_25 : decode cX8_lowered 25 = .ok (.iload_n 3, 1) := by decide +kernel
theorem dX8_lowered_26 : decode cX8_lowered 26 = .ok (.iconst 0, 1) := by decide +kernel
theorem dX8_lowered_27 : decode cX8_lowered 27 = .ok (.iconst 2, 1) := by decide +kernel
theorem dX8_lowered_28 : decode cX8_lowered 28 = .ok (.invokestatic 69, 3) := by decide +kernel
theorem dX8_lowered_31 : decode cX8_lowered 31 = .ok (.ifCond .ne 5, 3) := by decide +kernel
theorem dX8_lowered_34 : decode cX8_lowered 34 = .ok (.iconst (-1), 1) := by decide +kernel
theorem dX8_lowered_35 : decode cX8_lowered 35 = .ok (.ireturn, 1) := by decide +kernel
theorem dX8_lowered_36 : decode cX8_lowered 36 = .ok (.aload_n 0, 1) := by decide +kernel
theorem dX8_lowered_37 : decode cX8_lowered 37 = .ok (.getfield 35, 3) := by decide +kernel
theorem dX8_lowered_40 : decode cX8_lowered 40 = .ok (.aload_n 0, 1) := by decide +kernel
theorem dX8_lowered_41 : decode cX8_lowered 41 = .ok (.getfield 14, 3) := by decide +kernel
theorem dX8_lowered_44 : decode cX8_lowered 44 = .ok (.getfield 77, 3) := by decide +kernel
theorem dX8_lowered_47 : decode cX8_lowered 47 = .ok (.getfield 80, 3) := by decide +kernel
theorem dX8_lowered_50 : decode cX8_lowered 50 = .ok (.aload_n 0, 1) := by decide +kernel
theorem dX8_lowered_51 : decode cX8_lowered 51 = .ok (.getfield 14, 3) := by decide +kernel
theorem dX8_lowered_54 : decode cX8_lowered 54 = .ok (.getfield 77, 3) := by decide +kernel
theorem dX8_lowered_57 : decode cX8_lowered 57 = .ok (.getfield 84, 3) := by decide +kernel
theorem dX8_lowered_60 : decode cX8_lowered 60 = .ok (.iload_n 1, 1) := by decide +kernel
theorem dX8_lowered_61 : decode cX8_lowered 61 = .ok (.iload_n 2, 1) := by decide +kernel
theorem dX8_lowered_62 : decode cX8_lowered 62 = .ok (.invokevirtual 183, 3) := by decide +kernel
theorem dX8_lowered_65 : decode cX8_lowered 65 = .ok (.iload_n 3, 1) := by decide +kernel
theorem dX8_lowered_66 : decode cX8_lowered 66 = .ok (.iconst 2, 1) := by decide +kernel
theorem dX8_lowered_67 : decode cX8_lowered 67 = .ok (.if_icmp .ne 11, 3) := by decide +kernel
theorem dX8_lowered_70 : decode cX8_lowered 70 = .ok (.aload_n 0, 1) := by decide +kernel
theorem dX8_lowered_71 : decode cX8_lowered 71 = .ok (.getfield 35, 3) := by decide +kernel
theorem dX8_lowered_74 : decode cX8_lowered 74 = .ok (.getfield 187, 3) := by decide +kernel
theorem dX8_lowered_77 : decode cX8_lowered 77 = .ok (.ireturn, 1) := by decide +kernel
theorem dX8_lowered_78 : decode cX8_lowered 78 = .ok (.iload_n 3, 1) := by decide +kernel
theorem dX8_lowered_79 : decode cX8_lowered 79 = .ok (.ifCond .ne 13, 3) := by decide +kernel
theorem dX8_lowered_82 : decode cX8_lowered 82 = .ok (.aload_n 0, 1) := by decide +kernel
theorem dX8_lowered_83 : decode cX8_lowered 83 = .ok (.getfield 35, 3) := by decide +kernel
theorem dX8_lowered_86 : decode cX8_lowered 86 = .ok (.getfield 190, 3) := by decide +kernel
theorem dX8_lowered_89 : decode cX8_lowered 89 = .ok (.goto 10, 3) := by decide +kernel
theorem dX8_lowered_92 : decode cX8_lowered 92 = .ok (.aload_n 0, 1) := by decide +kernel
theorem dX8_lowered_93 : decode cX8_lowered 93 = .ok (.getfield 35, 3) := by decide +kernel
theorem dX8_lowered_96 : decode cX8_lowered 96 = .ok (.getfield 191, 3) := by decide +kernel
theorem dX8_lowered_99 : decode cX8_lowered 99 = .ok (.sipush 1000, 3) := by decide +kernel
theorem dX8_lowered_102 : decode cX8_lowered 102 = .ok (.iadd, 1) := by decide +kernel
theorem dX8_lowered_103 : decode cX8_lowered 103 = .ok (.ireturn, 1) := by decide +kernel
theorem dX8_string_0 : decode cX8_string 0 = .ok (.iload_n 1, 1) := by decide +kernel
theorem dX8_string_1 : decode cX8_string 1 = .ok (.iconst 0, 1) := by decide +kernel
theorem dX8_string_2 : decode cX8_string 2 = .ok (.iconst 1, 1) := by decide +kernel
theorem dX8_string_3 : decode cX8_string 3 = .ok (.invokestatic 69, 3) := by decide +kernel
theorem dX8_string_6 : decode cX8_string 6 = .ok (.ifCond .eq 13, 3) := by decide +kernel
theorem dX8_string_9 : decode cX8_string 9 = .ok (.iload 4, 2) := by decide +kernel
theorem dX8_string_11 : decode cX8_string 11 = .ok (.iconst 0, 1) := by decide +kernel
theorem dX8_string_12 : decode cX8_string 12 = .ok (.iconst 1, 1) := by decide +kernel
theorem dX8_string_13 : decode cX8_string 13 = .ok (.invokestatic 69, 3) := by decide +kernel
theorem dX8_string_16 : decode cX8_string 16 = .ok (.ifCond .ne 5, 3) := by decide +kernel
theorem dX8_string_19 : decode cX8_string 19 = .ok (.iconst (-1), 1) := by decide +kernel
theorem dX8_string_20 : decode cX8_string 20 = .ok (.ireturn, 1) := by decide +kernel
theorem dX8_string_21 : decode cX8_string 21 = .ok (.iload_n 2, 1) := by decide +kernel
theorem dX8_string_22 : decode cX8_string 22 = .ok (.bipush (-99), 2) := by decide +kernel
theorem dX8_string_24 : decode cX8_string 24 = .ok (.bipush 99, 2) := by decide +kernel
theorem dX8_string_26 : decode cX8_string 26 = .ok (.invokestatic 69, 3) := by decide +kernel
theorem dX8_string_29 : decode cX8_string 29 = .ok (.ifCond .eq 14, 3) := by decide +kernel
theorem dX8_string_32 : decode cX8_string 32 = .ok (.iload_n 3, 1) := by decide +kernel
theorem dX8_string_33 : decode cX8_string 33 = .ok (.bipush (-99), 2) := by decide +kernel
theorem dX8_string_35 : decode cX8_string 35 = .ok (.bipush 99, 2) := by decide +kernel
theorem dX8_string_37 : decode cX8_string 37 = .ok (.invokestatic 69, 3) := by decide +kernel
theorem dX8_string_40 : decode cX8_string 40 = .ok (.ifCond .ne 6, 3) := by decide +kernel
theorem dX8_string_43 : decode cX8_string 43 = .ok (.bipush (-2), 2) := by decide +kernel
theorem dX8_string_45 : decode cX8_string 45 = .ok (.ireturn, 1) := by decide +kernel
theorem dX8_string_46 : decode cX8_string 46 = .ok (.aload_n 0, 1) := by decide +kernel
theorem dX8_string_47 : decode cX8_string 47 = .ok (.iload_n 2, 1) := by decide +kernel
theorem dX8_string_48 : decode cX8_string 48 = .ok (.iload_n 3, 1) := by decide +kernel
theorem dX8_string_49 : decode cX8_string 49 = .ok (.invokevirtual 97, 3) := by decide +kernel
theorem dX8_string_52 : decode cX8_string 52 = .ok (.ifCond .eq 12, 3) := by decide +kernel
theorem dX8_string_55 : decode cX8_string 55 = .ok (.iload_n 1, 1) := by decide +kernel
theorem dX8_string_56 : decode cX8_string 56 = .ok (.iload_n 2, 1) := by decide +kernel
theorem dX8_string_57 : decode cX8_string 57 = .ok (.iload_n 3, 1) := by decide +kernel
theorem dX8_string_58 : decode cX8_string 58 = .ok (.invokestatic 192, 3) := by decide +kernel
theorem dX8_string_61 : decode cX8_string 61 = .ok (.ifCond .eq 6, 3) := by decide +kernel
theorem dX8_string_64 : decode cX8_string 64 = .ok (.bipush (-3), 2) := by decide +kernel
theorem dX8_string_66 : decode cX8_string 66 = .ok (.ireturn, 1) := by decide +kernel
theorem dX8_string_67 : decode cX8_string 67 = .ok (.iload 4, 2) := by decide +kernel
theorem dX8_string_69 : decode cX8_string 69 = .ok (.ifCond .ne 7, 3) := by decide +kernel
theorem dX8_string_72 : decode cX8_string 72 = .ok (.iconst (-1), 1) := by decide +kernel
theorem dX8_string_73 : decode cX8_string 73 = .ok (.goto 4, 3) := by decide +kernel
theorem dX8_string_76 : decode cX8_string 76 = .ok (.iconst 1, 1) := by decide +kernel
theorem dX8_string_77 : decode cX8_string 77 = .ok (.istore 5, 2) := by decide +kernel
theorem dX8_string_79 : decode cX8_string 79 = .ok (.aload_n 0, 1) := by decide +kernel
theorem dX8_string_80 : decode cX8_string 80 = .ok (.iload_n 2, 1) := by decide +kernel
theorem dX8_string_81 : decode cX8_string 81 = .ok (.iload_n 3, 1) := by decide +kernel
theorem dX8_string_82 : decode cX8_string 82 = .ok (.iload_n 1, 1) := by decide +kernel
theorem dX8_string_83 : decode cX8_string 83 = .ok (.ifCond .ne 8, 3) := by decide +kernel
theorem dX8_string_86 : decode cX8_string 86 = .ok (.iload 5, 2) := by decide +kernel
theorem dX8_string_88 : decode cX8_string 88 = .ok (.goto 4, 3) := by decide +kernel
theorem dX8_string_91 : decode cX8_string 91 = .ok (.iconst 0, 1) := by decide +kernel
theorem dX8_string_92 : decode cX8_string 92 = .ok (.iload_n 1, 1) := by decide +kernel
theorem dX8_string_93 : decode cX8_string 93 = .ok (.ifCond .ne 7, 3) := by decide +kernel
theorem dX8_string_96 : decode cX8_string 96 = .ok (.iconst 0, 1) := by decide +kernel
theorem dX8_string_97 : decode cX8_string 97 = .ok (.goto 5, 3) := by decide +kernel
theorem dX8_string_100 : decode cX8_string 100 = .ok (.iload 5, 2) := by decide +kernel
theorem dX8_string_102 : decode cX8_string 102 = .ok (.invokevirtual 195, 3) := by decide +kernel
theorem dX8_string_105 : decode cX8_string 105 = .ok (.ireturn, 1) := by decide +kernel
theorem dX8_isOnOwnLine_0 : decode cX8_isOnOwnLine 0 = .ok (.iload_n 0, 1) := by decide +kernel
theorem dX8_isOnOwnLine_1 : decode cX8_isOnOwnLine 1 = .ok (.ifCond .ne 15, 3) := by decide +kernel
theorem dX8_isOnOwnLine_4 : decode cX8_isOnOwnLine 4 = .ok (.iload_n 2, 1) := by decide +kernel
theorem dX8_isOnOwnLine_5 : decode cX8_isOnOwnLine 5 = .ok (.ifCond .ne 7, 3) := by decide +kernel
theorem dX8_isOnOwnLine_8 : decode cX8_isOnOwnLine 8 = .ok (.iconst 1, 1) := by decide +kernel
theorem dX8_isOnOwnLine_9 : decode cX8_isOnOwnLine 9 = .ok (.goto 16, 3) := by decide +kernel
theorem dX8_isOnOwnLine_12 : decode cX8_isOnOwnLine 12 = .ok (.iconst 0, 1) := by decide +kernel
theorem dX8_isOnOwnLine_13 : decode cX8_isOnOwnLine 13 = .ok (.goto 12, 3) := by decide +kernel
theorem dX8_isOnOwnLine_16 : decode cX8_isOnOwnLine 16 = .ok (.iload_n 1, 1) := by decide +kernel
theorem dX8_isOnOwnLine_17 : decode cX8_isOnOwnLine 17 = .ok (.ifCond .ne 7, 3) := by decide +kernel
theorem dX8_isOnOwnLine_20 : decode cX8_isOnOwnLine 20 = .ok (.iconst 1, 1) := by decide +kernel
theorem dX8_isOnOwnLine_21 : decode cX8_isOnOwnLine 21 = .ok (.goto 4, 3) := by decide +kernel
theorem dX8_isOnOwnLine_24 : decode cX8_isOnOwnLine 24 = .ok (.iconst 0, 1) := by decide +kernel
theorem dX8_isOnOwnLine_25 : decode cX8_isOnOwnLine 25 = .ok (.ireturn, 1) := by decide +kernel
theorem dX8_rootsAhead_0 : decode cX8_rootsAhead 0 = .ok (.iconst 0, 1) := by decide +kernel
theorem dX8_rootsAhead_1 : decode cX8_rootsAhead 1 = .ok (.istore 5, 2) := by decide +kernel
theorem dX8_rootsAhead_3 : decode cX8_rootsAhead 3 = .ok (.iconst 1, 1) := by decide +kernel
theorem dX8_rootsAhead_4 : decode cX8_rootsAhead 4 = .ok (.istore 6, 2) := by decide +kernel
theorem dX8_rootsAhead_6 : decode cX8_rootsAhead 6 = .ok (.iload 6, 2) := by decide +kernel
theorem dX8_rootsAhead_8 : decode cX8_rootsAhead 8 = .ok (.sipush 1998, 3) := by decide +kernel
theorem dX8_rootsAhead_11 : decode cX8_rootsAhead 11 = .ok (.if_icmp .gt 53, 3) := by decide +kernel
theorem dX8_rootsAhead_14 : decode cX8_rootsAhead 14 = .ok (.iload_n 1, 1) := by decide +kernel
theorem dX8_rootsAhead_15 : decode cX8_rootsAhead 15 = .ok (.iload 6, 2) := by decide +kernel
theorem dX8_rootsAhead_17 : decode cX8_rootsAhead 17 = .ok (.iload_n 3, 1) := by decide +kernel
theorem dX8_rootsAhead_18 : decode cX8_rootsAhead 18 = .ok (.imul, 1) := by decide +kernel
theorem dX8_rootsAhead_19 : decode cX8_rootsAhead 19 = .ok (.iadd, 1) := by decide +kernel
theorem dX8_rootsAhead_20 : decode cX8_rootsAhead 20 = .ok (.istore 7, 2) := by decide +kernel
theorem dX8_rootsAhead_22 : decode cX8_rootsAhead 22 = .ok (.iload_n 2, 1) := by decide +kernel
theorem dX8_rootsAhead_23 : decode cX8_rootsAhead 23 = .ok (.iload 6, 2) := by decide +kernel
theorem dX8_rootsAhead_25 : decode cX8_rootsAhead 25 = .ok (.iload 4, 2) := by decide +kernel
theorem dX8_rootsAhead_27 : decode cX8_rootsAhead 27 = .ok (.imul, 1) := by decide +kernel
theorem dX8_rootsAhead_28 : decode cX8_rootsAhead 28 = .ok (.iadd, 1) := by decide +kernel
theorem dX8_rootsAhead_29 : decode cX8_rootsAhead 29 = .ok (.istore 8, 2) := by decide +kernel
theorem dX8_rootsAhead_31 : decode cX8_rootsAhead 31 = .ok (.iload 7, 2) := by decide +kernel
theorem dX8_rootsAhead_33 : decode cX8_rootsAhead 33 = .ok (.iload 8, 2) := by decide +kernel
theorem dX8_rootsAhead_35 : decode cX8_rootsAhead 35 = .ok (.invokestatic 87, 3) := by decide +kernel
theorem dX8_rootsAhead_38 : decode cX8_rootsAhead 38 = .ok (.ifCond .eq 14, 3) := by decide +kernel
theorem dX8_rootsAhead_41 : decode cX8_rootsAhead 41 = .ok (.aload_n 0, 1) := by decide +kernel
theorem dX8_rootsAhead_42 : decode cX8_rootsAhead 42 = .ok (.iload 7, 2) := by decide +kernel
theorem dX8_rootsAhead_44 : decode cX8_rootsAhead 44 = .ok (.iload 8, 2) := by decide +kernel
theorem dX8_rootsAhead_46 : decode cX8_rootsAhead 46 = .ok (.invokevirtual 97, 3) := by decide +kernel
theorem dX8_rootsAhead_49 : decode cX8_rootsAhead 49 = .ok (.ifCond .ne 6, 3) := by decide +kernel
theorem dX8_rootsAhead_52 : decode cX8_rootsAhead 52 = .ok (.iload 5, 2) := by decide +kernel
theorem dX8_rootsAhead_54 : decode cX8_rootsAhead 54 = .ok (.ireturn, 1) := by decide +kernel
theorem dX8_rootsAhead_55 : decode cX8_rootsAhead 55 = .ok (.iinc 5 1, 3) := by decide +kernel
theorem dX8_rootsAhead_58 : decode cX8_rootsAhead 58 = .ok (.iinc 6 1, 3) := by decide +kernel
theorem dX8_rootsAhead_61 : decode cX8_rootsAhead 61 = .ok (.goto (-55), 3) := by decide +kernel
theorem dX8_rootsAhead_64 : decode cX8_rootsAhead 64 = .ok (.iload 5, 2) := by decide +kernel
theorem dX8_rootsAhead_66 : decode cX8_rootsAhead 66 = .ok (.ireturn, 1) := by decide +kernel
theorem dX8_counted_0 : decode cX8_counted 0 = .ok (.iload_n 1, 1) := by decide +kernel
theorem dX8_counted_1 : decode cX8_counted 1 = .ok (.iload_n 2, 1) := by decide +kernel
theorem dX8_counted_2 : decode cX8_counted 2 = .ok (.invokestatic 199, 3) := by decide +kernel
theorem dX8_counted_5 : decode cX8_counted 5 = .ok (.ifCond .ne 6, 3) := by decide +kernel
theorem dX8_counted_8 : decode cX8_counted 8 = .ok (.bipush (-2), 2) := by decide +kernel
theorem dX8_counted_10 : decode cX8_counted 10 = .ok (.ireturn, 1) := by decide +kernel
theorem dX8_counted_11 : decode cX8_counted 11 = .ok (.aload_n 0, 1) := by decide +kernel
theorem dX8_counted_12 : decode cX8_counted 12 = .ok (.getfield 44, 3) := by decide +kernel
theorem dX8_counted_15 : decode cX8_counted 15 = .ok (.aload_n 0, 1) := by decide +kernel
theorem dX8_counted_16 : decode cX8_counted 16 = .ok (.getfield 14, 3) := by decide +kernel
theorem dX8_counted_19 : decode cX8_counted 19 = .ok (.getfield 77, 3) := by decide +kernel
theorem dX8_counted_22 : decode cX8_counted 22 = .ok (.getfield 80, 3) := by decide +kernel
theorem dX8_counted_25 : decode cX8_counted 25 = .ok (.aload_n 0, 1) := by decide +kernel
theorem dX8_counted_26 : decode cX8_counted 26 = .ok (.getfield 14, 3) := by decide +kernel
theorem dX8_counted_29 : decode cX8_counted 29 = .ok (.getfield 77, 3) := by decide +kernel
theorem dX8_counted_32 : decode cX8_counted 32 = .ok (.getfield 84, 3) := by decide +kernel
theorem dX8_counted_35 : decode cX8_counted 35 = .ok (.invokevirtual 202, 3) := by decide +kernel
theorem dX8_counted_38 : decode cX8_counted 38 = .ok (.aload_n 0, 1) := by decide +kernel
theorem dX8_counted_39 : decode cX8_counted 39 = .ok (.getfield 44, 3) := by decide +kernel
theorem dX8_counted_42 : decode cX8_counted 42 = .ok (.iload_n 1, 1) := by decide +kernel
theorem dX8_counted_43 : decode cX8_counted 43 = .ok (.iload_n 2, 1) := by decide +kernel
theorem dX8_counted_44 : decode cX8_counted 44 = .ok (.invokevirtual 206, 3) := by decide +kernel
theorem dX8_counted_47 : decode cX8_counted 47 = .ok (.ireturn, 1) := by decide +kernel
theorem dX8_c_0 : decode cX8_c 0 = .ok (.iload_n 1, 1) := by decide +kernel
theorem dX8_c_1 : decode cX8_c 1 = .ok (.iload_n 2, 1) := by decide +kernel
theorem dX8_c_2 : decode cX8_c 2 = .ok (.invokestatic 199, 3) := by decide +kernel
theorem dX8_c_5 : decode cX8_c 5 = .ok (.ifCond .eq 12, 3) := by decide +kernel
theorem dX8_c_8 : decode cX8_c 8 = .ok (.iload_n 3, 1) := by decide +kernel
theorem dX8_c_9 : decode cX8_c 9 = .ok (.iconst 0, 1) := by decide +kernel
theorem dX8_c_10 : decode cX8_c 10 = .ok (.iconst 1, 1) := by decide +kernel
theorem dX8_c_11 : decode cX8_c 11 = .ok (.invokestatic 69, 3) := by decide +kernel
theorem dX8_c_14 : decode cX8_c 14 = .ok (.ifCond .ne 7, 3) := by decide +kernel
theorem dX8_c_17 : decode cX8_c 17 = .ok (.ldc2_w 170, 3) := by decide +kernel
theorem dX8_c_20 : decode cX8_c 20 = .ok (.lreturn, 1) := by decide +kernel
theorem dX8_c_21 : decode cX8_c 21 = .ok (.aload_n 0, 1) := by decide +kernel
theorem dX8_c_22 : decode cX8_c 22 = .ok (.getfield 44, 3) := by decide +kernel
theorem dX8_c_25 : decode cX8_c 25 = .ok (.aload_n 0, 1) := by decide +kernel
theorem dX8_c_26 : decode cX8_c 26 = .ok (.getfield 14, 3) := by decide +kernel
theorem dX8_c_29 : decode cX8_c 29 = .ok (.getfield 77, 3) := by decide +kernel
theorem dX8_c_32 : decode cX8_c 32 = .ok (.getfield 80, 3) := by decide +kernel
theorem dX8_c_35 : decode cX8_c 35 = .ok (.aload_n 0, 1) := by decide +kernel
theorem dX8_c_36 : decode cX8_c 36 = .ok (.getfield 14, 3) := by decide +kernel
theorem dX8_c_39 : decode cX8_c 39 = .ok (.getfield 77, 3) := by decide +kernel
theorem dX8_c_42 : decode cX8_c 42 = .ok (.getfield 84, 3) := by decide +kernel
theorem dX8_c_45 : decode cX8_c 45 = .ok (.invokevirtual 202, 3) := by decide +kernel
theorem dX8_c_48 : decode cX8_c 48 = .ok (.aload_n 0, 1) := by decide +kernel
theorem dX8_c_49 : decode cX8_c 49 = .ok (.getfield 44, 3) := by decide +kernel
theorem dX8_c_52 : decode cX8_c 52 = .ok (.iload_n 1, 1) := by decide +kernel
theorem dX8_c_53 : decode cX8_c 53 = .ok (.iload_n 2, 1) := by decide +kernel
theorem dX8_c_54 : decode cX8_c 54 = .ok (.invokevirtual 209, 3) := by decide +kernel
theorem dX8_c_57 : decode cX8_c 57 = .ok (.ldc2_w 213, 3) := by decide +kernel
theorem dX8_c_60 : decode cX8_c 60 = .ok (.iload_n 3, 1) := by decide +kernel
theorem dX8_c_61 : decode cX8_c 61 = .ok (.invokestatic 215, 3) := by decide +kernel
theorem dX8_c_64 : decode cX8_c 64 = .ok (.lreturn, 1) := by decide +kernel
theorem dX8_level_0 : decode cX8_level 0 = .ok (.iload_n 1, 1) := by decide +kernel
theorem dX8_level_1 : decode cX8_level 1 = .ok (.iconst 1, 1) := by decide +kernel
theorem dX8_level_2 : decode cX8_level 2 = .ok (.bipush 12, 2) := by decide +kernel
theorem dX8_level_4 : decode cX8_level 4 = .ok (.invokestatic 69, 3) := by decide +kernel
theorem dX8_level_7 : decode cX8_level 7 = .ok (.ifCond .ne 6, 3) := by decide +kernel
theorem dX8_level_10 : decode cX8_level 10 = .ok (.bipush (-2), 2) := by decide +kernel
theorem dX8_level_12 : decode cX8_level 12 = .ok (.ireturn, 1) := by decide +kernel
theorem dX8_level_13 : decode cX8_level 13 = .ok (.iload_n 2, 1) := by decide +kernel
theorem dX8_level_14 : decode cX8_level 14 = .ok (.iconst 0, 1) := by decide +kernel
theorem dX8_level_15 : decode cX8_level 15 = .ok (.iconst 1, 1) := by decide +kernel
theorem dX8_level_16 : decode cX8_level 16 = .ok (.invokestatic 69, 3) := by decide +kernel
theorem dX8_level_19 : decode cX8_level 19 = .ok (.ifCond .ne 5, 3) := by decide +kernel
theorem dX8_level_22 : decode cX8_level 22 = .ok (.iconst (-1), 1) := by decide +kernel
theorem dX8_level_23 : decode cX8_level 23 = .ok (.ireturn, 1) := by decide +kernel
theorem dX8_level_24 : decode cX8_level 24 = .ok (.aload_n 0, 1) := by decide +kernel
theorem dX8_level_25 : decode cX8_level 25 = .ok (.getfield 44, 3) := by decide +kernel
theorem dX8_level_28 : decode cX8_level 28 = .ok (.aload_n 0, 1) := by decide +kernel
theorem dX8_level_29 : decode cX8_level 29 = .ok (.getfield 14, 3) := by decide +kernel
theorem dX8_level_32 : decode cX8_level 32 = .ok (.getfield 77, 3) := by decide +kernel
theorem dX8_level_35 : decode cX8_level 35 = .ok (.getfield 80, 3) := by decide +kernel
theorem dX8_level_38 : decode cX8_level 38 = .ok (.aload_n 0, 1) := by decide +kernel
theorem dX8_level_39 : decode cX8_level 39 = .ok (.getfield 14, 3) := by decide +kernel
theorem dX8_level_42 : decode cX8_level 42 = .ok (.getfield 77, 3) := by decide +kernel
theorem dX8_level_45 : decode cX8_level 45 = .ok (.getfield 84, 3) := by decide +kernel
theorem dX8_level_48 : decode cX8_level 48 = .ok (.invokevirtual 202, 3) := by decide +kernel
theorem dX8_level_51 : decode cX8_level 51 = .ok (.iload_n 2, 1) := by decide +kernel
theorem dX8_level_52 : decode cX8_level 52 = .ok (.ifCond .ne 14, 3) := by decide +kernel
theorem dX8_level_55 : decode cX8_level 55 = .ok (.aload_n 0, 1) := by decide +kernel
theorem dX8_level_56 : decode cX8_level 56 = .ok (.getfield 44, 3) := by decide +kernel
theorem dX8_level_59 : decode cX8_level 59 = .ok (.iload_n 1, 1) := by decide +kernel
theorem dX8_level_60 : decode cX8_level 60 = .ok (.invokevirtual 219, 3) := by decide +kernel
theorem dX8_level_63 : decode cX8_level 63 = .ok (.goto 11, 3) := by decide +kernel
theorem dX8_level_66 : decode cX8_level 66 = .ok (.aload_n 0, 1) := by decide +kernel
theorem dX8_level_67 : decode cX8_level 67 = .ok (.getfield 44, 3) := by decide +kernel
theorem dX8_level_70 : decode cX8_level 70 = .ok (.iload_n 1, 1) := by decide +kernel
theorem dX8_level_71 : decode cX8_level 71 = .ok (.invokevirtual 222, 3) := by decide +kernel
theorem dX8_level_74 : decode cX8_level 74 = .ok (.ireturn, 1) := by decide +kernel
theorem dX8_made_0 : decode cX8_made 0 = .ok (.iload_n 1, 1) := by decide +kernel
theorem dX8_made_1 : decode cX8_made 1 = .ok (.iload_n 2, 1) := by decide +kernel
theorem dX8_made_2 : decode cX8_made 2 = .ok (.invokestatic 225, 3) := by decide +kernel
theorem dX8_made_5 : decode cX8_made 5 = .ok (.ifCond .ne 7, 3) := by decide +kernel
theorem dX8_made_8 : decode cX8_made 8 = .ok (.ldc2_w 170, 3) := by decide +kernel
theorem dX8_made_11 : decode cX8_made 11 = .ok (.lreturn, 1) := by decide +kernel
theorem dX8_made_12 : decode cX8_made 12 = .ok (.aload_n 0, 1) := by decide +kernel
theorem dX8_made_13 : decode cX8_made 13 = .ok (.getfield 44, 3) := by decide +kernel
theorem dX8_made_16 : decode cX8_made 16 = .ok (.aload_n 0, 1) := by decide +kernel
theorem dX8_made_17 : decode cX8_made 17 = .ok (.getfield 14, 3) := by decide +kernel
theorem dX8_made_20 : decode cX8_made 20 = .ok (.getfield 77, 3) := by decide +kernel
theorem dX8_made_23 : decode cX8_made 23 = .ok (.getfield 80, 3) := by decide +kernel
theorem dX8_made_26 : decode cX8_made 26 = .ok (.aload_n 0, 1) := by decide +kernel
theorem dX8_made_27 : decode cX8_made 27 = .ok (.getfield 14, 3) := by decide +kernel
theorem dX8_made_30 : decode cX8_made 30 = .ok (.getfield 77, 3) := by decide +kernel
theorem dX8_made_33 : decode cX8_made 33 = .ok (.getfield 84, 3) := by decide +kernel
theorem dX8_made_36 : decode cX8_made 36 = .ok (.invokevirtual 202, 3) := by decide +kernel
theorem dX8_made_39 : decode cX8_made 39 = .ok (.aload_n 0, 1) := by decide +kernel
theorem dX8_made_40 : decode cX8_made 40 = .ok (.getfield 51, 3) := by decide +kernel
theorem dX8_made_43 : decode cX8_made 43 = .ok (.aload_n 0, 1) := by decide +kernel
theorem dX8_made_44 : decode cX8_made 44 = .ok (.getfield 44, 3) := by decide +kernel
theorem dX8_made_47 : decode cX8_made 47 = .ok (.invokevirtual 228, 3) := by decide +kernel
theorem dX8_made_50 : decode cX8_made 50 = .ok (.aload_n 0, 1) := by decide +kernel
theorem dX8_made_51 : decode cX8_made 51 = .ok (.getfield 51, 3) := by decide +kernel
theorem dX8_made_54 : decode cX8_made 54 = .ok (.iload_n 1, 1) := by decide +kernel
theorem dX8_made_55 : decode cX8_made 55 = .ok (.iload_n 2, 1) := by decide +kernel
theorem dX8_made_56 : decode cX8_made 56 = .ok (.invokevirtual 232, 3) := by decide +kernel
theorem dX8_made_59 : decode cX8_made 59 = .ok (.lreturn, 1) := by decide +kernel
theorem dX8_signed_0 : decode cX8_signed 0 = .ok (.iload_n 1, 1) := by decide +kernel
theorem dX8_signed_1 : decode cX8_signed 1 = .ok (.iload_n 2, 1) := by decide +kernel
theorem dX8_signed_2 : decode cX8_signed 2 = .ok (.invokestatic 225, 3) := by decide +kernel
theorem dX8_signed_5 : decode cX8_signed 5 = .ok (.ifCond .ne 6, 3) := by decide +kernel
theorem dX8_signed_8 : decode cX8_signed 8 = .ok (.bipush (-2), 2) := by decide +kernel
theorem dX8_signed_10 : decode cX8_signed 10 = .ok (.ireturn, 1) := by decide +kernel
theorem dX8_signed_11 : decode cX8_signed 11 = .ok (.aload_n 0, 1) := by decide +kernel
theorem dX8_signed_12 : decode cX8_signed 12 = .ok (.iload_n 1, 1) := by decide +kernel
theorem dX8_signed_13 : decode cX8_signed 13 = .ok (.iload_n 2, 1) := by decide +kernel
theorem dX8_signed_14 : decode cX8_signed 14 = .ok (.iconst 0, 1) := by decide +kernel
theorem dX8_signed_15 : decode cX8_signed 15 = .ok (.invokevirtual 235, 3) := by decide +kernel
theorem dX8_signed_18 : decode cX8_signed 18 = .ok (.istore_n 3, 1) := by decide +kernel
theorem dX8_signed_19 : decode cX8_signed 19 = .ok (.aload_n 0, 1) := by decide +kernel
theorem dX8_signed_20 : decode cX8_signed 20 = .ok (.iload_n 1, 1) := by decide +kernel
theorem dX8_signed_21 : decode cX8_signed 21 = .ok (.iload_n 2, 1) := by decide +kernel
theorem dX8_signed_22 : decode cX8_signed 22 = .ok (.iconst 1, 1) := by decide +kernel
theorem dX8_signed_23 : decode cX8_signed 23 = .ok (.invokevirtual 235, 3) := by decide +kernel
theorem dX8_signed_26 : decode cX8_signed 26 = .ok (.istore 4, 2) := by decide +kernel
theorem dX8_signed_28 : decode cX8_signed 28 = .ok (.iload_n 3, 1) := by decide +kernel
theorem dX8_signed_29 : decode cX8_signed 29 = .ok (.ifCond .ge 10, 3) := by decide +kernel
theorem dX8_signed_32 : decode cX8_signed 32 = .ok (.iload 4, 2) := by decide +kernel
theorem dX8_signed_34 : decode cX8_signed 34 = .ok (.ifCond .ge 5, 3) := by decide +kernel
theorem dX8_signed_37 : decode cX8_signed 37 = .ok (.iconst 1, 1) := by decide +kernel
theorem dX8_signed_38 : decode cX8_signed 38 = .ok (.ireturn, 1) := by decide +kernel
theorem dX8_signed_39 : decode cX8_signed 39 = .ok (.iload_n 3, 1) := by decide +kernel
theorem dX8_signed_40 : decode cX8_signed 40 = .ok (.ifCond .lt 14, 3) := by decide +kernel
theorem dX8_signed_43 : decode cX8_signed 43 = .ok (.iload 4, 2) := by decide +kernel
theorem dX8_signed_45 : decode cX8_signed 45 = .ok (.ifCond .lt 14, 3) := by decide +kernel
theorem dX8_signed_48 : decode cX8_signed 48 = .ok (.iload 4, 2) := by decide +kernel
theorem dX8_signed_50 : decode cX8_signed 50 = .ok (.iload_n 3, 1) := by decide +kernel
theorem dX8_signed_51 : decode cX8_signed 51 = .ok (.if_icmp .ge 8, 3) := by decide +kernel
theorem dX8_signed_54 : decode cX8_signed 54 = .ok (.iload 4, 2) := by decide +kernel
theorem dX8_signed_56 : decode cX8_signed 56 = .ok (.goto 4, 3) := by decide +kernel
theorem dX8_signed_59 : decode cX8_signed 59 = .ok (.iload_n 3, 1) := by decide +kernel
theorem dX8_signed_60 : decode cX8_signed 60 = .ok (.istore 5, 2) := by decide +kernel
theorem dX8_signed_62 : decode cX8_signed 62 = .ok (.iload 5, 2) := by decide +kernel
theorem dX8_signed_64 : decode cX8_signed 64 = .ok (.iconst 2, 1) := by decide +kernel
theorem dX8_signed_65 : decode cX8_signed 65 = .ok (.irem, 1) := by decide +kernel
theorem dX8_signed_66 : decode cX8_signed 66 = .ok (.ifCond .ne 7, 3) := by decide +kernel
theorem dX8_signed_69 : decode cX8_signed 69 = .ok (.iconst 2, 1) := by decide +kernel
theorem dX8_signed_70 : decode cX8_signed 70 = .ok (.goto 4, 3) := by decide +kernel
theorem dX8_signed_73 : decode cX8_signed 73 = .ok (.iconst 0, 1) := by decide +kernel
theorem dX8_signed_74 : decode cX8_signed 74 = .ok (.ireturn, 1) := by decide +kernel
theorem dX8_shortestWordTo_0 : decode cX8_shortestWordTo 0 = .ok (.iconst 0, 1) := by decide +kernel
theorem dX8_shortestWordTo_1 : decode cX8_shortestWordTo 1 = .ok (.istore 4, 2) := by decide +kernel
theorem dX8_shortestWordTo_3 : decode cX8_shortestWordTo 3 = .ok (.iconst 0, 1) := by decide +kernel
theorem dX8_shortestWordTo_4 : decode cX8_shortestWordTo 4 = .ok (.istore 5, 2) := by decide +kernel
theorem dX8_shortestWordTo_6 : decode cX8_shortestWordTo 6 = .ok (.iload_n 3, 1) := by decide +kernel
theorem dX8_shortestWordTo_7 : decode cX8_shortestWordTo 7 = .ok (.istore 6, 2) := by decide +kernel
theorem dX8_shortestWordTo_9 : decode cX8_shortestWordTo 9 = .ok (.iconst 0, 1) := by decide +kernel
theorem dX8_shortestWordTo_10 : decode cX8_shortestWordTo 10 = .ok (.istore 7, 2) := by decide +kernel
theorem dX8_shortestWordTo_12 : decode cX8_shortestWordTo 12 = .ok (.iload 7, 2) := by decide +kernel
theorem dX8_shortestWordTo_14 : decode cX8_shortestWordTo 14 = .ok (.bipush 24, 2) := by decide +kernel
theorem dX8_shortestWordTo_16 : decode cX8_shortestWordTo 16 = .ok (.if_icmp .gt 96, 3) := by decide +kernel
theorem dX8_shortestWordTo_19 : decode cX8_shortestWordTo 19 = .ok (.iload 4, 2) := by decide +kernel
theorem dX8_shortestWordTo_21 : decode cX8_shortestWordTo 21 = .ok (.iload_n 1, 1) := by decide +kernel
theorem dX8_shortestWordTo_22 : decode cX8_shortestWordTo 22 = .ok (.if_icmp .ne 12, 3) := by decide +kernel
theorem dX8_shortestWordTo_25 : decode cX8_shortestWordTo 25 = .ok (.iload 5, 2) := by decide +kernel
theorem dX8_shortestWordTo_27 : decode cX8_shortestWordTo 27 = .ok (.iload_n 2, 1) := by decide +kernel
theorem dX8_shortestWordTo_28 : decode cX8_shortestWordTo 28 = .ok (.if_icmp .ne 6, 3) := by decide +kernel
theorem dX8_shortestWordTo_31 : decode cX8_shortestWordTo 31 = .ok (.iload 7, 2) := by decide +kernel
theorem dX8_shortestWordTo_33 : decode cX8_shortestWordTo 33 = .ok (.ireturn, 1) := by decide +kernel
theorem dX8_shortestWordTo_34 : decode cX8_shortestWordTo 34 = .ok (.iload 4, 2) := by decide +kernel
theorem dX8_shortestWordTo_36 : decode cX8_shortestWordTo 36 = .ok (.sipush 999, 3) := by decide +kernel
theorem dX8_shortestWordTo_39 : decode cX8_shortestWordTo 39 = .ok (.if_icmp .gt 11, 3) := by decide +kernel
theorem dX8_shortestWordTo_42 : decode cX8_shortestWordTo 42 = .ok (.iload 5, 2) := by decide +kernel
theorem dX8_shortestWordTo_44 : decode cX8_shortestWordTo 44 = .ok (.sipush 999, 3) := by decide +kernel
theorem dX8_shortestWordTo_47 : decode cX8_shortestWordTo 47 = .ok (.if_icmp .le 5, 3) := by decide +kernel
theorem dX8_shortestWordTo_50 : decode cX8_shortestWordTo 50 = .ok (.iconst (-1), 1) := by decide +kernel
theorem dX8_shortestWordTo_51 : decode cX8_shortestWordTo 51 = .ok (.ireturn, 1) := by decide +kernel
theorem dX8_shortestWordTo_52 : decode cX8_shortestWordTo 52 = .ok (.iload 6, 2) := by decide +kernel
theorem dX8_shortestWordTo_54 : decode cX8_shortestWordTo 54 = .ok (.ifCond .ne 26, 3) := by decide +kernel
theorem dX8_shortestWordTo_57 : decode cX8_shortestWordTo 57 = .ok (.aload_n 0, 1) := by decide +kernel
theorem dX8_shortestWordTo_58 : decode cX8_shortestWordTo 58 = .ok (.getfield 14, 3) := by decide +kernel
theorem dX8_shortestWordTo_61 : decode cX8_shortestWordTo 61 = .ok (.getfield 77, 3) := by decide +kernel
theorem dX8_shortestWordTo_64 : decode cX8_shortestWordTo 64 = .ok (.getfield 80, 3) := by decide +kernel
theorem dX8_shortestWordTo_67 : decode cX8_shortestWordTo 67 = .ok (.iload 5, 2) := by decide +kernel
theorem dX8_shortestWordTo_69 : decode cX8_shortestWordTo 69 = .ok (.imul, 1) := by decide +kernel
theorem dX8_shortestWordTo_70 : decode cX8_shortestWordTo 70 = .ok (.iload 4, 2) := by decide +kernel
theorem dX8_shortestWordTo_72 : decode cX8_shortestWordTo 72 = .ok (.isub, 1) := by decide +kernel
theorem dX8_shortestWordTo_73 : decode cX8_shortestWordTo 73 = .ok (.iconst 1, 1) := by decide +kernel
theorem dX8_shortestWordTo_74 : decode cX8_shortestWordTo 74 = .ok (.iadd, 1) := by decide +kernel
theorem dX8_shortestWordTo_75 : decode cX8_shortestWordTo 75 = .ok (.istore 4, 2) := by decide +kernel
theorem dX8_shortestWordTo_77 : decode cX8_shortestWordTo 77 = .ok (.goto 23, 3) := by decide +kernel
theorem dX8_shortestWordTo_80 : decode cX8_shortestWordTo 80 = .ok (.aload_n 0, 1) := by decide +kernel
theorem dX8_shortestWordTo_81 : decode cX8_shortestWordTo 81 = .ok (.getfield 14, 3) := by decide +kernel
theorem dX8_shortestWordTo_84 : decode cX8_shortestWordTo 84 = .ok (.getfield 77, 3) := by decide +kernel
theorem dX8_shortestWordTo_87 : decode cX8_shortestWordTo 87 = .ok (.getfield 84, 3) := by decide +kernel
theorem dX8_shortestWordTo_90 : decode cX8_shortestWordTo 90 = .ok (.iload 4, 2) := by decide +kernel
theorem dX8_shortestWordTo_92 : decode cX8_shortestWordTo 92 = .ok (.imul, 1) := by decide +kernel
theorem dX8_shortestWordTo_93 : decode cX8_shortestWordTo 93 = .ok (.iload 5, 2) := by decide +kernel
theorem dX8_shortestWordTo_95 : decode cX8_shortestWordTo 95 = .ok (.isub, 1) := by decide +kernel
theorem dX8_shortestWordTo_96 : decode cX8_shortestWordTo 96 = .ok (.iconst 1, 1) := by decide +kernel
theorem dX8_shortestWordTo_97 : decode cX8_shortestWordTo 97 = .ok (.iadd, 1) := by decide +kernel
theorem dX8_shortestWordTo_98 : decode cX8_shortestWordTo 98 = .ok (.istore 5, 2) := by decide +kernel
theorem dX8_shortestWordTo_100 : decode cX8_shortestWordTo 100 = .ok (.iconst 1, 1) := by decide +kernel
theorem dX8_shortestWordTo_101 : decode cX8_shortestWordTo 101 = .ok (.iload 6, 2) := by decide +kernel
theorem dX8_shortestWordTo_103 : decode cX8_shortestWordTo 103 = .ok (.isub, 1) := by decide +kernel
theorem dX8_shortestWordTo_104 : decode cX8_shortestWordTo 104 = .ok (.istore 6, 2) := by decide +kernel
theorem dX8_shortestWordTo_106 : decode cX8_shortestWordTo 106 = .ok (.iinc 7 1, 3) := by decide +kernel
theorem dX8_shortestWordTo_109 : decode cX8_shortestWordTo 109 = .ok (.goto (-97), 3) := by decide +kernel
theorem dX8_shortestWordTo_112 : decode cX8_shortestWordTo 112 = .ok (.iconst (-1), 1) := by decide +kernel
theorem dX8_shortestWordTo_113 : decode cX8_shortestWordTo 113 = .ok (.ireturn, 1) := by decide +kernel
theorem dX8_see_0 : decode cX8_see 0 = .ok (.iload_n 1, 1) := by decide +kernel
theorem dX8_see_1 : decode cX8_see 1 = .ok (.bipush (-100), 2) := by decide +kernel
theorem dX8_see_3 : decode cX8_see 3 = .ok (.if_icmp .ne 15, 3) := by decide +kernel
theorem dX8_see_6 : decode cX8_see 6 = .ok (.aload_n 0, 1) := by decide +kernel
theorem dX8_see_7 : decode cX8_see 7 = .ok (.getfield 14, 3) := by decide +kernel
theorem dX8_see_10 : decode cX8_see 10 = .ok (.getfield 238, 3) := by decide +kernel
theorem dX8_see_13 : decode cX8_see 13 = .ok (.invokevirtual 121, 3) := by decide +kernel
theorem dX8_see_16 : decode cX8_see 16 = .ok (.iconst 0, 1) := by decide +kernel
theorem dX8_see_17 : decode cX8_see 17 = .ok (.ireturn, 1) := by decide +kernel
theorem dX8_see_18 : decode cX8_see 18 = .ok (.iload_n 1, 1) := by decide +kernel
theorem dX8_see_19 : decode cX8_see 19 = .ok (.bipush (-12), 2) := by decide +kernel
theorem dX8_see_21 : decode cX8_see 21 = .ok (.bipush 12, 2) := by decide +kernel
theorem dX8_see_23 : decode cX8_see 23 = .ok (.invokestatic 69, 3) := by decide +kernel
theorem dX8_see_26 : decode cX8_see 26 = .ok (.ifCond .eq 14, 3) := by decide +kernel
theorem dX8_see_29 : decode cX8_see 29 = .ok (.iload_n 2, 1) := by decide +kernel
theorem dX8_see_30 : decode cX8_see 30 = .ok (.bipush (-12), 2) := by decide +kernel
theorem dX8_see_32 : decode cX8_see 32 = .ok (.bipush 12, 2) := by decide +kernel
theorem dX8_see_34 : decode cX8_see 34 = .ok (.invokestatic 69, 3) := by decide +kernel
theorem dX8_see_37 : decode cX8_see 37 = .ok (.ifCond .ne 6, 3) := by decide +kernel
theorem dX8_see_40 : decode cX8_see 40 = .ok (.bipush (-2), 2) := by decide +kernel
theorem dX8_see_42 : decode cX8_see 42 = .ok (.ireturn, 1) := by decide +kernel
theorem dX8_see_43 : decode cX8_see 43 = .ok (.iload_n 3, 1) := by decide +kernel
theorem dX8_see_44 : decode cX8_see 44 = .ok (.iconst 0, 1) := by decide +kernel
theorem dX8_see_45 : decode cX8_see 45 = .ok (.iconst 2, 1) := by decide +kernel
theorem dX8_see_46 : decode cX8_see 46 = .ok (.invokestatic 69, 3) := by decide +kernel
theorem dX8_see_49 : decode cX8_see 49 = .ok (.ifCond .ne 6, 3) := by decide +kernel
theorem dX8_see_52 : decode cX8_see 52 = .ok (.bipush (-2), 2) := by decide +kernel
theorem dX8_see_54 : decode cX8_see 54 = .ok (.ireturn, 1) := by decide +kernel
theorem dX8_see_55 : decode cX8_see 55 = .ok (.aload_n 0, 1) := by decide +kernel
theorem dX8_see_56 : decode cX8_see 56 = .ok (.getfield 14, 3) := by decide +kernel
theorem dX8_see_59 : decode cX8_see 59 = .ok (.getfield 238, 3) := by decide +kernel
theorem dX8_see_62 : decode cX8_see 62 = .ok (.iload_n 1, 1) := by decide +kernel
theorem dX8_see_63 : decode cX8_see 63 = .ok (.iload_n 2, 1) := by decide +kernel
theorem dX8_see_64 : decode cX8_see 64 = .ok (.iload_n 3, 1) := by decide +kernel
theorem dX8_see_65 : decode cX8_see 65 = .ok (.invokevirtual 117, 3) := by decide +kernel
theorem dX8_see_68 : decode cX8_see 68 = .ok (.ireturn, 1) := by decide +kernel
theorem dX8_fits_0 : decode cX8_fits 0 = .ok (.iconst 0, 1) := by decide +kernel
theorem dX8_fits_1 : decode cX8_fits 1 = .ok (.istore_n 1, 1) := by decide +kernel
theorem dX8_fits_2 : decode cX8_fits 2 = .ok (.iconst 1, 1) := by decide +kernel
theorem dX8_fits_3 : decode cX8_fits 3 = .ok (.istore_n 2, 1) := by decide +kernel
theorem dX8_fits_4 : decode cX8_fits 4 = .ok (.iload_n 2, 1) := by decide +kernel
theorem dX8_fits_5 : decode cX8_fits 5 = .ok (.bipush 6, 2) := by decide +kernel
theorem dX8_fits_7 : decode cX8_fits 7 = .ok (.if_icmp .gt 25, 3) := by decide +kernel
theorem dX8_fits_10 : decode cX8_fits 10 = .ok (.aload_n 0, 1) := by decide +kernel
theorem dX8_fits_11 : decode cX8_fits 11 = .ok (.iload_n 2, 1) := by decide +kernel
theorem dX8_fits_12 : decode cX8_fits 12 = .ok (.invokevirtual 241, 3) := by decide +kernel
theorem dX8_fits_15 : decode cX8_fits 15 = .ok (.ifCond .eq 11, 3) := by decide +kernel
theorem dX8_fits_18 : decode cX8_fits 18 = .ok (.iload_n 1, 1) := by decide +kernel
theorem dX8_fits_19 : decode cX8_fits 19 = .ok (.iconst 1, 1) := by decide +kernel
theorem dX8_fits_20 : decode cX8_fits 20 = .ok (.iload_n 2, 1) := by decide +kernel
theorem dX8_fits_21 : decode cX8_fits 21 = .ok (.iconst 1, 1) := by decide +kernel
theorem dX8_fits_22 : decode cX8_fits 22 = .ok (.isub, 1) := by decide +kernel
theorem dX8_fits_23 : decode cX8_fits 23 = .ok (.ishl, 1) := by decide +kernel
theorem dX8_fits_24 : decode cX8_fits 24 = .ok (.ior, 1) := by decide +kernel
theorem dX8_fits_25 : decode cX8_fits 25 = .ok (.istore_n 1, 1) := by decide +kernel
theorem dX8_fits_26 : decode cX8_fits 26 = .ok (.iinc 2 1, 3) := by decide +kernel
theorem dX8_fits_29 : decode cX8_fits 29 = .ok (.goto (-25), 3) := by decide +kernel
theorem dX8_fits_32 : decode cX8_fits 32 = .ok (.iload_n 1, 1) := by decide +kernel
theorem dX8_fits_33 : decode cX8_fits 33 = .ok (.ireturn, 1) := by decide +kernel
theorem dX8_isAllSeenBy_0 : decode cX8_isAllSeenBy 0 = .ok (.aload_n 0, 1) := by decide +kernel
theorem dX8_isAllSeenBy_1 : decode cX8_isAllSeenBy 1 = .ok (.getfield 14, 3) := by decide +kernel
theorem dX8_isAllSeenBy_4 : decode cX8_isAllSeenBy 4 = .ok (.getfield 238, 3) := by decide +kernel
theorem dX8_isAllSeenBy_7 : decode cX8_isAllSeenBy 7 = .ok (.astore_n 2, 1) := by decide +kernel
theorem dX8_isAllSeenBy_8 : decode cX8_isAllSeenBy 8 = .ok (.iconst 0, 1) := by decide +kernel
theorem dX8_isAllSeenBy_9 : decode cX8_isAllSeenBy 9 = .ok (.istore_n 3, 1) := by decide +kernel
theorem dX8_isAllSeenBy_10 : decode cX8_isAllSeenBy 10 = .ok (.iload_n 3, 1) := by decide +kernel
theorem dX8_isAllSeenBy_11 : decode cX8_isAllSeenBy 11 = .ok (.aload_n 2, 1) := by decide +kernel
theorem dX8_isAllSeenBy_12 : decode cX8_isAllSeenBy 12 = .ok (.invokevirtual 109, 3) := by decide +kernel
theorem dX8_isAllSeenBy_15 : decode cX8_isAllSeenBy 15 = .ok (.if_icmp .ge 50, 3) := by decide +kernel
theorem dX8_isAllSeenBy_18 : decode cX8_isAllSeenBy 18 = .ok (.aload_n 0, 1) := by decide +kernel
theorem dX8_isAllSeenBy_19 : decode cX8_isAllSeenBy 19 = .ok (.getfield 35, 3) := by decide +kernel
theorem dX8_isAllSeenBy_22 : decode cX8_isAllSeenBy 22 = .ok (.iload_n 1, 1) := by decide +kernel
theorem dX8_isAllSeenBy_23 : decode cX8_isAllSeenBy 23 = .ok (.aload_n 0, 1) := by decide +kernel
theorem dX8_isAllSeenBy_24 : decode cX8_isAllSeenBy 24 = .ok (.getfield 14, 3) := by decide +kernel
theorem dX8_isAllSeenBy_27 : decode cX8_isAllSeenBy 27 = .ok (.getfield 77, 3) := by decide +kernel
theorem dX8_isAllSeenBy_30 : decode cX8_isAllSeenBy 30 = .ok (.getfield 84, 3) := by decide +kernel
theorem dX8_isAllSeenBy_33 : decode cX8_isAllSeenBy 33 = .ok (.aload_n 2, 1) := by decide +kernel
theorem dX8_isAllSeenBy_34 : decode cX8_isAllSeenBy 34 = .ok (.iload_n 3, 1) := by decide +kernel
theorem dX8_isAllSeenBy_35 : decode cX8_isAllSeenBy 35 = .ok (.iconst 0, 1) := by decide +kernel
theorem dX8_isAllSeenBy_36 : decode cX8_isAllSeenBy 36 = .ok (.invokevirtual 114, 3) := by decide +kernel
theorem dX8_isAllSeenBy_39 : decode cX8_isAllSeenBy 39 = .ok (.aload_n 2, 1) := by decide +kernel
theorem dX8_isAllSeenBy_40 : decode cX8_isAllSeenBy 40 = .ok (.iload_n 3, 1) := by decide +kernel
theorem dX8_isAllSeenBy_41 : decode cX8_isAllSeenBy 41 = .ok (.iconst 1, 1) := by decide +kernel
theorem dX8_isAllSeenBy_42 : decode cX8_isAllSeenBy 42 = .ok (.invokevirtual 114, 3) := by decide +kernel
theorem dX8_isAllSeenBy_45 : decode cX8_isAllSeenBy 45 = .ok (.invokevirtual 244, 3) := by decide +kernel
theorem dX8_isAllSeenBy_48 : decode cX8_isAllSeenBy 48 = .ok (.aload_n 2, 1) := by decide +kernel
theorem dX8_isAllSeenBy_49 : decode cX8_isAllSeenBy 49 = .ok (.iload_n 3, 1) := by decide +kernel
theorem dX8_isAllSeenBy_50 : decode cX8_isAllSeenBy 50 = .ok (.iconst 2, 1) := by decide +kernel
theorem dX8_isAllSeenBy_51 : decode cX8_isAllSeenBy 51 = .ok (.invokevirtual 114, 3) := by decide +kernel
theorem dX8_isAllSeenBy_54 : decode cX8_isAllSeenBy 54 = .ok (.if_icmp .eq 5, 3) := by decide +kernel
theorem dX8_isAllSeenBy_57 : decode cX8_isAllSeenBy 57 = .ok (.iconst 0, 1) := by decide +kernel
theorem dX8_isAllSeenBy_58 : decode cX8_isAllSeenBy 58 = .ok (.ireturn, 1) := by decide +kernel
theorem dX8_isAllSeenBy_59 : decode cX8_isAllSeenBy 59 = .ok (.iinc 3 1, 3) := by decide +kernel
theorem dX8_isAllSeenBy_62 : decode cX8_isAllSeenBy 62 = .ok (.goto (-52), 3) := by decide +kernel
theorem dX8_isAllSeenBy_65 : decode cX8_isAllSeenBy 65 = .ok (.iconst 1, 1) := by decide +kernel
theorem dX8_isAllSeenBy_66 : decode cX8_isAllSeenBy 66 = .ok (.ireturn, 1) := by decide +kernel
theorem dX8_odds_0 : decode cX8_odds 0 = .ok (.iload_n 1, 1) := by decide +kernel
theorem dX8_odds_1 : decode cX8_odds 1 = .ok (.iconst 1, 1) := by decide +kernel
theorem dX8_odds_2 : decode cX8_odds 2 = .ok (.bipush 12, 2) := by decide +kernel
theorem dX8_odds_4 : decode cX8_odds 4 = .ok (.invokestatic 69, 3) := by decide +kernel
theorem dX8_odds_7 : decode cX8_odds 7 = .ok (.ifCond .eq 12, 3) := by decide +kernel
theorem dX8_odds_10 : decode cX8_odds 10 = .ok (.iload_n 2, 1) := by decide +kernel
theorem dX8_odds_11 : decode cX8_odds 11 = .ok (.iconst 0, 1) := by decide +kernel
theorem dX8_odds_12 : decode cX8_odds 12 = .ok (.iconst 1, 1) := by decide +kernel
theorem dX8_odds_13 : decode cX8_odds 13 = .ok (.invokestatic 69, 3) := by decide +kernel
theorem dX8_odds_16 : decode cX8_odds 16 = .ok (.ifCond .ne 7, 3) := by decide +kernel
theorem dX8_odds_19 : decode cX8_odds 19 = .ok (.ldc2_w 170, 3) := by decide +kernel
theorem dX8_odds_22 : decode cX8_odds 22 = .ok (.lreturn, 1) := by decide +kernel
theorem dX8_odds_23 : decode cX8_odds 23 = .ok (.aload_n 0, 1) := by decide +kernel
theorem dX8_odds_24 : decode cX8_odds 24 = .ok (.getfield 44, 3) := by decide +kernel
theorem dX8_odds_27 : decode cX8_odds 27 = .ok (.aload_n 0, 1) := by decide +kernel
theorem dX8_odds_28 : decode cX8_odds 28 = .ok (.getfield 14, 3) := by decide +kernel
theorem dX8_odds_31 : decode cX8_odds 31 = .ok (.getfield 77, 3) := by decide +kernel
theorem dX8_odds_34 : decode cX8_odds 34 = .ok (.getfield 80, 3) := by decide +kernel
theorem dX8_odds_37 : decode cX8_odds 37 = .ok (.aload_n 0, 1) := by decide +kernel
theorem dX8_odds_38 : decode cX8_odds 38 = .ok (.getfield 14, 3) := by decide +kernel
theorem dX8_odds_41 : decode cX8_odds 41 = .ok (.getfield 77, 3) := by decide +kernel
theorem dX8_odds_44 : decode cX8_odds 44 = .ok (.getfield 84, 3) := by decide +kernel
theorem dX8_odds_47 : decode cX8_odds 47 = .ok (.invokevirtual 202, 3) := by decide +kernel
theorem dX8_odds_50 : decode cX8_odds 50 = .ok (.aload_n 0, 1) := by decide +kernel
theorem dX8_odds_51 : decode cX8_odds 51 = .ok (.getfield 44, 3) := by decide +kernel
theorem dX8_odds_54 : decode cX8_odds 54 = .ok (.iload_n 1, 1) := by decide +kernel
theorem dX8_odds_55 : decode cX8_odds 55 = .ok (.invokevirtual 219, 3) := by decide +kernel
theorem dX8_odds_58 : decode cX8_odds 58 = .ok (.i2l, 1) := by decide +kernel
theorem dX8_odds_59 : decode cX8_odds 59 = .ok (.iload_n 1, 1) := by decide +kernel
theorem dX8_odds_60 : decode cX8_odds 60 = .ok (.iconst 1, 1) := by decide +kernel
theorem dX8_odds_61 : decode cX8_odds 61 = .ok (.iadd, 1) := by decide +kernel
theorem dX8_odds_62 : decode cX8_odds 62 = .ok (.i2l, 1) := by decide +kernel
theorem dX8_odds_63 : decode cX8_odds 63 = .ok (.iload_n 2, 1) := by decide +kernel
theorem dX8_odds_64 : decode cX8_odds 64 = .ok (.invokestatic 215, 3) := by decide +kernel
theorem dX8_odds_67 : decode cX8_odds 67 = .ok (.lreturn, 1) := by decide +kernel
theorem dX8_mean_0 : decode cX8_mean 0 = .ok (.iload_n 1, 1) := by decide +kernel
theorem dX8_mean_1 : decode cX8_mean 1 = .ok (.iconst 1, 1) := by decide +kernel
theorem dX8_mean_2 : decode cX8_mean 2 = .ok (.bipush 12, 2) := by decide +kernel
theorem dX8_mean_4 : decode cX8_mean 4 = .ok (.invokestatic 69, 3) := by decide +kernel
theorem dX8_mean_7 : decode cX8_mean 7 = .ok (.ifCond .eq 12, 3) := by decide +kernel
theorem dX8_mean_10 : decode cX8_mean 10 = .ok (.iload_n 2, 1) := by decide +kernel
theorem dX8_mean_11 : decode cX8_mean 11 = .ok (.iconst 0, 1) := by decide +kernel
theorem dX8_mean_12 : decode cX8_mean 12 = .ok (.iconst 1, 1) := by decide +kernel
theorem dX8_mean_13 : decode cX8_mean 13 = .ok (.invokestatic 69, 3) := by decide +kernel
theorem dX8_mean_16 : decode cX8_mean 16 = .ok (.ifCond .ne 7, 3) := by decide +kernel
theorem dX8_mean_19 : decode cX8_mean 19 = .ok (.ldc2_w 170, 3) := by decide +kernel
theorem dX8_mean_22 : decode cX8_mean 22 = .ok (.lreturn, 1) := by decide +kernel
theorem dX8_mean_23 : decode cX8_mean 23 = .ok (.aload_n 0, 1) := by decide +kernel
theorem dX8_mean_24 : decode cX8_mean 24 = .ok (.getfield 44, 3) := by decide +kernel
theorem dX8_mean_27 : decode cX8_mean 27 = .ok (.aload_n 0, 1) := by decide +kernel
theorem dX8_mean_28 : decode cX8_mean 28 = .ok (.getfield 14, 3) := by decide +kernel
theorem dX8_mean_31 : decode cX8_mean 31 = .ok (.getfield 77, 3) := by decide +kernel
theorem dX8_mean_34 : decode cX8_mean 34 = .ok (.getfield 80, 3) := by decide +kernel
theorem dX8_mean_37 : decode cX8_mean 37 = .ok (.aload_n 0, 1) := by decide +kernel
theorem dX8_mean_38 : decode cX8_mean 38 = .ok (.getfield 14, 3) := by decide +kernel
theorem dX8_mean_41 : decode cX8_mean 41 = .ok (.getfield 77, 3) := by decide +kernel
theorem dX8_mean_44 : decode cX8_mean 44 = .ok (.getfield 84, 3) := by decide +kernel
theorem dX8_mean_47 : decode cX8_mean 47 = .ok (.invokevirtual 202, 3) := by decide +kernel
theorem dX8_mean_50 : decode cX8_mean 50 = .ok (.aload_n 0, 1) := by decide +kernel
theorem dX8_mean_51 : decode cX8_mean 51 = .ok (.getfield 44, 3) := by decide +kernel
theorem dX8_mean_54 : decode cX8_mean 54 = .ok (.iload_n 1, 1) := by decide +kernel
theorem dX8_mean_55 : decode cX8_mean 55 = .ok (.invokevirtual 222, 3) := by decide +kernel
theorem dX8_mean_58 : decode cX8_mean 58 = .ok (.i2l, 1) := by decide +kernel
theorem dX8_mean_59 : decode cX8_mean 59 = .ok (.iload_n 1, 1) := by decide +kernel
theorem dX8_mean_60 : decode cX8_mean 60 = .ok (.iconst 1, 1) := by decide +kernel
theorem dX8_mean_61 : decode cX8_mean 61 = .ok (.iadd, 1) := by decide +kernel
theorem dX8_mean_62 : decode cX8_mean 62 = .ok (.i2l, 1) := by decide +kernel
theorem dX8_mean_63 : decode cX8_mean 63 = .ok (.iload_n 2, 1) := by decide +kernel
theorem dX8_mean_64 : decode cX8_mean 64 = .ok (.invokestatic 215, 3) := by decide +kernel
theorem dX8_mean_67 : decode cX8_mean 67 = .ok (.lreturn, 1) := by decide +kernel
theorem dX8_event_0 : decode cX8_event 0 = .ok (.iload_n 1, 1) := by decide +kernel
theorem dX8_event_1 : decode cX8_event 1 = .ok (.iconst (-1), 1) := by decide +kernel
theorem dX8_event_2 : decode cX8_event 2 = .ok (.if_icmp .ne 15, 3) := by decide +kernel
theorem dX8_event_5 : decode cX8_event 5 = .ok (.aload_n 0, 1) := by decide +kernel
theorem dX8_event_6 : decode cX8_event 6 = .ok (.getfield 14, 3) := by decide +kernel
theorem dX8_event_9 : decode cX8_event 9 = .ok (.getfield 247, 3) := by decide +kernel
theorem dX8_event_12 : decode cX8_event 12 = .ok (.invokevirtual 121, 3) := by decide +kernel
theorem dX8_event_15 : decode cX8_event 15 = .ok (.iconst 0, 1) := by decide +kernel
theorem dX8_event_16 : decode cX8_event 16 = .ok (.ireturn, 1) := by decide +kernel
theorem dX8_event_17 : decode cX8_event 17 = .ok (.iload_n 1, 1) := by decide +kernel
theorem dX8_event_18 : decode cX8_event 18 = .ok (.tableswitch 106 0 2 #[26, 54, 83], 26) := by decide +kernel
theorem dX8_event_44 : decode cX8_event 44 = .ok (.iload_n 2, 1) := by decide +kernel
theorem dX8_event_45 : decode cX8_event 45 = .ok (.iconst 0, 1) := by decide +kernel
theorem dX8_event_46 : decode cX8_event 46 = .ok (.iconst 1, 1) := by decide +kernel
theorem dX8_event_47 : decode cX8_event 47 = .ok (.invokestatic 69, 3) := by decide +kernel
theorem dX8_event_50 : decode cX8_event 50 = .ok (.ifCond .eq 19, 3) := by decide +kernel
theorem dX8_event_53 : decode cX8_event 53 = .ok (.aload_n 0, 1) := by decide +kernel
theorem dX8_event_54 : decode cX8_event 54 = .ok (.getfield 14, 3) := by decide +kernel
theorem dX8_event_57 : decode cX8_event 57 = .ok (.getfield 247, 3) := by decide +kernel
theorem dX8_event_60 : decode cX8_event 60 = .ok (.iload_n 1, 1) := by decide +kernel
theorem dX8_event_61 : decode cX8_event 61 = .ok (.iload_n 2, 1) := by decide +kernel
theorem dX8_event_62 : decode cX8_event 62 = .ok (.iconst 0, 1) := by decide +kernel
theorem dX8_event_63 : decode cX8_event 63 = .ok (.invokevirtual 117, 3) := by decide +kernel
theorem dX8_event_66 : decode cX8_event 66 = .ok (.goto 5, 3) := by decide +kernel
theorem dX8_event_69 : decode cX8_event 69 = .ok (.bipush (-2), 2) := by decide +kernel
theorem dX8_event_71 : decode cX8_event 71 = .ok (.ireturn, 1) := by decide +kernel
theorem dX8_event_72 : decode cX8_event 72 = .ok (.iload_n 2, 1) := by decide +kernel
theorem dX8_event_73 : decode cX8_event 73 = .ok (.iconst 1, 1) := by decide +kernel
theorem dX8_event_74 : decode cX8_event 74 = .ok (.bipush 6, 2) := by decide +kernel
theorem dX8_event_76 : decode cX8_event 76 = .ok (.invokestatic 69, 3) := by decide +kernel
theorem dX8_event_79 : decode cX8_event 79 = .ok (.ifCond .eq 19, 3) := by decide +kernel
theorem dX8_event_82 : decode cX8_event 82 = .ok (.aload_n 0, 1) := by decide +kernel
theorem dX8_event_83 : decode cX8_event 83 = .ok (.getfield 14, 3) := by decide +kernel
theorem dX8_event_86 : decode cX8_event 86 = .ok (.getfield 247, 3) := by decide +kernel
theorem dX8_event_89 : decode cX8_event 89 = .ok (.iload_n 1, 1) := by decide +kernel
theorem dX8_event_90 : decode cX8_event 90 = .ok (.iload_n 2, 1) := by decide +kernel
theorem dX8_event_91 : decode cX8_event 91 = .ok (.iconst 0, 1) := by decide +kernel
theorem dX8_event_92 : decode cX8_event 92 = .ok (.invokevirtual 117, 3) := by decide +kernel
theorem dX8_event_95 : decode cX8_event 95 = .ok (.goto 5, 3) := by decide +kernel
theorem dX8_event_98 : decode cX8_event 98 = .ok (.bipush (-2), 2) := by decide +kernel
theorem dX8_event_100 : decode cX8_event 100 = .ok (.ireturn, 1) := by decide +kernel
theorem dX8_event_101 : decode cX8_event 101 = .ok (.iload_n 2, 1) := by decide +kernel
theorem dX8_event_102 : decode cX8_event 102 = .ok (.ifCond .ne 19, 3) := by decide +kernel
theorem dX8_event_105 : decode cX8_event 105 = .ok (.aload_n 0, 1) := by decide +kernel
theorem dX8_event_106 : decode cX8_event 106 = .ok (.getfield 14, 3) := by decide +kernel
theorem dX8_event_109 : decode cX8_event 109 = .ok (.getfield 247, 3) := by decide +kernel
theorem dX8_event_112 : decode cX8_event 112 = .ok (.iload_n 1, 1) := by decide +kernel
theorem dX8_event_113 : decode cX8_event 113 = .ok (.iload_n 2, 1) := by decide +kernel
theorem dX8_event_114 : decode cX8_event 114 = .ok (.iconst 0, 1) := by decide +kernel
theorem dX8_event_115 : decode cX8_event 115 = .ok (.invokevirtual 117, 3) := by decide +kernel
theorem dX8_event_118 : decode cX8_event 118 = .ok (.goto 5, 3) := by decide +kernel
theorem dX8_event_121 : decode cX8_event 121 = .ok (.bipush (-2), 2) := by decide +kernel
theorem dX8_event_123 : decode cX8_event 123 = .ok (.ireturn, 1) := by decide +kernel
theorem dX8_event_124 : decode cX8_event 124 = .ok (.iconst (-1), 1) := by decide +kernel
theorem dX8_event_125 : decode cX8_event 125 = .ok (.ireturn, 1) := by decide +kernel
theorem dX8_after_0 : decode cX8_after 0 = .ok (.iload_n 1, 1) := by decide +kernel
theorem dX8_after_1 : decode cX8_after 1 = .ok (.iconst 0, 1) := by decide +kernel
theorem dX8_after_2 : decode cX8_after 2 = .ok (.iconst 2, 1) := by decide +kernel
theorem dX8_after_3 : decode cX8_after 3 = .ok (.invokestatic 69, 3) := by decide +kernel
theorem dX8_after_6 : decode cX8_after 6 = .ok (.ifCond .ne 7, 3) := by decide +kernel
theorem dX8_after_9 : decode cX8_after 9 = .ok (.ldc2_w 170, 3) := by decide +kernel
theorem dX8_after_12 : decode cX8_after 12 = .ok (.lreturn, 1) := by decide +kernel
theorem dX8_after_13 : decode cX8_after 13 = .ok (.aload_n 0, 1) := by decide +kernel
theorem dX8_after_14 : decode cX8_after 14 = .ok (.getfield 28, 3) := by decide +kernel
theorem dX8_after_17 : decode cX8_after 17 = .ok (.aload_n 0, 1) := by decide +kernel
theorem dX8_after_18 : decode cX8_after 18 = .ok (.getfield 14, 3) := by decide +kernel
theorem dX8_after_21 : decode cX8_after 21 = .ok (.getfield 77, 3) := by decide +kernel
theorem dX8_after_24 : decode cX8_after 24 = .ok (.invokevirtual 160, 3) := by decide +kernel
theorem dX8_after_27 : decode cX8_after 27 = .ok (.iconst 0, 1) := by decide +kernel
theorem dX8_after_28 : decode cX8_after 28 = .ok (.istore_n 2, 1) := by decide +kernel
theorem dX8_after_29 : decode cX8_after 29 = .ok (.iload_n 2, 1) := by decide +kernel
theorem dX8_after_30 : decode cX8_after 30 = .ok (.aload_n 0, 1) := by decide +kernel
theorem dX8_after_31 : decode cX8_after 31 = .ok (.getfield 14, 3) := by decide +kernel
theorem dX8_after_34 : decode cX8_after 34 = .ok (.getfield 247, 3) := by decide +kernel
theorem dX8_after_37 : decode cX8_after 37 = .ok (.invokevirtual 109, 3) := by decide +kernel
theorem dX8_after_40 : decode cX8_after 40 = .ok (.if_icmp .ge 37, 3) := by decide +kernel
theorem dX8_after_43 : decode cX8_after 43 = .ok (.aload_n 0, 1) := by decide +kernel
theorem dX8_after_44 : decode cX8_after 44 = .ok (.aload_n 0, 1) := by decide +kernel
theorem dX8_after_45 : decode cX8_after 45 = .ok (.getfield 14, 3) := by decide +kernel
theorem dX8_after_48 : decode cX8_after 48 = .ok (.getfield 247, 3) := by decide +kernel
theorem dX8_after_51 : decode cX8_after 51 = .ok (.iload_n 2, 1) := by decide +kernel
theorem dX8_after_52 : decode cX8_after 52 = .ok (.iconst 0, 1) := by decide +kernel
theorem dX8_after_53 : decode cX8_after 53 = .ok (.invokevirtual 114, 3) := by decide +kernel
theorem dX8_after_56 : decode cX8_after 56 = .ok (.aload_n 0, 1) := by decide +kernel
theorem dX8_after_57 : decode cX8_after 57 = .ok (.getfield 14, 3) := by decide +kernel
theorem dX8_after_60 : decode cX8_after 60 = .ok (.getfield 247, 3) := by decide +kernel
theorem dX8_after_63 : decode cX8_after 63 = .ok (.iload_n 2, 1) := by decide +kernel
theorem dX8_after_64 : decode cX8_after 64 = .ok (.iconst 1, 1) := by decide +kernel
theorem dX8_after_65 : decode cX8_after 65 = .ok (.invokevirtual 114, 3) := by decide +kernel
theorem dX8_after_68 : decode cX8_after 68 = .ok (.invokevirtual 250, 3) := by decide +kernel
theorem dX8_after_71 : decode cX8_after 71 = .ok (.iinc 2 1, 3) := by decide +kernel
theorem dX8_after_74 : decode cX8_after 74 = .ok (.goto (-45), 3) := by decide +kernel
theorem dX8_after_77 : decode cX8_after 77 = .ok (.iload_n 1, 1) := by decide +kernel
theorem dX8_after_78 : decode cX8_after 78 = .ok (.ifCond .ne 40, 3) := by decide +kernel
theorem dX8_after_81 : decode cX8_after 81 = .ok (.aload_n 0, 1) := by decide +kernel
theorem dX8_after_82 : decode cX8_after 82 = .ok (.getfield 35, 3) := by decide +kernel
theorem dX8_after_85 : decode cX8_after 85 = .ok (.aload_n 0, 1) := by decide +kernel
theorem dX8_after_86 : decode cX8_after 86 = .ok (.getfield 28, 3) := by decide +kernel
theorem dX8_after_89 : decode cX8_after 89 = .ok (.getfield 80, 3) := by decide +kernel
theorem dX8_after_92 : decode cX8_after 92 = .ok (.aload_n 0, 1) := by decide +kernel
theorem dX8_after_93 : decode cX8_after 93 = .ok (.getfield 28, 3) := by decide +kernel
theorem dX8_after_96 : decode cX8_after 96 = .ok (.getfield 84, 3) := by decide +kernel
theorem dX8_after_99 : decode cX8_after 99 = .ok (.aload_n 0, 1) := by decide +kernel
theorem dX8_after_100 : decode cX8_after 100 = .ok (.getfield 28, 3) := by decide +kernel
theorem dX8_after_103 : decode cX8_after 103 = .ok (.getfield 91, 3) := by decide +kernel
theorem dX8_after_106 : decode cX8_after 106 = .ok (.aload_n 0, 1) := by decide +kernel
theorem dX8_after_107 : decode cX8_after 107 = .ok (.getfield 28, 3) := by decide +kernel
theorem dX8_after_110 : decode cX8_after 110 = .ok (.getfield 94, 3) := by decide +kernel
theorem dX8_after_113 : decode cX8_after 113 = .ok (.invokevirtual 244, 3) := by decide +kernel
theorem dX8_after_116 : decode cX8_after 116 = .ok (.i2l, 1) := by decide +kernel
theorem dX8_after_117 : decode cX8_after 117 = .ok (.lreturn, 1) := by decide +kernel
theorem dX8_after_118 : decode cX8_after 118 = .ok (.iload_n 1, 1) := by decide +kernel
theorem dX8_after_119 : decode cX8_after 119 = .ok (.iconst 1, 1) := by decide +kernel
theorem dX8_after_120 : decode cX8_after 120 = .ok (.if_icmp .ne 24, 3) := by decide +kernel
theorem dX8_after_123 : decode cX8_after 123 = .ok (.aload_n 0, 1) := by decide +kernel
theorem dX8_after_124 : decode cX8_after 124 = .ok (.getfield 28, 3) := by decide +kernel
theorem dX8_after_127 : decode cX8_after 127 = .ok (.getfield 80, 3) := by decide +kernel
theorem dX8_after_130 : decode cX8_after 130 = .ok (.aload_n 0, 1) := by decide +kernel
theorem dX8_after_131 : decode cX8_after 131 = .ok (.getfield 28, 3) := by decide +kernel
theorem dX8_after_134 : decode cX8_after 134 = .ok (.getfield 84, 3) := by decide +kernel
theorem dX8_after_137 : decode cX8_after 137 = .ok (.invokestatic 167, 3) := by decide +kernel
theorem dX8_after_140 : decode cX8_after 140 = .ok (.i2l, 1) := by decide +kernel
theorem dX8_after_141 : decode cX8_after 141 = .ok (.goto 34, 3) := by decide +kernel
theorem dX8_after_144 : decode cX8_after 144 = .ok (.aload_n 0, 1) := by decide +kernel
theorem dX8_after_145 : decode cX8_after 145 = .ok (.getfield 28, 3) := by decide +kernel
theorem dX8_after_148 : decode cX8_after 148 = .ok (.getfield 80, 3) := by decide +kernel
theorem dX8_after_151 : decode cX8_after 151 = .ok (.aload_n 0, 1) := by decide +kernel
theorem dX8_after_152 : decode cX8_after 152 = .ok (.getfield 28, 3) := by decide +kernel
theorem dX8_after_155 : decode cX8_after 155 = .ok (.getfield 84, 3) := by decide +kernel
theorem dX8_after_158 : decode cX8_after 158 = .ok (.aload_n 0, 1) := by decide +kernel
theorem dX8_after_159 : decode cX8_after 159 = .ok (.getfield 28, 3) := by decide +kernel
theorem dX8_after_162 : decode cX8_after 162 = .ok (.getfield 91, 3) := by decide +kernel
theorem dX8_after_165 : decode cX8_after 165 = .ok (.aload_n 0, 1) := by decide +kernel
theorem dX8_after_166 : decode cX8_after 166 = .ok (.getfield 28, 3) := by decide +kernel
theorem dX8_after_169 : decode cX8_after 169 = .ok (.getfield 94, 3) := by decide +kernel
theorem dX8_after_172 : decode cX8_after 172 = .ok (.invokestatic 172, 3) := by decide +kernel
theorem dX8_after_175 : decode cX8_after 175 = .ok (.lreturn, 1) := by decide +kernel
theorem dX8_happen_0 : decode cX8_happen 0 = .ok (.iload_n 1, 1) := by decide +kernel
theorem dX8_happen_1 : decode cX8_happen 1 = .ok (.ifCond .ne 15, 3) := by decide +kernel
theorem dX8_happen_4 : decode cX8_happen 4 = .ok (.aload_n 0, 1) := by decide +kernel
theorem dX8_happen_5 : decode cX8_happen 5 = .ok (.getfield 28, 3) := by decide +kernel
theorem dX8_happen_8 : decode cX8_happen 8 = .ok (.iload_n 2, 1) := by decide +kernel
theorem dX8_happen_9 : decode cX8_happen 9 = .ok (.invokevirtual 101, 3) := by decide +kernel
theorem dX8_happen_12 : decode cX8_happen 12 = .ok (.pop, 1) := by decide +kernel
theorem dX8_happen_13 : decode cX8_happen 13 = .ok (.goto 26, 3) := by decide +kernel
theorem dX8_happen_16 : decode cX8_happen 16 = .ok (.iload_n 1, 1) := by decide +kernel
theorem dX8_happen_17 : decode cX8_happen 17 = .ok (.iconst 1, 1) := by decide +kernel
theorem dX8_happen_18 : decode cX8_happen 18 = .ok (.if_icmp .ne 14, 3) := by decide +kernel
theorem dX8_happen_21 : decode cX8_happen 21 = .ok (.aload_n 0, 1) := by decide +kernel
theorem dX8_happen_22 : decode cX8_happen 22 = .ok (.getfield 28, 3) := by decide +kernel
theorem dX8_happen_25 : decode cX8_happen 25 = .ok (.iload_n 2, 1) := by decide +kernel
theorem dX8_happen_26 : decode cX8_happen 26 = .ok (.putfield 80, 3) := by decide +kernel
theorem dX8_happen_29 : decode cX8_happen 29 = .ok (.goto 10, 3) := by decide +kernel
theorem dX8_happen_32 : decode cX8_happen 32 = .ok (.aload_n 0, 1) := by decide +kernel
theorem dX8_happen_33 : decode cX8_happen 33 = .ok (.getfield 28, 3) := by decide +kernel
theorem dX8_happen_36 : decode cX8_happen 36 = .ok (.invokevirtual 253, 3) := by decide +kernel
theorem dX8_happen_39 : decode cX8_happen 39 = .ok (.return_, 1) := by decide +kernel
theorem dX8_book_0 : decode cX8_book 0 = .ok (.iload_n 1, 1) := by decide +kernel
theorem dX8_book_1 : decode cX8_book 1 = .ok (.iconst (-1), 1) := by decide +kernel
theorem dX8_book_2 : decode cX8_book 2 = .ok (.if_icmp .ne 15, 3) := by decide +kernel
theorem dX8_book_5 : decode cX8_book 5 = .ok (.aload_n 0, 1) := by decide +kernel
theorem dX8_book_6 : decode cX8_book 6 = .ok (.getfield 14, 3) := by decide +kernel
theorem dX8_book_9 : decode cX8_book 9 = .ok (.getfield 256, 3) := by decide +kernel
theorem dX8_book_12 : decode cX8_book 12 = .ok (.invokevirtual 121, 3) := by decide +kernel
theorem dX8_book_15 : decode cX8_book 15 = .ok (.iconst 0, 1) := by decide +kernel
theorem dX8_book_16 : decode cX8_book 16 = .ok (.ireturn, 1) := by decide +kernel
theorem dX8_book_17 : decode cX8_book 17 = .ok (.iload_n 1, 1) := by decide +kernel
theorem dX8_book_18 : decode cX8_book 18 = .ok (.iload_n 2, 1) := by decide +kernel
theorem dX8_book_19 : decode cX8_book 19 = .ok (.invokestatic 199, 3) := by decide +kernel
theorem dX8_book_22 : decode cX8_book 22 = .ok (.ifCond .eq 14, 3) := by decide +kernel
theorem dX8_book_25 : decode cX8_book 25 = .ok (.iload_n 3, 1) := by decide +kernel
theorem dX8_book_26 : decode cX8_book 26 = .ok (.iconst 0, 1) := by decide +kernel
theorem dX8_book_27 : decode cX8_book 27 = .ok (.sipush 999, 3) := by decide +kernel
theorem dX8_book_30 : decode cX8_book 30 = .ok (.invokestatic 69, 3) := by decide +kernel
theorem dX8_book_33 : decode cX8_book 33 = .ok (.ifCond .ne 6, 3) := by decide +kernel
theorem dX8_book_36 : decode cX8_book 36 = .ok (.bipush (-2), 2) := by decide +kernel
theorem dX8_book_38 : decode cX8_book 38 = .ok (.ireturn, 1) := by decide +kernel
theorem dX8_book_39 : decode cX8_book 39 = .ok (.aload_n 0, 1) := by decide +kernel
theorem dX8_book_40 : decode cX8_book 40 = .ok (.getfield 14, 3) := by decide +kernel
theorem dX8_book_43 : decode cX8_book 43 = .ok (.getfield 256, 3) := by decide +kernel
theorem dX8_book_46 : decode cX8_book 46 = .ok (.iload_n 1, 1) := by decide +kernel
theorem dX8_book_47 : decode cX8_book 47 = .ok (.iload_n 2, 1) := by decide +kernel
theorem dX8_book_48 : decode cX8_book 48 = .ok (.iload_n 3, 1) := by decide +kernel
theorem dX8_book_49 : decode cX8_book 49 = .ok (.invokevirtual 117, 3) := by decide +kernel
theorem dX8_book_52 : decode cX8_book 52 = .ok (.ireturn, 1) := by decide +kernel
theorem dX8_looked_0 : decode cX8_looked 0 = .ok (.aload_n 0, 1) := by decide +kernel
theorem dX8_looked_1 : decode cX8_looked 1 = .ok (.getfield 44, 3) := by decide +kernel
theorem dX8_looked_4 : decode cX8_looked 4 = .ok (.aload_n 0, 1) := by decide +kernel
theorem dX8_looked_5 : decode cX8_looked 5 = .ok (.getfield 14, 3) := by decide +kernel
theorem dX8_looked_8 : decode cX8_looked 8 = .ok (.getfield 77, 3) := by decide +kernel
theorem dX8_looked_11 : decode cX8_looked 11 = .ok (.getfield 80, 3) := by decide +kernel
theorem dX8_looked_14 : decode cX8_looked 14 = .ok (.aload_n 0, 1) := by decide +kernel
theorem dX8_looked_15 : decode cX8_looked 15 = .ok (.getfield 14, 3) := by decide +kernel
theorem dX8_looked_18 : decode cX8_looked 18 = .ok (.getfield 77, 3) := by decide +kernel
theorem dX8_looked_21 : decode cX8_looked 21 = .ok (.getfield 84, 3) := by decide +kernel
theorem dX8_looked_24 : decode cX8_looked 24 = .ok (.invokevirtual 202, 3) := by decide +kernel
theorem dX8_looked_27 : decode cX8_looked 27 = .ok (.aload_n 0, 1) := by decide +kernel
theorem dX8_looked_28 : decode cX8_looked 28 = .ok (.getfield 14, 3) := by decide +kernel
theorem dX8_looked_31 : decode cX8_looked 31 = .ok (.getfield 256, 3) := by decide +kernel
theorem dX8_looked_34 : decode cX8_looked 34 = .ok (.astore_n 1, 1) := by decide +kernel
theorem dX8_looked_35 : decode cX8_looked 35 = .ok (.iconst 0, 1) := by decide +kernel
theorem dX8_looked_36 : decode cX8_looked 36 = .ok (.istore_n 2, 1) := by decide +kernel
theorem dX8_looked_37 : decode cX8_looked 37 = .ok (.iload_n 2, 1) := by decide +kernel
theorem dX8_looked_38 : decode cX8_looked 38 = .ok (.aload_n 1, 1) := by decide +kernel
theorem dX8_looked_39 : decode cX8_looked 39 = .ok (.invokevirtual 109, 3) := by decide +kernel
theorem dX8_looked_42 : decode cX8_looked 42 = .ok (.if_icmp .ge 39, 3) := by decide +kernel
theorem dX8_looked_45 : decode cX8_looked 45 = .ok (.aload_n 0, 1) := by decide +kernel
theorem dX8_looked_46 : decode cX8_looked 46 = .ok (.getfield 44, 3) := by decide +kernel
theorem dX8_looked_49 : decode cX8_looked 49 = .ok (.aload_n 1, 1) := by decide +kernel
theorem dX8_looked_50 : decode cX8_looked 50 = .ok (.iload_n 2, 1) := by decide +kernel
theorem dX8_looked_51 : decode cX8_looked 51 = .ok (.iconst 0, 1) := by decide +kernel
theorem dX8_looked_52 : decode cX8_looked 52 = .ok (.invokevirtual 114, 3) := by decide +kernel
theorem dX8_looked_55 : decode cX8_looked 55 = .ok (.aload_n 1, 1) := by decide +kernel
theorem dX8_looked_56 : decode cX8_looked 56 = .ok (.iload_n 2, 1) := by decide +kernel
theorem dX8_looked_57 : decode cX8_looked 57 = .ok (.iconst 1, 1) := by decide +kernel
theorem dX8_looked_58 : decode cX8_looked 58 = .ok (.invokevirtual 114, 3) := by decide +kernel
theorem dX8_looked_61 : decode cX8_looked 61 = .ok (.invokevirtual 206, 3) := by decide +kernel
theorem dX8_looked_64 : decode cX8_looked 64 = .ok (.aload_n 1, 1) := by decide +kernel
theorem dX8_looked_65 : decode cX8_looked 65 = .ok (.iload_n 2, 1) := by decide +kernel
theorem dX8_looked_66 : decode cX8_looked 66 = .ok (.iconst 2, 1) := by decide +kernel
theorem dX8_looked_67 : decode cX8_looked 67 = .ok (.invokevirtual 114, 3) := by decide +kernel
theorem dX8_looked_70 : decode cX8_looked 70 = .ok (.if_icmp .eq 5, 3) := by decide +kernel
theorem dX8_looked_73 : decode cX8_looked 73 = .ok (.iload_n 2, 1) := by decide +kernel
theorem dX8_looked_74 : decode cX8_looked 74 = .ok (.ireturn, 1) := by decide +kernel
theorem dX8_looked_75 : decode cX8_looked 75 = .ok (.iinc 2 1, 3) := by decide +kernel
theorem dX8_looked_78 : decode cX8_looked 78 = .ok (.goto (-41), 3) := by decide +kernel
theorem dX8_looked_81 : decode cX8_looked 81 = .ok (.bipush (-5), 2) := by decide +kernel
theorem dX8_looked_83 : decode cX8_looked 83 = .ok (.ireturn, 1) := by decide +kernel
theorem dX8_judge_0 : decode cX8_judge 0 = .ok (.aload_n 0, 1) := by decide +kernel
theorem dX8_judge_1 : decode cX8_judge 1 = .ok (.getfield 65, 3) := by decide +kernel
theorem dX8_judge_4 : decode cX8_judge 4 = .ok (.iload_n 1, 1) := by decide +kernel
theorem dX8_judge_5 : decode cX8_judge 5 = .ok (.invokevirtual 259, 3) := by decide +kernel
theorem dX8_judge_8 : decode cX8_judge 8 = .ok (.ifCond .ne 5, 3) := by decide +kernel
theorem dX8_judge_11 : decode cX8_judge 11 = .ok (.iconst (-1), 1) := by decide +kernel
theorem dX8_judge_12 : decode cX8_judge 12 = .ok (.ireturn, 1) := by decide +kernel
theorem dX8_judge_13 : decode cX8_judge 13 = .ok (.aload_n 0, 1) := by decide +kernel
theorem dX8_judge_14 : decode cX8_judge 14 = .ok (.getfield 65, 3) := by decide +kernel
theorem dX8_judge_17 : decode cX8_judge 17 = .ok (.iload_n 1, 1) := by decide +kernel
theorem dX8_judge_18 : decode cX8_judge 18 = .ok (.invokevirtual 262, 3) := by decide +kernel
theorem dX8_judge_21 : decode cX8_judge 21 = .ok (.ifCond .eq 18, 3) := by decide +kernel
theorem dX8_judge_24 : decode cX8_judge 24 = .ok (.aload_n 0, 1) := by decide +kernel
theorem dX8_judge_25 : decode cX8_judge 25 = .ok (.getfield 65, 3) := by decide +kernel
theorem dX8_judge_28 : decode cX8_judge 28 = .ok (.iload_n 1, 1) := by decide +kernel
theorem dX8_judge_29 : decode cX8_judge 29 = .ok (.invokevirtual 265, 3) := by decide +kernel
theorem dX8_judge_32 : decode cX8_judge 32 = .ok (.iconst 2, 1) := by decide +kernel
theorem dX8_judge_33 : decode cX8_judge 33 = .ok (.if_icmp .eq 6, 3) := by decide +kernel
theorem dX8_judge_36 : decode cX8_judge 36 = .ok (.bipush (-12), 2) := by decide +kernel
theorem dX8_judge_38 : decode cX8_judge 38 = .ok (.ireturn, 1) := by decide +kernel
theorem dX8_judge_39 : decode cX8_judge 39 = .ok (.aload_n 0, 1) := by decide +kernel
theorem dX8_judge_40 : decode cX8_judge 40 = .ok (.getfield 44, 3) := by decide +kernel
theorem dX8_judge_43 : decode cX8_judge 43 = .ok (.aload_n 0, 1) := by decide +kernel
theorem dX8_judge_44 : decode cX8_judge 44 = .ok (.getfield 14, 3) := by decide +kernel
theorem dX8_judge_47 : decode cX8_judge 47 = .ok (.getfield 77, 3) := by decide +kernel
theorem dX8_judge_50 : decode cX8_judge 50 = .ok (.getfield 80, 3) := by decide +kernel
theorem dX8_judge_53 : decode cX8_judge 53 = .ok (.aload_n 0, 1) := by decide +kernel
theorem dX8_judge_54 : decode cX8_judge 54 = .ok (.getfield 14, 3) := by decide +kernel
theorem dX8_judge_57 : decode cX8_judge 57 = .ok (.getfield 77, 3) := by decide +kernel
theorem dX8_judge_60 : decode cX8_judge 60 = .ok (.getfield 84, 3) := by decide +kernel
theorem dX8_judge_63 : decode cX8_judge 63 = .ok (.invokevirtual 202, 3) := by decide +kernel
theorem dX8_judge_66 : decode cX8_judge 66 = .ok (.iconst 1, 1) := by decide +kernel
theorem dX8_judge_67 : decode cX8_judge 67 = .ok (.istore_n 3, 1) := by decide +kernel
theorem dX8_judge_68 : decode cX8_judge 68 = .ok (.iload_n 3, 1) := by decide +kernel
theorem dX8_judge_69 : decode cX8_judge 69 = .ok (.bipush 12, 2) := by decide +kernel
theorem dX8_judge_71 : decode cX8_judge 71 = .ok (.if_icmp .gt 57, 3) := by decide +kernel
theorem dX8_judge_74 : decode cX8_judge 74 = .ok (.aload_n 0, 1) := by decide +kernel
theorem dX8_judge_75 : decode cX8_judge 75 = .ok (.getfield 65, 3) := by decide +kernel
theorem dX8_judge_78 : decode cX8_judge 78 = .ok (.iload_n 1, 1) := by decide +kernel
theorem dX8_judge_79 : decode cX8_judge 79 = .ok (.iload_n 2, 1) := by decide +kernel
theorem dX8_judge_80 : decode cX8_judge 80 = .ok (.iload_n 3, 1) := by decide +kernel
theorem dX8_judge_81 : decode cX8_judge 81 = .ok (.invokevirtual 268, 3) := by decide +kernel
theorem dX8_judge_84 : decode cX8_judge 84 = .ok (.ifCond .ne 10, 3) := by decide +kernel
theorem dX8_judge_87 : decode cX8_judge 87 = .ok (.bipush 100, 2) := by decide +kernel
theorem dX8_judge_89 : decode cX8_judge 89 = .ok (.iload_n 3, 1) := by decide +kernel
theorem dX8_judge_90 : decode cX8_judge 90 = .ok (.iadd, 1) := by decide +kernel
theorem dX8_judge_91 : decode cX8_judge 91 = .ok (.iconst 1, 1) := by decide +kernel
theorem dX8_judge_92 : decode cX8_judge 92 = .ok (.isub, 1) := by decide +kernel
theorem dX8_judge_93 : decode cX8_judge 93 = .ok (.ireturn, 1) := by decide +kernel
theorem dX8_judge_94 : decode cX8_judge 94 = .ok (.aload_n 0, 1) := by decide +kernel
theorem dX8_judge_95 : decode cX8_judge 95 = .ok (.getfield 65, 3) := by decide +kernel
theorem dX8_judge_98 : decode cX8_judge 98 = .ok (.iload_n 1, 1) := by decide +kernel
theorem dX8_judge_99 : decode cX8_judge 99 = .ok (.iload_n 2, 1) := by decide +kernel
theorem dX8_judge_100 : decode cX8_judge 100 = .ok (.iload_n 3, 1) := by decide +kernel
theorem dX8_judge_101 : decode cX8_judge 101 = .ok (.iadd, 1) := by decide +kernel
theorem dX8_judge_102 : decode cX8_judge 102 = .ok (.iconst 1, 1) := by decide +kernel
theorem dX8_judge_103 : decode cX8_judge 103 = .ok (.isub, 1) := by decide +kernel
theorem dX8_judge_104 : decode cX8_judge 104 = .ok (.invokevirtual 271, 3) := by decide +kernel
theorem dX8_judge_107 : decode cX8_judge 107 = .ok (.aload_n 0, 1) := by decide +kernel
theorem dX8_judge_108 : decode cX8_judge 108 = .ok (.getfield 44, 3) := by decide +kernel
theorem dX8_judge_111 : decode cX8_judge 111 = .ok (.iload_n 3, 1) := by decide +kernel
theorem dX8_judge_112 : decode cX8_judge 112 = .ok (.invokevirtual 222, 3) := by decide +kernel
theorem dX8_judge_115 : decode cX8_judge 115 = .ok (.i2l, 1) := by decide +kernel
theorem dX8_judge_116 : decode cX8_judge 116 = .ok (.lcmp, 1) := by decide +kernel
theorem dX8_judge_117 : decode cX8_judge 117 = .ok (.ifCond .eq 5, 3) := by decide +kernel
theorem dX8_judge_120 : decode cX8_judge 120 = .ok (.iload_n 3, 1) := by decide +kernel
theorem dX8_judge_121 : decode cX8_judge 121 = .ok (.ireturn, 1) := by decide +kernel
theorem dX8_judge_122 : decode cX8_judge 122 = .ok (.iinc 3 1, 3) := by decide +kernel
theorem dX8_judge_125 : decode cX8_judge 125 = .ok (.goto (-57), 3) := by decide +kernel
theorem dX8_judge_128 : decode cX8_judge 128 = .ok (.bipush (-5), 2) := by decide +kernel
theorem dX8_judge_130 : decode cX8_judge 130 = .ok (.ireturn, 1) := by decide +kernel
theorem dX8_image_0 : decode cX8_image 0 = .ok (.aload_n 0, 1) := by decide +kernel
theorem dX8_image_1 : decode cX8_image 1 = .ok (.getfield 18, 3) := by decide +kernel
theorem dX8_image_4 : decode cX8_image 4 = .ok (.aload_n 0, 1) := by decide +kernel
theorem dX8_image_5 : decode cX8_image 5 = .ok (.getfield 14, 3) := by decide +kernel
theorem dX8_image_8 : decode cX8_image 8 = .ok (.invokevirtual 274, 3) := by decide +kernel
theorem dX8_image_11 : decode cX8_image 11 = .ok (.aload_n 0, 1) := by decide +kernel
theorem dX8_image_12 : decode cX8_image 12 = .ok (.iconst 1, 1) := by decide +kernel
theorem dX8_image_13 : decode cX8_image 13 = .ok (.putfield 21, 3) := by decide +kernel
theorem dX8_image_16 : decode cX8_image 16 = .ok (.aload_n 0, 1) := by decide +kernel
theorem dX8_image_17 : decode cX8_image 17 = .ok (.invokevirtual 73, 3) := by decide +kernel
theorem dX8_image_20 : decode cX8_image 20 = .ok (.ireturn, 1) := by decide +kernel
theorem dX8_undo_0 : decode cX8_undo 0 = .ok (.aload_n 0, 1) := by decide +kernel
theorem dX8_undo_1 : decode cX8_undo 1 = .ok (.getfield 21, 3) := by decide +kernel
theorem dX8_undo_4 : decode cX8_undo 4 = .ok (.ifCond .ne 6, 3) := by decide +kernel
theorem dX8_undo_7 : decode cX8_undo 7 = .ok (.bipush (-3), 2) := by decide +kernel
theorem dX8_undo_9 : decode cX8_undo 9 = .ok (.ireturn, 1) := by decide +kernel
theorem dX8_undo_10 : decode cX8_undo 10 = .ok (.aload_n 0, 1) := by decide +kernel
theorem dX8_undo_11 : decode cX8_undo 11 = .ok (.getfield 14, 3) := by decide +kernel
theorem dX8_undo_14 : decode cX8_undo 14 = .ok (.aload_n 0, 1) := by decide +kernel
theorem dX8_undo_15 : decode cX8_undo 15 = .ok (.getfield 18, 3) := by decide +kernel
theorem dX8_undo_18 : decode cX8_undo 18 = .ok (.invokevirtual 274, 3) := by decide +kernel
theorem dX8_undo_21 : decode cX8_undo 21 = .ok (.aload_n 0, 1) := by decide +kernel
theorem dX8_undo_22 : decode cX8_undo 22 = .ok (.invokevirtual 73, 3) := by decide +kernel
theorem dX8_undo_25 : decode cX8_undo 25 = .ok (.ireturn, 1) := by decide +kernel
theorem dX8_count_0 : decode cX8_count 0 = .ok (.iload_n 1, 1) := by decide +kernel
theorem dX8_count_1 : decode cX8_count 1 = .ok (.tableswitch 72 0 3 #[31, 42, 53, 64], 31) := by decide +kernel
theorem dX8_count_32 : decode cX8_count 32 = .ok (.aload_n 0, 1) := by decide +kernel
theorem dX8_count_33 : decode cX8_count 33 = .ok (.getfield 14, 3) := by decide +kernel
theorem dX8_count_36 : decode cX8_count 36 = .ok (.getfield 238, 3) := by decide +kernel
theorem dX8_count_39 : decode cX8_count 39 = .ok (.invokevirtual 109, 3) := by decide +kernel
theorem dX8_count_42 : decode cX8_count 42 = .ok (.ireturn, 1) := by decide +kernel
theorem dX8_count_43 : decode cX8_count 43 = .ok (.aload_n 0, 1) := by decide +kernel
theorem dX8_count_44 : decode cX8_count 44 = .ok (.getfield 14, 3) := by decide +kernel
theorem dX8_count_47 : decode cX8_count 47 = .ok (.getfield 247, 3) := by decide +kernel
theorem dX8_count_50 : decode cX8_count 50 = .ok (.invokevirtual 109, 3) := by decide +kernel
theorem dX8_count_53 : decode cX8_count 53 = .ok (.ireturn, 1) := by decide +kernel
theorem dX8_count_54 : decode cX8_count 54 = .ok (.aload_n 0, 1) := by decide +kernel
theorem dX8_count_55 : decode cX8_count 55 = .ok (.getfield 14, 3) := by decide +kernel
theorem dX8_count_58 : decode cX8_count 58 = .ok (.getfield 256, 3) := by decide +kernel
theorem dX8_count_61 : decode cX8_count 61 = .ok (.invokevirtual 109, 3) := by decide +kernel
theorem dX8_count_64 : decode cX8_count 64 = .ok (.ireturn, 1) := by decide +kernel
theorem dX8_count_65 : decode cX8_count 65 = .ok (.aload_n 0, 1) := by decide +kernel
theorem dX8_count_66 : decode cX8_count 66 = .ok (.getfield 58, 3) := by decide +kernel
theorem dX8_count_69 : decode cX8_count 69 = .ok (.invokevirtual 277, 3) := by decide +kernel
theorem dX8_count_72 : decode cX8_count 72 = .ok (.ireturn, 1) := by decide +kernel
theorem dX8_count_73 : decode cX8_count 73 = .ok (.bipush (-2), 2) := by decide +kernel
theorem dX8_count_75 : decode cX8_count 75 = .ok (.ireturn, 1) := by decide +kernel
theorem dX8_tape_0 : decode cX8_tape 0 = .ok (.aload_n 0, 1) := by decide +kernel
theorem dX8_tape_1 : decode cX8_tape 1 = .ok (.getfield 65, 3) := by decide +kernel
theorem dX8_tape_4 : decode cX8_tape 4 = .ok (.iload_n 1, 1) := by decide +kernel
theorem dX8_tape_5 : decode cX8_tape 5 = .ok (.invokevirtual 259, 3) := by decide +kernel
theorem dX8_tape_8 : decode cX8_tape 8 = .ok (.ifCond .ne 5, 3) := by decide +kernel
theorem dX8_tape_11 : decode cX8_tape 11 = .ok (.iconst (-1), 1) := by decide +kernel
theorem dX8_tape_12 : decode cX8_tape 12 = .ok (.ireturn, 1) := by decide +kernel
theorem dX8_tape_13 : decode cX8_tape 13 = .ok (.iload_n 2, 1) := by decide +kernel
theorem dX8_tape_14 : decode cX8_tape 14 = .ok (.iconst (-1), 1) := by decide +kernel
theorem dX8_tape_15 : decode cX8_tape 15 = .ok (.if_icmp .ne 13, 3) := by decide +kernel
theorem dX8_tape_18 : decode cX8_tape 18 = .ok (.aload_n 0, 1) := by decide +kernel
theorem dX8_tape_19 : decode cX8_tape 19 = .ok (.getfield 65, 3) := by decide +kernel
theorem dX8_tape_22 : decode cX8_tape 22 = .ok (.iload_n 1, 1) := by decide +kernel
