theorem dX0_init_0 : decode cX0_init 0 = .ok (.aload_n 0, 1) := by decide +kernel
theorem dX0_init_1 : decode cX0_init 1 = .ok (.invokespecial 3, 3) := by decide +kernel
theorem dX0_init_4 : decode cX0_init 4 = .ok (.aload_n 0, 1) := by decide +kernel
theorem dX0_init_5 : decode cX0_init 5 = .ok (.sipush 169, 3) := by decide +kernel
theorem dX0_init_8 : decode cX0_init 8 = .ok (.newarray .int, 2) := by decide +kernel
theorem dX0_init_10 : decode cX0_init 10 = .ok (.putfield 9, 3) := by decide +kernel
theorem dX0_init_13 : decode cX0_init 13 = .ok (.aload_n 0, 1) := by decide +kernel
theorem dX0_init_14 : decode cX0_init 14 = .ok (.sipush 169, 3) := by decide +kernel
theorem dX0_init_17 : decode cX0_init 17 = .ok (.newarray .int, 2) := by decide +kernel
theorem dX0_init_19 : decode cX0_init 19 = .ok (.putfield 15, 3) := by decide +kernel
theorem dX0_init_22 : decode cX0_init 22 = .ok (.aload_n 0, 1) := by decide +kernel
theorem dX0_init_23 : decode cX0_init 23 = .ok (.sipush 169, 3) := by decide +kernel
theorem dX0_init_26 : decode cX0_init 26 = .ok (.newarray .long, 2) := by decide +kernel
theorem dX0_init_28 : decode cX0_init 28 = .ok (.putfield 18, 3) := by decide +kernel
theorem dX0_init_31 : decode cX0_init 31 = .ok (.aload_n 0, 1) := by decide +kernel
theorem dX0_init_32 : decode cX0_init 32 = .ok (.iconst 0, 1) := by decide +kernel
theorem dX0_init_33 : decode cX0_init 33 = .ok (.putfield 22, 3) := by decide +kernel
theorem dX0_init_36 : decode cX0_init 36 = .ok (.aload_n 0, 1) := by decide +kernel
theorem dX0_init_37 : decode cX0_init 37 = .ok (.iconst 0, 1) := by decide +kernel
theorem dX0_init_38 : decode cX0_init 38 = .ok (.putfield 26, 3) := by decide +kernel
theorem dX0_init_41 : decode cX0_init 41 = .ok (.aload_n 0, 1) := by decide +kernel
theorem dX0_init_42 : decode cX0_init 42 = .ok (.aload_n 1, 1) := by decide +kernel
theorem dX0_init_43 : decode cX0_init 43 = .ok (.putfield 29, 3) := by decide +kernel
theorem dX0_init_46 : decode cX0_init 46 = .ok (.return_, 1) := by decide +kernel
theorem dX0_fillFor_0 : decode cX0_fillFor 0 = .ok (.aload_n 0, 1) := by decide +kernel
theorem dX0_fillFor_1 : decode cX0_fillFor 1 = .ok (.getfield 22, 3) := by decide +kernel
theorem dX0_fillFor_4 : decode cX0_fillFor 4 = .ok (.iload_n 1, 1) := by decide +kernel
theorem dX0_fillFor_5 : decode cX0_fillFor 5 = .ok (.if_icmp .ne 12, 3) := by decide +kernel
theorem dX0_fillFor_8 : decode cX0_fillFor 8 = .ok (.aload_n 0, 1) := by decide +kernel
theorem dX0_fillFor_9 : decode cX0_fillFor 9 = .ok (.getfield 26, 3) := by decide +kernel
theorem dX0_fillFor_12 : decode cX0_fillFor 12 = .ok (.iload_n 2, 1) := by decide +kernel
theorem dX0_fillFor_13 : decode cX0_fillFor 13 = .ok (.if_icmp .ne 4, 3) := by decide +kernel
theorem dX0_fillFor_16 : decode cX0_fillFor 16 = .ok (.return_, 1) := by decide +kernel
theorem dX0_fillFor_17 : decode cX0_fillFor 17 = .ok (.aload_n 0, 1) := by decide +kernel
theorem dX0_fillFor_18 : decode cX0_fillFor 18 = .ok (.iload_n 1, 1) := by decide +kernel
theorem dX0_fillFor_19 : decode cX0_fillFor 19 = .ok (.putfield 22, 3) := by decide +kernel
theorem dX0_fillFor_22 : decode cX0_fillFor 22 = .ok (.aload_n 0, 1) := by decide +kernel
theorem dX0_fillFor_23 : decode cX0_fillFor 23 = .ok (.iload_n 2, 1) := by decide +kernel
theorem dX0_fillFor_24 : decode cX0_fillFor 24 = .ok (.putfield 26, 3) := by decide +kernel
theorem dX0_fillFor_27 : decode cX0_fillFor 27 = .ok (.iconst 1, 1) := by decide +kernel
theorem dX0_fillFor_28 : decode cX0_fillFor 28 = .ok (.istore_n 3, 1) := by decide +kernel
theorem dX0_fillFor_29 : decode cX0_fillFor 29 = .ok (.iload_n 3, 1) := by decide +kernel
theorem dX0_fillFor_30 : decode cX0_fillFor 30 = .ok (.bipush 12, 2) := by decide +kernel
theorem dX0_fillFor_32 : decode cX0_fillFor 32 = .ok (.if_icmp .gt 34, 3) := by decide +kernel
theorem dX0_fillFor_35 : decode cX0_fillFor 35 = .ok (.iconst 0, 1) := by decide +kernel
theorem dX0_fillFor_36 : decode cX0_fillFor 36 = .ok (.istore 4, 2) := by decide +kernel
theorem dX0_fillFor_38 : decode cX0_fillFor 38 = .ok (.iload 4, 2) := by decide +kernel
theorem dX0_fillFor_40 : decode cX0_fillFor 40 = .ok (.iload_n 3, 1) := by decide +kernel
theorem dX0_fillFor_41 : decode cX0_fillFor 41 = .ok (.if_icmp .gt 19, 3) := by decide +kernel
theorem dX0_fillFor_44 : decode cX0_fillFor 44 = .ok (.aload_n 0, 1) := by decide +kernel
theorem dX0_fillFor_45 : decode cX0_fillFor 45 = .ok (.iload 4, 2) := by decide +kernel
theorem dX0_fillFor_47 : decode cX0_fillFor 47 = .ok (.iload_n 3, 1) := by decide +kernel
theorem dX0_fillFor_48 : decode cX0_fillFor 48 = .ok (.iload 4, 2) := by decide +kernel
theorem dX0_fillFor_50 : decode cX0_fillFor 50 = .ok (.isub, 1) := by decide +kernel
theorem dX0_fillFor_51 : decode cX0_fillFor 51 = .ok (.invokevirtual 33, 3) := by decide +kernel
theorem dX0_fillFor_54 : decode cX0_fillFor 54 = .ok (.iinc 4 1, 3) := by decide +kernel
theorem dX0_fillFor_57 : decode cX0_fillFor 57 = .ok (.goto (-19), 3) := by decide +kernel
theorem dX0_fillFor_60 : decode cX0_fillFor 60 = .ok (.iinc 3 1, 3) := by decide +kernel
theorem dX0_fillFor_63 : decode cX0_fillFor 63 = .ok (.goto (-34), 3) := by decide +kernel
theorem dX0_fillFor_66 : decode cX0_fillFor 66 = .ok (.return_, 1) := by decide +kernel
theorem dX0_fillPlace_0 : decode cX0_fillPlace 0 = .ok (.bipush 13, 2) := by decide +kernel
theorem dX0_fillPlace_2 : decode cX0_fillPlace 2 = .ok (.iload_n 1, 1) := by decide +kernel
theorem dX0_fillPlace_3 : decode cX0_fillPlace 3 = .ok (.imul, 1) := by decide +kernel
theorem dX0_fillPlace_4 : decode cX0_fillPlace 4 = .ok (.iload_n 2, 1) := by decide +kernel
theorem dX0_fillPlace_5 : decode cX0_fillPlace 5 = .ok (.iadd, 1) := by decide +kernel
theorem dX0_fillPlace_6 : decode cX0_fillPlace 6 = .ok (.istore_n 3, 1) := by decide +kernel
theorem dX0_fillPlace_7 : decode cX0_fillPlace 7 = .ok (.aload_n 0, 1) := by decide +kernel
theorem dX0_fillPlace_8 : decode cX0_fillPlace 8 = .ok (.getfield 29, 3) := by decide +kernel
theorem dX0_fillPlace_11 : decode cX0_fillPlace 11 = .ok (.aload_n 0, 1) := by decide +kernel
theorem dX0_fillPlace_12 : decode cX0_fillPlace 12 = .ok (.getfield 22, 3) := by decide +kernel
theorem dX0_fillPlace_15 : decode cX0_fillPlace 15 = .ok (.aload_n 0, 1) := by decide +kernel
theorem dX0_fillPlace_16 : decode cX0_fillPlace 16 = .ok (.getfield 26, 3) := by decide +kernel
theorem dX0_fillPlace_19 : decode cX0_fillPlace 19 = .ok (.iload_n 1, 1) := by decide +kernel
theorem dX0_fillPlace_20 : decode cX0_fillPlace 20 = .ok (.iload_n 2, 1) := by decide +kernel
theorem dX0_fillPlace_21 : decode cX0_fillPlace 21 = .ok (.invokevirtual 37, 3) := by decide +kernel
theorem dX0_fillPlace_24 : decode cX0_fillPlace 24 = .ok (.istore 4, 2) := by decide +kernel
theorem dX0_fillPlace_26 : decode cX0_fillPlace 26 = .ok (.aload_n 0, 1) := by decide +kernel
theorem dX0_fillPlace_27 : decode cX0_fillPlace 27 = .ok (.iload_n 1, 1) := by decide +kernel
theorem dX0_fillPlace_28 : decode cX0_fillPlace 28 = .ok (.iload_n 2, 1) := by decide +kernel
theorem dX0_fillPlace_29 : decode cX0_fillPlace 29 = .ok (.invokevirtual 43, 3) := by decide +kernel
theorem dX0_fillPlace_32 : decode cX0_fillPlace 32 = .ok (.lstore 5, 2) := by decide +kernel
theorem dX0_fillPlace_34 : decode cX0_fillPlace 34 = .ok (.aload_n 0, 1) := by decide +kernel
theorem dX0_fillPlace_35 : decode cX0_fillPlace 35 = .ok (.getfield 9, 3) := by decide +kernel
theorem dX0_fillPlace_38 : decode cX0_fillPlace 38 = .ok (.iload_n 3, 1) := by decide +kernel
theorem dX0_fillPlace_39 : decode cX0_fillPlace 39 = .ok (.iload 4, 2) := by decide +kernel
theorem dX0_fillPlace_41 : decode cX0_fillPlace 41 = .ok (.iastore, 1) := by decide +kernel
theorem dX0_fillPlace_42 : decode cX0_fillPlace 42 = .ok (.iload 4, 2) := by decide +kernel
theorem dX0_fillPlace_44 : decode cX0_fillPlace 44 = .ok (.iconst 1, 1) := by decide +kernel
theorem dX0_fillPlace_45 : decode cX0_fillPlace 45 = .ok (.if_icmp .ne 22, 3) := by decide +kernel
theorem dX0_fillPlace_48 : decode cX0_fillPlace 48 = .ok (.aload_n 0, 1) := by decide +kernel
theorem dX0_fillPlace_49 : decode cX0_fillPlace 49 = .ok (.getfield 15, 3) := by decide +kernel
theorem dX0_fillPlace_52 : decode cX0_fillPlace 52 = .ok (.iload_n 3, 1) := by decide +kernel
theorem dX0_fillPlace_53 : decode cX0_fillPlace 53 = .ok (.iconst 1, 1) := by decide +kernel
theorem dX0_fillPlace_54 : decode cX0_fillPlace 54 = .ok (.iastore, 1) := by decide +kernel
theorem dX0_fillPlace_55 : decode cX0_fillPlace 55 = .ok (.aload_n 0, 1) := by decide +kernel
theorem dX0_fillPlace_56 : decode cX0_fillPlace 56 = .ok (.getfield 18, 3) := by decide +kernel
theorem dX0_fillPlace_59 : decode cX0_fillPlace 59 = .ok (.iload_n 3, 1) := by decide +kernel
theorem dX0_fillPlace_60 : decode cX0_fillPlace 60 = .ok (.ldc2_w 47, 3) := by decide +kernel
theorem dX0_fillPlace_63 : decode cX0_fillPlace 63 = .ok (.lastore, 1) := by decide +kernel
theorem dX0_fillPlace_64 : decode cX0_fillPlace 64 = .ok (.goto 59, 3) := by decide +kernel
theorem dX0_fillPlace_67 : decode cX0_fillPlace 67 = .ok (.iload 4, 2) := by decide +kernel
theorem dX0_fillPlace_69 : decode cX0_fillPlace 69 = .ok (.iconst 2, 1) := by decide +kernel
theorem dX0_fillPlace_70 : decode cX0_fillPlace 70 = .ok (.if_icmp .ne 38, 3) := by decide +kernel
theorem dX0_fillPlace_73 : decode cX0_fillPlace 73 = .ok (.aload_n 0, 1) := by decide +kernel
theorem dX0_fillPlace_74 : decode cX0_fillPlace 74 = .ok (.getfield 18, 3) := by decide +kernel
theorem dX0_fillPlace_77 : decode cX0_fillPlace 77 = .ok (.iload_n 3, 1) := by decide +kernel
theorem dX0_fillPlace_78 : decode cX0_fillPlace 78 = .ok (.aload_n 0, 1) := by decide +kernel
theorem dX0_fillPlace_79 : decode cX0_fillPlace 79 = .ok (.iload_n 1, 1) := by decide +kernel
theorem dX0_fillPlace_80 : decode cX0_fillPlace 80 = .ok (.iload_n 2, 1) := by decide +kernel
theorem dX0_fillPlace_81 : decode cX0_fillPlace 81 = .ok (.invokevirtual 49, 3) := by decide +kernel
theorem dX0_fillPlace_84 : decode cX0_fillPlace 84 = .ok (.lastore, 1) := by decide +kernel
theorem dX0_fillPlace_85 : decode cX0_fillPlace 85 = .ok (.aload_n 0, 1) := by decide +kernel
theorem dX0_fillPlace_86 : decode cX0_fillPlace 86 = .ok (.getfield 15, 3) := by decide +kernel
theorem dX0_fillPlace_89 : decode cX0_fillPlace 89 = .ok (.iload_n 3, 1) := by decide +kernel
theorem dX0_fillPlace_90 : decode cX0_fillPlace 90 = .ok (.aload_n 0, 1) := by decide +kernel
theorem dX0_fillPlace_91 : decode cX0_fillPlace 91 = .ok (.getfield 18, 3) := by decide +kernel
theorem dX0_fillPlace_94 : decode cX0_fillPlace 94 = .ok (.iload_n 3, 1) := by decide +kernel
theorem dX0_fillPlace_95 : decode cX0_fillPlace 95 = .ok (.laload, 1) := by decide +kernel
theorem dX0_fillPlace_96 : decode cX0_fillPlace 96 = .ok (.lload 5, 2) := by decide +kernel
theorem dX0_fillPlace_98 : decode cX0_fillPlace 98 = .ok (.lsub, 1) := by decide +kernel
theorem dX0_fillPlace_99 : decode cX0_fillPlace 99 = .ok (.ldc2_w 47, 3) := by decide +kernel
theorem dX0_fillPlace_102 : decode cX0_fillPlace 102 = .ok (.ldiv, 1) := by decide +kernel
theorem dX0_fillPlace_103 : decode cX0_fillPlace 103 = .ok (.l2i, 1) := by decide +kernel
theorem dX0_fillPlace_104 : decode cX0_fillPlace 104 = .ok (.iastore, 1) := by decide +kernel
theorem dX0_fillPlace_105 : decode cX0_fillPlace 105 = .ok (.goto 18, 3) := by decide +kernel
theorem dX0_fillPlace_108 : decode cX0_fillPlace 108 = .ok (.aload_n 0, 1) := by decide +kernel
theorem dX0_fillPlace_109 : decode cX0_fillPlace 109 = .ok (.getfield 15, 3) := by decide +kernel
theorem dX0_fillPlace_112 : decode cX0_fillPlace 112 = .ok (.iload_n 3, 1) := by decide +kernel
theorem dX0_fillPlace_113 : decode cX0_fillPlace 113 = .ok (.iconst 0, 1) := by decide +kernel
theorem dX0_fillPlace_114 : decode cX0_fillPlace 114 = .ok (.iastore, 1) := by decide +kernel
theorem dX0_fillPlace_115 : decode cX0_fillPlace 115 = .ok (.aload_n 0, 1) := by decide +kernel
theorem dX0_fillPlace_116 : decode cX0_fillPlace 116 = .ok (.getfield 18, 3) := by decide +kernel
theorem dX0_fillPlace_119 : decode cX0_fillPlace 119 = .ok (.iload_n 3, 1) := by decide +kernel
theorem dX0_fillPlace_120 : decode cX0_fillPlace 120 = .ok (.lload 5, 2) := by decide +kernel
theorem dX0_fillPlace_122 : decode cX0_fillPlace 122 = .ok (.lastore, 1) := by decide +kernel
theorem dX0_fillPlace_123 : decode cX0_fillPlace 123 = .ok (.return_, 1) := by decide +kernel
theorem dX0_sharesOfParts_0 : decode cX0_sharesOfParts 0 = .ok (.lconst 0, 1) := by decide +kernel
theorem dX0_sharesOfParts_1 : decode cX0_sharesOfParts 1 = .ok (.lstore_n 3, 1) := by decide +kernel
theorem dX0_sharesOfParts_2 : decode cX0_sharesOfParts 2 = .ok (.iconst 2, 1) := by decide +kernel
theorem dX0_sharesOfParts_3 : decode cX0_sharesOfParts 3 = .ok (.istore 5, 2) := by decide +kernel
theorem dX0_sharesOfParts_5 : decode cX0_sharesOfParts 5 = .ok (.iload 5, 2) := by decide +kernel
theorem dX0_sharesOfParts_7 : decode cX0_sharesOfParts 7 = .ok (.bipush 12, 2) := by decide +kernel
theorem dX0_sharesOfParts_9 : decode cX0_sharesOfParts 9 = .ok (.if_icmp .gt 47, 3) := by decide +kernel
theorem dX0_sharesOfParts_12 : decode cX0_sharesOfParts 12 = .ok (.iload_n 1, 1) := by decide +kernel
theorem dX0_sharesOfParts_13 : decode cX0_sharesOfParts 13 = .ok (.iload 5, 2) := by decide +kernel
theorem dX0_sharesOfParts_15 : decode cX0_sharesOfParts 15 = .ok (.irem, 1) := by decide +kernel
theorem dX0_sharesOfParts_16 : decode cX0_sharesOfParts 16 = .ok (.ifCond .ne 34, 3) := by decide +kernel
theorem dX0_sharesOfParts_19 : decode cX0_sharesOfParts 19 = .ok (.iload_n 2, 1) := by decide +kernel
theorem dX0_sharesOfParts_20 : decode cX0_sharesOfParts 20 = .ok (.iload 5, 2) := by decide +kernel
theorem dX0_sharesOfParts_22 : decode cX0_sharesOfParts 22 = .ok (.irem, 1) := by decide +kernel
theorem dX0_sharesOfParts_23 : decode cX0_sharesOfParts 23 = .ok (.ifCond .ne 27, 3) := by decide +kernel
theorem dX0_sharesOfParts_26 : decode cX0_sharesOfParts 26 = .ok (.lload_n 3, 1) := by decide +kernel
theorem dX0_sharesOfParts_27 : decode cX0_sharesOfParts 27 = .ok (.aload_n 0, 1) := by decide +kernel
theorem dX0_sharesOfParts_28 : decode cX0_sharesOfParts 28 = .ok (.iload_n 1, 1) := by decide +kernel
theorem dX0_sharesOfParts_29 : decode cX0_sharesOfParts 29 = .ok (.iload 5, 2) := by decide +kernel
theorem dX0_sharesOfParts_31 : decode cX0_sharesOfParts 31 = .ok (.idiv, 1) := by decide +kernel
theorem dX0_sharesOfParts_32 : decode cX0_sharesOfParts 32 = .ok (.iload_n 2, 1) := by decide +kernel
theorem dX0_sharesOfParts_33 : decode cX0_sharesOfParts 33 = .ok (.iload 5, 2) := by decide +kernel
theorem dX0_sharesOfParts_35 : decode cX0_sharesOfParts 35 = .ok (.idiv, 1) := by decide +kernel
theorem dX0_sharesOfParts_36 : decode cX0_sharesOfParts 36 = .ok (.invokevirtual 52, 3) := by decide +kernel
theorem dX0_sharesOfParts_39 : decode cX0_sharesOfParts 39 = .ok (.i2l, 1) := by decide +kernel
theorem dX0_sharesOfParts_40 : decode cX0_sharesOfParts 40 = .ok (.sipush 27720, 3) := by decide +kernel
theorem dX0_sharesOfParts_43 : decode cX0_sharesOfParts 43 = .ok (.iload 5, 2) := by decide +kernel
theorem dX0_sharesOfParts_45 : decode cX0_sharesOfParts 45 = .ok (.idiv, 1) := by decide +kernel
theorem dX0_sharesOfParts_46 : decode cX0_sharesOfParts 46 = .ok (.i2l, 1) := by decide +kernel
theorem dX0_sharesOfParts_47 : decode cX0_sharesOfParts 47 = .ok (.lmul, 1) := by decide +kernel
theorem dX0_sharesOfParts_48 : decode cX0_sharesOfParts 48 = .ok (.ladd, 1) := by decide +kernel
theorem dX0_sharesOfParts_49 : decode cX0_sharesOfParts 49 = .ok (.lstore_n 3, 1) := by decide +kernel
theorem dX0_sharesOfParts_50 : decode cX0_sharesOfParts 50 = .ok (.iinc 5 1, 3) := by decide +kernel
theorem dX0_sharesOfParts_53 : decode cX0_sharesOfParts 53 = .ok (.goto (-48), 3) := by decide +kernel
theorem dX0_sharesOfParts_56 : decode cX0_sharesOfParts 56 = .ok (.lload_n 3, 1) := by decide +kernel
theorem dX0_sharesOfParts_57 : decode cX0_sharesOfParts 57 = .ok (.lreturn, 1) := by decide +kernel
theorem dX0_shareOfOther_0 : decode cX0_shareOfOther 0 = .ok (.lconst 0, 1) := by decide +kernel
theorem dX0_shareOfOther_1 : decode cX0_shareOfOther 1 = .ok (.lstore_n 3, 1) := by decide +kernel
theorem dX0_shareOfOther_2 : decode cX0_shareOfOther 2 = .ok (.iconst 0, 1) := by decide +kernel
theorem dX0_shareOfOther_3 : decode cX0_shareOfOther 3 = .ok (.istore 5, 2) := by decide +kernel
theorem dX0_shareOfOther_5 : decode cX0_shareOfOther 5 = .ok (.iload 5, 2) := by decide +kernel
theorem dX0_shareOfOther_7 : decode cX0_shareOfOther 7 = .ok (.iload_n 1, 1) := by decide +kernel
theorem dX0_shareOfOther_8 : decode cX0_shareOfOther 8 = .ok (.if_icmp .gt 100, 3) := by decide +kernel
theorem dX0_shareOfOther_11 : decode cX0_shareOfOther 11 = .ok (.iconst 0, 1) := by decide +kernel
theorem dX0_shareOfOther_12 : decode cX0_shareOfOther 12 = .ok (.istore 6, 2) := by decide +kernel
theorem dX0_shareOfOther_14 : decode cX0_shareOfOther 14 = .ok (.iload 6, 2) := by decide +kernel
theorem dX0_shareOfOther_16 : decode cX0_shareOfOther 16 = .ok (.iload_n 2, 1) := by decide +kernel
theorem dX0_shareOfOther_17 : decode cX0_shareOfOther 17 = .ok (.if_icmp .gt 85, 3) := by decide +kernel
theorem dX0_shareOfOther_20 : decode cX0_shareOfOther 20 = .ok (.iload 5, 2) := by decide +kernel
theorem dX0_shareOfOther_22 : decode cX0_shareOfOther 22 = .ok (.iload 6, 2) := by decide +kernel
theorem dX0_shareOfOther_24 : decode cX0_shareOfOther 24 = .ok (.invokestatic 56, 3) := by decide +kernel
theorem dX0_shareOfOther_27 : decode cX0_shareOfOther 27 = .ok (.ifCond .eq 69, 3) := by decide +kernel
theorem dX0_shareOfOther_30 : decode cX0_shareOfOther 30 = .ok (.iload_n 1, 1) := by decide +kernel
theorem dX0_shareOfOther_31 : decode cX0_shareOfOther 31 = .ok (.iload 5, 2) := by decide +kernel
theorem dX0_shareOfOther_33 : decode cX0_shareOfOther 33 = .ok (.isub, 1) := by decide +kernel
theorem dX0_shareOfOther_34 : decode cX0_shareOfOther 34 = .ok (.iload_n 2, 1) := by decide +kernel
theorem dX0_shareOfOther_35 : decode cX0_shareOfOther 35 = .ok (.iload 6, 2) := by decide +kernel
theorem dX0_shareOfOther_37 : decode cX0_shareOfOther 37 = .ok (.isub, 1) := by decide +kernel
theorem dX0_shareOfOther_38 : decode cX0_shareOfOther 38 = .ok (.invokestatic 56, 3) := by decide +kernel
theorem dX0_shareOfOther_41 : decode cX0_shareOfOther 41 = .ok (.ifCond .eq 55, 3) := by decide +kernel
theorem dX0_shareOfOther_44 : decode cX0_shareOfOther 44 = .ok (.lload_n 3, 1) := by decide +kernel
theorem dX0_shareOfOther_45 : decode cX0_shareOfOther 45 = .ok (.aload_n 0, 1) := by decide +kernel
theorem dX0_shareOfOther_46 : decode cX0_shareOfOther 46 = .ok (.getfield 22, 3) := by decide +kernel
theorem dX0_shareOfOther_49 : decode cX0_shareOfOther 49 = .ok (.aload_n 0, 1) := by decide +kernel
theorem dX0_shareOfOther_50 : decode cX0_shareOfOther 50 = .ok (.getfield 26, 3) := by decide +kernel
theorem dX0_shareOfOther_53 : decode cX0_shareOfOther 53 = .ok (.iload 5, 2) := by decide +kernel
theorem dX0_shareOfOther_55 : decode cX0_shareOfOther 55 = .ok (.i2l, 1) := by decide +kernel
theorem dX0_shareOfOther_56 : decode cX0_shareOfOther 56 = .ok (.iload 6, 2) := by decide +kernel
theorem dX0_shareOfOther_58 : decode cX0_shareOfOther 58 = .ok (.i2l, 1) := by decide +kernel
theorem dX0_shareOfOther_59 : decode cX0_shareOfOther 59 = .ok (.iload_n 1, 1) := by decide +kernel
theorem dX0_shareOfOther_60 : decode cX0_shareOfOther 60 = .ok (.iload 5, 2) := by decide +kernel
theorem dX0_shareOfOther_62 : decode cX0_shareOfOther 62 = .ok (.isub, 1) := by decide +kernel
theorem dX0_shareOfOther_63 : decode cX0_shareOfOther 63 = .ok (.i2l, 1) := by decide +kernel
theorem dX0_shareOfOther_64 : decode cX0_shareOfOther 64 = .ok (.iload_n 2, 1) := by decide +kernel
theorem dX0_shareOfOther_65 : decode cX0_shareOfOther 65 = .ok (.iload 6, 2) := by decide +kernel
theorem dX0_shareOfOther_67 : decode cX0_shareOfOther 67 = .ok (.isub, 1) := by decide +kernel
theorem dX0_shareOfOther_68 : decode cX0_shareOfOther 68 = .ok (.i2l, 1) := by decide +kernel
theorem dX0_shareOfOther_69 : decode cX0_shareOfOther 69 = .ok (.invokestatic 60, 3) := by decide +kernel
theorem dX0_shareOfOther_72 : decode cX0_shareOfOther 72 = .ok (.aload_n 0, 1) := by decide +kernel
theorem dX0_shareOfOther_73 : decode cX0_shareOfOther 73 = .ok (.iload 5, 2) := by decide +kernel
theorem dX0_shareOfOther_75 : decode cX0_shareOfOther 75 = .ok (.iload 6, 2) := by decide +kernel
theorem dX0_shareOfOther_77 : decode cX0_shareOfOther 77 = .ok (.invokevirtual 64, 3) := by decide +kernel
theorem dX0_shareOfOther_80 : decode cX0_shareOfOther 80 = .ok (.lmul, 1) := by decide +kernel
theorem dX0_shareOfOther_81 : decode cX0_shareOfOther 81 = .ok (.aload_n 0, 1) := by decide +kernel
theorem dX0_shareOfOther_82 : decode cX0_shareOfOther 82 = .ok (.iload_n 1, 1) := by decide +kernel
theorem dX0_shareOfOther_83 : decode cX0_shareOfOther 83 = .ok (.iload 5, 2) := by decide +kernel
theorem dX0_shareOfOther_85 : decode cX0_shareOfOther 85 = .ok (.isub, 1) := by decide +kernel
theorem dX0_shareOfOther_86 : decode cX0_shareOfOther 86 = .ok (.iload_n 2, 1) := by decide +kernel
theorem dX0_shareOfOther_87 : decode cX0_shareOfOther 87 = .ok (.iload 6, 2) := by decide +kernel
theorem dX0_shareOfOther_89 : decode cX0_shareOfOther 89 = .ok (.isub, 1) := by decide +kernel
theorem dX0_shareOfOther_90 : decode cX0_shareOfOther 90 = .ok (.invokevirtual 64, 3) := by decide +kernel
theorem dX0_shareOfOther_93 : decode cX0_shareOfOther 93 = .ok (.lmul, 1) := by decide +kernel
theorem dX0_shareOfOther_94 : decode cX0_shareOfOther 94 = .ok (.ladd, 1) := by decide +kernel
theorem dX0_shareOfOther_95 : decode cX0_shareOfOther 95 = .ok (.lstore_n 3, 1) := by decide +kernel
theorem dX0_shareOfOther_96 : decode cX0_shareOfOther 96 = .ok (.iinc 6 1, 3) := by decide +kernel
theorem dX0_shareOfOther_99 : decode cX0_shareOfOther 99 = .ok (.goto (-85), 3) := by decide +kernel
theorem dX0_shareOfOther_102 : decode cX0_shareOfOther 102 = .ok (.iinc 5 1, 3) := by decide +kernel
theorem dX0_shareOfOther_105 : decode cX0_shareOfOther 105 = .ok (.goto (-100), 3) := by decide +kernel
theorem dX0_shareOfOther_108 : decode cX0_shareOfOther 108 = .ok (.aload_n 0, 1) := by decide +kernel
theorem dX0_shareOfOther_109 : decode cX0_shareOfOther 109 = .ok (.getfield 22, 3) := by decide +kernel
theorem dX0_shareOfOther_112 : decode cX0_shareOfOther 112 = .ok (.aload_n 0, 1) := by decide +kernel
theorem dX0_shareOfOther_113 : decode cX0_shareOfOther 113 = .ok (.getfield 26, 3) := by decide +kernel
theorem dX0_shareOfOther_116 : decode cX0_shareOfOther 116 = .ok (.iload_n 1, 1) := by decide +kernel
theorem dX0_shareOfOther_117 : decode cX0_shareOfOther 117 = .ok (.iload_n 2, 1) := by decide +kernel
theorem dX0_shareOfOther_118 : decode cX0_shareOfOther 118 = .ok (.invokestatic 67, 3) := by decide +kernel
theorem dX0_shareOfOther_121 : decode cX0_shareOfOther 121 = .ok (.ldc2_w 71, 3) := by decide +kernel
theorem dX0_shareOfOther_124 : decode cX0_shareOfOther 124 = .ok (.aload_n 0, 1) := by decide +kernel
theorem dX0_shareOfOther_125 : decode cX0_shareOfOther 125 = .ok (.getfield 26, 3) := by decide +kernel
theorem dX0_shareOfOther_128 : decode cX0_shareOfOther 128 = .ok (.iload_n 1, 1) := by decide +kernel
theorem dX0_shareOfOther_129 : decode cX0_shareOfOther 129 = .ok (.imul, 1) := by decide +kernel
theorem dX0_shareOfOther_130 : decode cX0_shareOfOther 130 = .ok (.aload_n 0, 1) := by decide +kernel
theorem dX0_shareOfOther_131 : decode cX0_shareOfOther 131 = .ok (.getfield 22, 3) := by decide +kernel
theorem dX0_shareOfOther_134 : decode cX0_shareOfOther 134 = .ok (.iload_n 2, 1) := by decide +kernel
theorem dX0_shareOfOther_135 : decode cX0_shareOfOther 135 = .ok (.imul, 1) := by decide +kernel
theorem dX0_shareOfOther_136 : decode cX0_shareOfOther 136 = .ok (.iadd, 1) := by decide +kernel
theorem dX0_shareOfOther_137 : decode cX0_shareOfOther 137 = .ok (.i2l, 1) := by decide +kernel
theorem dX0_shareOfOther_138 : decode cX0_shareOfOther 138 = .ok (.lmul, 1) := by decide +kernel
theorem dX0_shareOfOther_139 : decode cX0_shareOfOther 139 = .ok (.lsub, 1) := by decide +kernel
theorem dX0_shareOfOther_140 : decode cX0_shareOfOther 140 = .ok (.ldc2_w 47, 3) := by decide +kernel
theorem dX0_shareOfOther_143 : decode cX0_shareOfOther 143 = .ok (.lmul, 1) := by decide +kernel
theorem dX0_shareOfOther_144 : decode cX0_shareOfOther 144 = .ok (.lstore 5, 2) := by decide +kernel
theorem dX0_shareOfOther_146 : decode cX0_shareOfOther 146 = .ok (.lload 5, 2) := by decide +kernel
theorem dX0_shareOfOther_148 : decode cX0_shareOfOther 148 = .ok (.lconst 0, 1) := by decide +kernel
theorem dX0_shareOfOther_149 : decode cX0_shareOfOther 149 = .ok (.lcmp, 1) := by decide +kernel
theorem dX0_shareOfOther_150 : decode cX0_shareOfOther 150 = .ok (.ifCond .ne 7, 3) := by decide +kernel
theorem dX0_shareOfOther_153 : decode cX0_shareOfOther 153 = .ok (.lconst 0, 1) := by decide +kernel
theorem dX0_shareOfOther_154 : decode cX0_shareOfOther 154 = .ok (.goto 7, 3) := by decide +kernel
theorem dX0_shareOfOther_157 : decode cX0_shareOfOther 157 = .ok (.lload_n 3, 1) := by decide +kernel
theorem dX0_shareOfOther_158 : decode cX0_shareOfOther 158 = .ok (.lload 5, 2) := by decide +kernel
theorem dX0_shareOfOther_160 : decode cX0_shareOfOther 160 = .ok (.ldiv, 1) := by decide +kernel
theorem dX0_shareOfOther_161 : decode cX0_shareOfOther 161 = .ok (.lreturn, 1) := by decide +kernel
theorem dX0_countAt_0 : decode cX0_countAt 0 = .ok (.iload_n 1, 1) := by decide +kernel
theorem dX0_countAt_1 : decode cX0_countAt 1 = .ok (.iload_n 2, 1) := by decide +kernel
theorem dX0_countAt_2 : decode cX0_countAt 2 = .ok (.invokestatic 56, 3) := by decide +kernel
theorem dX0_countAt_5 : decode cX0_countAt 5 = .ok (.ifCond .eq 17, 3) := by decide +kernel
theorem dX0_countAt_8 : decode cX0_countAt 8 = .ok (.aload_n 0, 1) := by decide +kernel
theorem dX0_countAt_9 : decode cX0_countAt 9 = .ok (.getfield 15, 3) := by decide +kernel
theorem dX0_countAt_12 : decode cX0_countAt 12 = .ok (.bipush 13, 2) := by decide +kernel
theorem dX0_countAt_14 : decode cX0_countAt 14 = .ok (.iload_n 1, 1) := by decide +kernel
theorem dX0_countAt_15 : decode cX0_countAt 15 = .ok (.imul, 1) := by decide +kernel
theorem dX0_countAt_16 : decode cX0_countAt 16 = .ok (.iload_n 2, 1) := by decide +kernel
theorem dX0_countAt_17 : decode cX0_countAt 17 = .ok (.iadd, 1) := by decide +kernel
theorem dX0_countAt_18 : decode cX0_countAt 18 = .ok (.iaload, 1) := by decide +kernel
theorem dX0_countAt_19 : decode cX0_countAt 19 = .ok (.goto 4, 3) := by decide +kernel
theorem dX0_countAt_22 : decode cX0_countAt 22 = .ok (.iconst 0, 1) := by decide +kernel
theorem dX0_countAt_23 : decode cX0_countAt 23 = .ok (.ireturn, 1) := by decide +kernel
theorem dX0_shareAt_0 : decode cX0_shareAt 0 = .ok (.iload_n 1, 1) := by decide +kernel
theorem dX0_shareAt_1 : decode cX0_shareAt 1 = .ok (.iload_n 2, 1) := by decide +kernel
theorem dX0_shareAt_2 : decode cX0_shareAt 2 = .ok (.invokestatic 56, 3) := by decide +kernel
theorem dX0_shareAt_5 : decode cX0_shareAt 5 = .ok (.ifCond .eq 17, 3) := by decide +kernel
theorem dX0_shareAt_8 : decode cX0_shareAt 8 = .ok (.aload_n 0, 1) := by decide +kernel
theorem dX0_shareAt_9 : decode cX0_shareAt 9 = .ok (.getfield 18, 3) := by decide +kernel
theorem dX0_shareAt_12 : decode cX0_shareAt 12 = .ok (.bipush 13, 2) := by decide +kernel
theorem dX0_shareAt_14 : decode cX0_shareAt 14 = .ok (.iload_n 1, 1) := by decide +kernel
theorem dX0_shareAt_15 : decode cX0_shareAt 15 = .ok (.imul, 1) := by decide +kernel
theorem dX0_shareAt_16 : decode cX0_shareAt 16 = .ok (.iload_n 2, 1) := by decide +kernel
theorem dX0_shareAt_17 : decode cX0_shareAt 17 = .ok (.iadd, 1) := by decide +kernel
theorem dX0_shareAt_18 : decode cX0_shareAt 18 = .ok (.laload, 1) := by decide +kernel
theorem dX0_shareAt_19 : decode cX0_shareAt 19 = .ok (.goto 4, 3) := by decide +kernel
theorem dX0_shareAt_22 : decode cX0_shareAt 22 = .ok (.lconst 0, 1) := by decide +kernel
theorem dX0_shareAt_23 : decode cX0_shareAt 23 = .ok (.lreturn, 1) := by decide +kernel
theorem dX0_rootsOfHeight_0 : decode cX0_rootsOfHeight 0 = .ok (.iconst 0, 1) := by decide +kernel
theorem dX0_rootsOfHeight_1 : decode cX0_rootsOfHeight 1 = .ok (.istore_n 2, 1) := by decide +kernel
theorem dX0_rootsOfHeight_2 : decode cX0_rootsOfHeight 2 = .ok (.iconst 0, 1) := by decide +kernel
theorem dX0_rootsOfHeight_3 : decode cX0_rootsOfHeight 3 = .ok (.istore_n 3, 1) := by decide +kernel
theorem dX0_rootsOfHeight_4 : decode cX0_rootsOfHeight 4 = .ok (.iload_n 3, 1) := by decide +kernel
theorem dX0_rootsOfHeight_5 : decode cX0_rootsOfHeight 5 = .ok (.iload_n 1, 1) := by decide +kernel
theorem dX0_rootsOfHeight_6 : decode cX0_rootsOfHeight 6 = .ok (.if_icmp .gt 38, 3) := by decide +kernel
theorem dX0_rootsOfHeight_9 : decode cX0_rootsOfHeight 9 = .ok (.iload_n 3, 1) := by decide +kernel
theorem dX0_rootsOfHeight_10 : decode cX0_rootsOfHeight 10 = .ok (.iload_n 1, 1) := by decide +kernel
theorem dX0_rootsOfHeight_11 : decode cX0_rootsOfHeight 11 = .ok (.iload_n 3, 1) := by decide +kernel
theorem dX0_rootsOfHeight_12 : decode cX0_rootsOfHeight 12 = .ok (.isub, 1) := by decide +kernel
theorem dX0_rootsOfHeight_13 : decode cX0_rootsOfHeight 13 = .ok (.invokestatic 56, 3) := by decide +kernel
theorem dX0_rootsOfHeight_16 : decode cX0_rootsOfHeight 16 = .ok (.ifCond .eq 22, 3) := by decide +kernel
theorem dX0_rootsOfHeight_19 : decode cX0_rootsOfHeight 19 = .ok (.aload_n 0, 1) := by decide +kernel
theorem dX0_rootsOfHeight_20 : decode cX0_rootsOfHeight 20 = .ok (.getfield 9, 3) := by decide +kernel
theorem dX0_rootsOfHeight_23 : decode cX0_rootsOfHeight 23 = .ok (.bipush 13, 2) := by decide +kernel
theorem dX0_rootsOfHeight_25 : decode cX0_rootsOfHeight 25 = .ok (.iload_n 3, 1) := by decide +kernel
theorem dX0_rootsOfHeight_26 : decode cX0_rootsOfHeight 26 = .ok (.imul, 1) := by decide +kernel
theorem dX0_rootsOfHeight_27 : decode cX0_rootsOfHeight 27 = .ok (.iload_n 1, 1) := by decide +kernel
theorem dX0_rootsOfHeight_28 : decode cX0_rootsOfHeight 28 = .ok (.iadd, 1) := by decide +kernel
theorem dX0_rootsOfHeight_29 : decode cX0_rootsOfHeight 29 = .ok (.iload_n 3, 1) := by decide +kernel
theorem dX0_rootsOfHeight_30 : decode cX0_rootsOfHeight 30 = .ok (.isub, 1) := by decide +kernel
theorem dX0_rootsOfHeight_31 : decode cX0_rootsOfHeight 31 = .ok (.iaload, 1) := by decide +kernel
theorem dX0_rootsOfHeight_32 : decode cX0_rootsOfHeight 32 = .ok (.ifCond .eq 6, 3) := by decide +kernel
theorem dX0_rootsOfHeight_35 : decode cX0_rootsOfHeight 35 = .ok (.iinc 2 1, 3) := by decide +kernel
theorem dX0_rootsOfHeight_38 : decode cX0_rootsOfHeight 38 = .ok (.iinc 3 1, 3) := by decide +kernel
theorem dX0_rootsOfHeight_41 : decode cX0_rootsOfHeight 41 = .ok (.goto (-37), 3) := by decide +kernel
theorem dX0_rootsOfHeight_44 : decode cX0_rootsOfHeight 44 = .ok (.iload_n 2, 1) := by decide +kernel
theorem dX0_rootsOfHeight_45 : decode cX0_rootsOfHeight 45 = .ok (.ireturn, 1) := by decide +kernel
theorem dX0_sumOfHeight_0 : decode cX0_sumOfHeight 0 = .ok (.iconst 0, 1) := by decide +kernel
theorem dX0_sumOfHeight_1 : decode cX0_sumOfHeight 1 = .ok (.istore_n 2, 1) := by decide +kernel
theorem dX0_sumOfHeight_2 : decode cX0_sumOfHeight 2 = .ok (.iconst 0, 1) := by decide +kernel
theorem dX0_sumOfHeight_3 : decode cX0_sumOfHeight 3 = .ok (.istore_n 3, 1) := by decide +kernel
theorem dX0_sumOfHeight_4 : decode cX0_sumOfHeight 4 = .ok (.iload_n 3, 1) := by decide +kernel
theorem dX0_sumOfHeight_5 : decode cX0_sumOfHeight 5 = .ok (.iload_n 1, 1) := by decide +kernel
theorem dX0_sumOfHeight_6 : decode cX0_sumOfHeight 6 = .ok (.if_icmp .gt 20, 3) := by decide +kernel
theorem dX0_sumOfHeight_9 : decode cX0_sumOfHeight 9 = .ok (.iload_n 2, 1) := by decide +kernel
theorem dX0_sumOfHeight_10 : decode cX0_sumOfHeight 10 = .ok (.aload_n 0, 1) := by decide +kernel
theorem dX0_sumOfHeight_11 : decode cX0_sumOfHeight 11 = .ok (.iload_n 3, 1) := by decide +kernel
theorem dX0_sumOfHeight_12 : decode cX0_sumOfHeight 12 = .ok (.iload_n 1, 1) := by decide +kernel
theorem dX0_sumOfHeight_13 : decode cX0_sumOfHeight 13 = .ok (.iload_n 3, 1) := by decide +kernel
theorem dX0_sumOfHeight_14 : decode cX0_sumOfHeight 14 = .ok (.isub, 1) := by decide +kernel
theorem dX0_sumOfHeight_15 : decode cX0_sumOfHeight 15 = .ok (.invokevirtual 52, 3) := by decide +kernel
theorem dX0_sumOfHeight_18 : decode cX0_sumOfHeight 18 = .ok (.iadd, 1) := by decide +kernel
theorem dX0_sumOfHeight_19 : decode cX0_sumOfHeight 19 = .ok (.istore_n 2, 1) := by decide +kernel
theorem dX0_sumOfHeight_20 : decode cX0_sumOfHeight 20 = .ok (.iinc 3 1, 3) := by decide +kernel
theorem dX0_sumOfHeight_23 : decode cX0_sumOfHeight 23 = .ok (.goto (-19), 3) := by decide +kernel
theorem dX0_sumOfHeight_26 : decode cX0_sumOfHeight 26 = .ok (.iload_n 2, 1) := by decide +kernel
theorem dX0_sumOfHeight_27 : decode cX0_sumOfHeight 27 = .ok (.ireturn, 1) := by decide +kernel
theorem dX1_init_0 : decode cX1_init 0 = .ok (.aload_n 0, 1) := by decide +kernel
theorem dX1_init_1 : decode cX1_init 1 = .ok (.invokespecial 3, 3) := by decide +kernel
theorem dX1_init_4 : decode cX1_init 4 = .ok (.aload_n 0, 1) := by decide +kernel
theorem dX1_init_5 : decode cX1_init 5 = .ok (.sipush 169, 3) := by decide +kernel
theorem dX1_init_8 : decode cX1_init 8 = .ok (.newarray .long, 2) := by decide +kernel
theorem dX1_init_10 : decode cX1_init 10 = .ok (.putfield 9, 3) := by decide +kernel
theorem dX1_init_13 : decode cX1_init 13 = .ok (.aload_n 0, 1) := by decide +kernel
theorem dX1_init_14 : decode cX1_init 14 = .ok (.iconst 0, 1) := by decide +kernel
theorem dX1_init_15 : decode cX1_init 15 = .ok (.putfield 15, 3) := by decide +kernel
theorem dX1_init_18 : decode cX1_init 18 = .ok (.aload_n 0, 1) := by decide +kernel
theorem dX1_init_19 : decode cX1_init 19 = .ok (.iconst 0, 1) := by decide +kernel
theorem dX1_init_20 : decode cX1_init 20 = .ok (.putfield 19, 3) := by decide +kernel
theorem dX1_init_23 : decode cX1_init 23 = .ok (.return_, 1) := by decide +kernel
theorem dX1_fillFrom_0 : decode cX1_fillFrom 0 = .ok (.aload_n 0, 1) := by decide +kernel
theorem dX1_fillFrom_1 : decode cX1_fillFrom 1 = .ok (.getfield 15, 3) := by decide +kernel
theorem dX1_fillFrom_4 : decode cX1_fillFrom 4 = .ok (.aload_n 1, 1) := by decide +kernel
theorem dX1_fillFrom_5 : decode cX1_fillFrom 5 = .ok (.getfield 22, 3) := by decide +kernel
theorem dX1_fillFrom_8 : decode cX1_fillFrom 8 = .ok (.if_icmp .ne 15, 3) := by decide +kernel
theorem dX1_fillFrom_11 : decode cX1_fillFrom 11 = .ok (.aload_n 0, 1) := by decide +kernel
theorem dX1_fillFrom_12 : decode cX1_fillFrom 12 = .ok (.getfield 19, 3) := by decide +kernel
theorem dX1_fillFrom_15 : decode cX1_fillFrom 15 = .ok (.aload_n 1, 1) := by decide +kernel
theorem dX1_fillFrom_16 : decode cX1_fillFrom 16 = .ok (.getfield 25, 3) := by decide +kernel
theorem dX1_fillFrom_19 : decode cX1_fillFrom 19 = .ok (.if_icmp .ne 4, 3) := by decide +kernel
theorem dX1_fillFrom_22 : decode cX1_fillFrom 22 = .ok (.return_, 1) := by decide +kernel
theorem dX1_fillFrom_23 : decode cX1_fillFrom 23 = .ok (.aload_n 0, 1) := by decide +kernel
theorem dX1_fillFrom_24 : decode cX1_fillFrom 24 = .ok (.aload_n 1, 1) := by decide +kernel
theorem dX1_fillFrom_25 : decode cX1_fillFrom 25 = .ok (.getfield 22, 3) := by decide +kernel
theorem dX1_fillFrom_28 : decode cX1_fillFrom 28 = .ok (.putfield 15, 3) := by decide +kernel
theorem dX1_fillFrom_31 : decode cX1_fillFrom 31 = .ok (.aload_n 0, 1) := by decide +kernel
theorem dX1_fillFrom_32 : decode cX1_fillFrom 32 = .ok (.aload_n 1, 1) := by decide +kernel
theorem dX1_fillFrom_33 : decode cX1_fillFrom 33 = .ok (.getfield 25, 3) := by decide +kernel
theorem dX1_fillFrom_36 : decode cX1_fillFrom 36 = .ok (.putfield 19, 3) := by decide +kernel
theorem dX1_fillFrom_39 : decode cX1_fillFrom 39 = .ok (.iconst 0, 1) := by decide +kernel
theorem dX1_fillFrom_40 : decode cX1_fillFrom 40 = .ok (.istore_n 2, 1) := by decide +kernel
theorem dX1_fillFrom_41 : decode cX1_fillFrom 41 = .ok (.iload_n 2, 1) := by decide +kernel
theorem dX1_fillFrom_42 : decode cX1_fillFrom 42 = .ok (.aload_n 0, 1) := by decide +kernel
theorem dX1_fillFrom_43 : decode cX1_fillFrom 43 = .ok (.getfield 9, 3) := by decide +kernel
theorem dX1_fillFrom_46 : decode cX1_fillFrom 46 = .ok (.arraylength, 1) := by decide +kernel
theorem dX1_fillFrom_47 : decode cX1_fillFrom 47 = .ok (.if_icmp .ge 16, 3) := by decide +kernel
theorem dX1_fillFrom_50 : decode cX1_fillFrom 50 = .ok (.aload_n 0, 1) := by decide +kernel
theorem dX1_fillFrom_51 : decode cX1_fillFrom 51 = .ok (.getfield 9, 3) := by decide +kernel
theorem dX1_fillFrom_54 : decode cX1_fillFrom 54 = .ok (.iload_n 2, 1) := by decide +kernel
theorem dX1_fillFrom_55 : decode cX1_fillFrom 55 = .ok (.lconst 0, 1) := by decide +kernel
theorem dX1_fillFrom_56 : decode cX1_fillFrom 56 = .ok (.lastore, 1) := by decide +kernel
theorem dX1_fillFrom_57 : decode cX1_fillFrom 57 = .ok (.iinc 2 1, 3) := by decide +kernel
theorem dX1_fillFrom_60 : decode cX1_fillFrom 60 = .ok (.goto (-19), 3) := by decide +kernel
theorem dX1_fillFrom_63 : decode cX1_fillFrom 63 = .ok (.aload_n 0, 1) := by decide +kernel
theorem dX1_fillFrom_64 : decode cX1_fillFrom 64 = .ok (.getfield 9, 3) := by decide +kernel
theorem dX1_fillFrom_67 : decode cX1_fillFrom 67 = .ok (.iconst 0, 1) := by decide +kernel
theorem dX1_fillFrom_68 : decode cX1_fillFrom 68 = .ok (.lconst 1, 1) := by decide +kernel
theorem dX1_fillFrom_69 : decode cX1_fillFrom 69 = .ok (.lastore, 1) := by decide +kernel
theorem dX1_fillFrom_70 : decode cX1_fillFrom 70 = .ok (.iconst 1, 1) := by decide +kernel
theorem dX1_fillFrom_71 : decode cX1_fillFrom 71 = .ok (.istore_n 2, 1) := by decide +kernel
theorem dX1_fillFrom_72 : decode cX1_fillFrom 72 = .ok (.iload_n 2, 1) := by decide +kernel
theorem dX1_fillFrom_73 : decode cX1_fillFrom 73 = .ok (.bipush 12, 2) := by decide +kernel
theorem dX1_fillFrom_75 : decode cX1_fillFrom 75 = .ok (.if_icmp .gt 38, 3) := by decide +kernel
theorem dX1_fillFrom_78 : decode cX1_fillFrom 78 = .ok (.iconst 0, 1) := by decide +kernel
theorem dX1_fillFrom_79 : decode cX1_fillFrom 79 = .ok (.istore_n 3, 1) := by decide +kernel
theorem dX1_fillFrom_80 : decode cX1_fillFrom 80 = .ok (.iload_n 3, 1) := by decide +kernel
theorem dX1_fillFrom_81 : decode cX1_fillFrom 81 = .ok (.iload_n 2, 1) := by decide +kernel
theorem dX1_fillFrom_82 : decode cX1_fillFrom 82 = .ok (.if_icmp .gt 25, 3) := by decide +kernel
theorem dX1_fillFrom_85 : decode cX1_fillFrom 85 = .ok (.aload_n 0, 1) := by decide +kernel
theorem dX1_fillFrom_86 : decode cX1_fillFrom 86 = .ok (.iload_n 3, 1) := by decide +kernel
theorem dX1_fillFrom_87 : decode cX1_fillFrom 87 = .ok (.iload_n 2, 1) := by decide +kernel
theorem dX1_fillFrom_88 : decode cX1_fillFrom 88 = .ok (.iload_n 3, 1) := by decide +kernel
theorem dX1_fillFrom_89 : decode cX1_fillFrom 89 = .ok (.isub, 1) := by decide +kernel
theorem dX1_fillFrom_90 : decode cX1_fillFrom 90 = .ok (.aload_n 1, 1) := by decide +kernel
theorem dX1_fillFrom_91 : decode cX1_fillFrom 91 = .ok (.iload_n 3, 1) := by decide +kernel
theorem dX1_fillFrom_92 : decode cX1_fillFrom 92 = .ok (.iload_n 2, 1) := by decide +kernel
theorem dX1_fillFrom_93 : decode cX1_fillFrom 93 = .ok (.iload_n 3, 1) := by decide +kernel
theorem dX1_fillFrom_94 : decode cX1_fillFrom 94 = .ok (.isub, 1) := by decide +kernel
theorem dX1_fillFrom_95 : decode cX1_fillFrom 95 = .ok (.invokevirtual 26, 3) := by decide +kernel
theorem dX1_fillFrom_98 : decode cX1_fillFrom 98 = .ok (.invokevirtual 30, 3) := by decide +kernel
theorem dX1_fillFrom_101 : decode cX1_fillFrom 101 = .ok (.iinc 3 1, 3) := by decide +kernel
theorem dX1_fillFrom_104 : decode cX1_fillFrom 104 = .ok (.goto (-24), 3) := by decide +kernel
theorem dX1_fillFrom_107 : decode cX1_fillFrom 107 = .ok (.iinc 2 1, 3) := by decide +kernel
theorem dX1_fillFrom_110 : decode cX1_fillFrom 110 = .ok (.goto (-38), 3) := by decide +kernel
theorem dX1_fillFrom_113 : decode cX1_fillFrom 113 = .ok (.return_, 1) := by decide +kernel
theorem dX1_multiply_0 : decode cX1_multiply 0 = .ok (.iload_n 3, 1) := by decide +kernel
theorem dX1_multiply_1 : decode cX1_multiply 1 = .ok (.ifCond .gt 4, 3) := by decide +kernel
theorem dX1_multiply_4 : decode cX1_multiply 4 = .ok (.return_, 1) := by decide +kernel
theorem dX1_multiply_5 : decode cX1_multiply 5 = .ok (.bipush 12, 2) := by decide +kernel
theorem dX1_multiply_7 : decode cX1_multiply 7 = .ok (.istore 4, 2) := by decide +kernel
theorem dX1_multiply_9 : decode cX1_multiply 9 = .ok (.iload 4, 2) := by decide +kernel
theorem dX1_multiply_11 : decode cX1_multiply 11 = .ok (.iload_n 1, 1) := by decide +kernel
theorem dX1_multiply_12 : decode cX1_multiply 12 = .ok (.iload_n 2, 1) := by decide +kernel
theorem dX1_multiply_13 : decode cX1_multiply 13 = .ok (.iadd, 1) := by decide +kernel
theorem dX1_multiply_14 : decode cX1_multiply 14 = .ok (.if_icmp .lt 60, 3) := by decide +kernel
theorem dX1_multiply_17 : decode cX1_multiply 17 = .ok (.iload_n 1, 1) := by decide +kernel
theorem dX1_multiply_18 : decode cX1_multiply 18 = .ok (.istore 5, 2) := by decide +kernel
theorem dX1_multiply_20 : decode cX1_multiply 20 = .ok (.iload 5, 2) := by decide +kernel
theorem dX1_multiply_22 : decode cX1_multiply 22 = .ok (.iload 4, 2) := by decide +kernel
theorem dX1_multiply_24 : decode cX1_multiply 24 = .ok (.iload_n 2, 1) := by decide +kernel
theorem dX1_multiply_25 : decode cX1_multiply 25 = .ok (.isub, 1) := by decide +kernel
theorem dX1_multiply_26 : decode cX1_multiply 26 = .ok (.if_icmp .gt 42, 3) := by decide +kernel
theorem dX1_multiply_29 : decode cX1_multiply 29 = .ok (.aload_n 0, 1) := by decide +kernel
theorem dX1_multiply_30 : decode cX1_multiply 30 = .ok (.getfield 9, 3) := by decide +kernel
theorem dX1_multiply_33 : decode cX1_multiply 33 = .ok (.bipush 13, 2) := by decide +kernel
theorem dX1_multiply_35 : decode cX1_multiply 35 = .ok (.iload 5, 2) := by decide +kernel
theorem dX1_multiply_37 : decode cX1_multiply 37 = .ok (.imul, 1) := by decide +kernel
theorem dX1_multiply_38 : decode cX1_multiply 38 = .ok (.iload 4, 2) := by decide +kernel
theorem dX1_multiply_40 : decode cX1_multiply 40 = .ok (.iadd, 1) := by decide +kernel
theorem dX1_multiply_41 : decode cX1_multiply 41 = .ok (.iload 5, 2) := by decide +kernel
theorem dX1_multiply_43 : decode cX1_multiply 43 = .ok (.isub, 1) := by decide +kernel
theorem dX1_multiply_44 : decode cX1_multiply 44 = .ok (.dup2, 1) := by decide +kernel
theorem dX1_multiply_45 : decode cX1_multiply 45 = .ok (.laload, 1) := by decide +kernel
theorem dX1_multiply_46 : decode cX1_multiply 46 = .ok (.aload_n 0, 1) := by decide +kernel
theorem dX1_multiply_47 : decode cX1_multiply 47 = .ok (.iload 5, 2) := by decide +kernel
theorem dX1_multiply_49 : decode cX1_multiply 49 = .ok (.iload 4, 2) := by decide +kernel
theorem dX1_multiply_51 : decode cX1_multiply 51 = .ok (.iload 5, 2) := by decide +kernel
theorem dX1_multiply_53 : decode cX1_multiply 53 = .ok (.isub, 1) := by decide +kernel
theorem dX1_multiply_54 : decode cX1_multiply 54 = .ok (.iload_n 1, 1) := by decide +kernel
theorem dX1_multiply_55 : decode cX1_multiply 55 = .ok (.iload_n 2, 1) := by decide +kernel
theorem dX1_multiply_56 : decode cX1_multiply 56 = .ok (.iload_n 3, 1) := by decide +kernel
theorem dX1_multiply_57 : decode cX1_multiply 57 = .ok (.invokevirtual 34, 3) := by decide +kernel
theorem dX1_multiply_60 : decode cX1_multiply 60 = .ok (.ladd, 1) := by decide +kernel
theorem dX1_multiply_61 : decode cX1_multiply 61 = .ok (.lastore, 1) := by decide +kernel
theorem dX1_multiply_62 : decode cX1_multiply 62 = .ok (.iinc 5 1, 3) := by decide +kernel
theorem dX1_multiply_65 : decode cX1_multiply 65 = .ok (.goto (-45), 3) := by decide +kernel
theorem dX1_multiply_68 : decode cX1_multiply 68 = .ok (.iinc 4 (-1), 3) := by decide +kernel
theorem dX1_multiply_71 : decode cX1_multiply 71 = .ok (.goto (-62), 3) := by decide +kernel
theorem dX1_multiply_74 : decode cX1_multiply 74 = .ok (.return_, 1) := by decide +kernel
theorem dX1_fromBelow_0 : decode cX1_fromBelow 0 = .ok (.lconst 0, 1) := by decide +kernel
theorem dX1_fromBelow_1 : decode cX1_fromBelow 1 = .ok (.lstore 6, 2) := by decide +kernel
theorem dX1_fromBelow_3 : decode cX1_fromBelow 3 = .ok (.lconst 1, 1) := by decide +kernel
theorem dX1_fromBelow_4 : decode cX1_fromBelow 4 = .ok (.lstore 8, 2) := by decide +kernel
theorem dX1_fromBelow_6 : decode cX1_fromBelow 6 = .ok (.iconst 1, 1) := by decide +kernel
theorem dX1_fromBelow_7 : decode cX1_fromBelow 7 = .ok (.istore 10, 2) := by decide +kernel
theorem dX1_fromBelow_9 : decode cX1_fromBelow 9 = .ok (.iload 10, 2) := by decide +kernel
theorem dX1_fromBelow_11 : decode cX1_fromBelow 11 = .ok (.bipush 12, 2) := by decide +kernel
theorem dX1_fromBelow_13 : decode cX1_fromBelow 13 = .ok (.if_icmp .gt 69, 3) := by decide +kernel
theorem dX1_fromBelow_16 : decode cX1_fromBelow 16 = .ok (.iload_n 1, 1) := by decide +kernel
theorem dX1_fromBelow_17 : decode cX1_fromBelow 17 = .ok (.iload 10, 2) := by decide +kernel
theorem dX1_fromBelow_19 : decode cX1_fromBelow 19 = .ok (.iload_n 3, 1) := by decide +kernel
theorem dX1_fromBelow_20 : decode cX1_fromBelow 20 = .ok (.imul, 1) := by decide +kernel
theorem dX1_fromBelow_21 : decode cX1_fromBelow 21 = .ok (.if_icmp .lt 61, 3) := by decide +kernel
theorem dX1_fromBelow_24 : decode cX1_fromBelow 24 = .ok (.iload_n 2, 1) := by decide +kernel
theorem dX1_fromBelow_25 : decode cX1_fromBelow 25 = .ok (.iload 10, 2) := by decide +kernel
theorem dX1_fromBelow_27 : decode cX1_fromBelow 27 = .ok (.iload 4, 2) := by decide +kernel
theorem dX1_fromBelow_29 : decode cX1_fromBelow 29 = .ok (.imul, 1) := by decide +kernel
theorem dX1_fromBelow_30 : decode cX1_fromBelow 30 = .ok (.if_icmp .lt 52, 3) := by decide +kernel
theorem dX1_fromBelow_33 : decode cX1_fromBelow 33 = .ok (.lload 8, 2) := by decide +kernel
theorem dX1_fromBelow_35 : decode cX1_fromBelow 35 = .ok (.lneg, 1) := by decide +kernel
theorem dX1_fromBelow_36 : decode cX1_fromBelow 36 = .ok (.iload 5, 2) := by decide +kernel
theorem dX1_fromBelow_38 : decode cX1_fromBelow 38 = .ok (.iload 10, 2) := by decide +kernel
theorem dX1_fromBelow_40 : decode cX1_fromBelow 40 = .ok (.isub, 1) := by decide +kernel
theorem dX1_fromBelow_41 : decode cX1_fromBelow 41 = .ok (.iconst 1, 1) := by decide +kernel
theorem dX1_fromBelow_42 : decode cX1_fromBelow 42 = .ok (.iadd, 1) := by decide +kernel
theorem dX1_fromBelow_43 : decode cX1_fromBelow 43 = .ok (.i2l, 1) := by decide +kernel
theorem dX1_fromBelow_44 : decode cX1_fromBelow 44 = .ok (.lmul, 1) := by decide +kernel
theorem dX1_fromBelow_45 : decode cX1_fromBelow 45 = .ok (.iload 10, 2) := by decide +kernel
theorem dX1_fromBelow_47 : decode cX1_fromBelow 47 = .ok (.i2l, 1) := by decide +kernel
theorem dX1_fromBelow_48 : decode cX1_fromBelow 48 = .ok (.ldiv, 1) := by decide +kernel
theorem dX1_fromBelow_49 : decode cX1_fromBelow 49 = .ok (.lstore 8, 2) := by decide +kernel
theorem dX1_fromBelow_51 : decode cX1_fromBelow 51 = .ok (.lload 6, 2) := by decide +kernel
theorem dX1_fromBelow_53 : decode cX1_fromBelow 53 = .ok (.lload 8, 2) := by decide +kernel
theorem dX1_fromBelow_55 : decode cX1_fromBelow 55 = .ok (.aload_n 0, 1) := by decide +kernel
theorem dX1_fromBelow_56 : decode cX1_fromBelow 56 = .ok (.iload_n 1, 1) := by decide +kernel
theorem dX1_fromBelow_57 : decode cX1_fromBelow 57 = .ok (.iload 10, 2) := by decide +kernel
theorem dX1_fromBelow_59 : decode cX1_fromBelow 59 = .ok (.iload_n 3, 1) := by decide +kernel
theorem dX1_fromBelow_60 : decode cX1_fromBelow 60 = .ok (.imul, 1) := by decide +kernel
theorem dX1_fromBelow_61 : decode cX1_fromBelow 61 = .ok (.isub, 1) := by decide +kernel
theorem dX1_fromBelow_62 : decode cX1_fromBelow 62 = .ok (.iload_n 2, 1) := by decide +kernel
theorem dX1_fromBelow_63 : decode cX1_fromBelow 63 = .ok (.iload 10, 2) := by decide +kernel
theorem dX1_fromBelow_65 : decode cX1_fromBelow 65 = .ok (.iload 4, 2) := by decide +kernel
theorem dX1_fromBelow_67 : decode cX1_fromBelow 67 = .ok (.imul, 1) := by decide +kernel
theorem dX1_fromBelow_68 : decode cX1_fromBelow 68 = .ok (.isub, 1) := by decide +kernel
theorem dX1_fromBelow_69 : decode cX1_fromBelow 69 = .ok (.invokevirtual 38, 3) := by decide +kernel
theorem dX1_fromBelow_72 : decode cX1_fromBelow 72 = .ok (.lmul, 1) := by decide +kernel
theorem dX1_fromBelow_73 : decode cX1_fromBelow 73 = .ok (.ladd, 1) := by decide +kernel
theorem dX1_fromBelow_74 : decode cX1_fromBelow 74 = .ok (.lstore 6, 2) := by decide +kernel
theorem dX1_fromBelow_76 : decode cX1_fromBelow 76 = .ok (.iinc 10 1, 3) := by decide +kernel
theorem dX1_fromBelow_79 : decode cX1_fromBelow 79 = .ok (.goto (-70), 3) := by decide +kernel
theorem dX1_fromBelow_82 : decode cX1_fromBelow 82 = .ok (.lload 6, 2) := by decide +kernel
theorem dX1_fromBelow_84 : decode cX1_fromBelow 84 = .ok (.lreturn, 1) := by decide +kernel
theorem dX1_coefficientAt_0 : decode cX1_coefficientAt 0 = .ok (.iload_n 1, 1) := by decide +kernel
theorem dX1_coefficientAt_1 : decode cX1_coefficientAt 1 = .ok (.iload_n 2, 1) := by decide +kernel
theorem dX1_coefficientAt_2 : decode cX1_coefficientAt 2 = .ok (.invokestatic 42, 3) := by decide +kernel
theorem dX1_coefficientAt_5 : decode cX1_coefficientAt 5 = .ok (.ifCond .eq 17, 3) := by decide +kernel
theorem dX1_coefficientAt_8 : decode cX1_coefficientAt 8 = .ok (.aload_n 0, 1) := by decide +kernel
theorem dX1_coefficientAt_9 : decode cX1_coefficientAt 9 = .ok (.getfield 9, 3) := by decide +kernel
theorem dX1_coefficientAt_12 : decode cX1_coefficientAt 12 = .ok (.bipush 13, 2) := by decide +kernel
theorem dX1_coefficientAt_14 : decode cX1_coefficientAt 14 = .ok (.iload_n 1, 1) := by decide +kernel
theorem dX1_coefficientAt_15 : decode cX1_coefficientAt 15 = .ok (.imul, 1) := by decide +kernel
theorem dX1_coefficientAt_16 : decode cX1_coefficientAt 16 = .ok (.iload_n 2, 1) := by decide +kernel
theorem dX1_coefficientAt_17 : decode cX1_coefficientAt 17 = .ok (.iadd, 1) := by decide +kernel
theorem dX1_coefficientAt_18 : decode cX1_coefficientAt 18 = .ok (.laload, 1) := by decide +kernel
theorem dX1_coefficientAt_19 : decode cX1_coefficientAt 19 = .ok (.goto 4, 3) := by decide +kernel
theorem dX1_coefficientAt_22 : decode cX1_coefficientAt 22 = .ok (.lconst 0, 1) := by decide +kernel
theorem dX1_coefficientAt_23 : decode cX1_coefficientAt 23 = .ok (.lreturn, 1) := by decide +kernel
theorem dX2_init_0 : decode cX2_init 0 = .ok (.aload_n 0, 1) := by decide +kernel
theorem dX2_init_1 : decode cX2_init 1 = .ok (.invokespecial 1, 3) := by decide +kernel
theorem dX2_init_4 : decode cX2_init 4 = .ok (.aload_n 0, 1) := by decide +kernel
theorem dX2_init_5 : decode cX2_init 5 = .ok (.iconst 2, 1) := by decide +kernel
theorem dX2_init_6 : decode cX2_init 6 = .ok (.putfield 7, 3) := by decide +kernel
theorem dX2_init_9 : decode cX2_init 9 = .ok (.aload_n 0, 1) := by decide +kernel
theorem dX2_init_10 : decode cX2_init 10 = .ok (.iconst 2, 1) := by decide +kernel
theorem dX2_init_11 : decode cX2_init 11 = .ok (.putfield 13, 3) := by decide +kernel
theorem dX2_init_14 : decode cX2_init 14 = .ok (.aload_n 0, 1) := by decide +kernel
theorem dX2_init_15 : decode cX2_init 15 = .ok (.iconst 1, 1) := by decide +kernel
theorem dX2_init_16 : decode cX2_init 16 = .ok (.putfield 16, 3) := by decide +kernel
theorem dX2_init_19 : decode cX2_init 19 = .ok (.aload_n 0, 1) := by decide +kernel
theorem dX2_init_20 : decode cX2_init 20 = .ok (.iconst 0, 1) := by decide +kernel
theorem dX2_init_21 : decode cX2_init 21 = .ok (.putfield 19, 3) := by decide +kernel
theorem dX2_init_24 : decode cX2_init 24 = .ok (.return_, 1) := by decide +kernel
theorem dX2_carryBy_0 : decode cX2_carryBy 0 = .ok (.iload_n 1, 1) := by decide +kernel
theorem dX2_carryBy_1 : decode cX2_carryBy 1 = .ok (.ifCond .ne 20, 3) := by decide +kernel
theorem dX2_carryBy_4 : decode cX2_carryBy 4 = .ok (.aload_n 0, 1) := by decide +kernel
theorem dX2_carryBy_5 : decode cX2_carryBy 5 = .ok (.getfield 7, 3) := by decide +kernel
theorem dX2_carryBy_8 : decode cX2_carryBy 8 = .ok (.aload_n 0, 1) := by decide +kernel
theorem dX2_carryBy_9 : decode cX2_carryBy 9 = .ok (.getfield 19, 3) := by decide +kernel
theorem dX2_carryBy_12 : decode cX2_carryBy 12 = .ok (.imul, 1) := by decide +kernel
theorem dX2_carryBy_13 : decode cX2_carryBy 13 = .ok (.aload_n 0, 1) := by decide +kernel
theorem dX2_carryBy_14 : decode cX2_carryBy 14 = .ok (.getfield 16, 3) := by decide +kernel
theorem dX2_carryBy_17 : decode cX2_carryBy 17 = .ok (.isub, 1) := by decide +kernel
theorem dX2_carryBy_18 : decode cX2_carryBy 18 = .ok (.goto 7, 3) := by decide +kernel
theorem dX2_carryBy_21 : decode cX2_carryBy 21 = .ok (.aload_n 0, 1) := by decide +kernel
theorem dX2_carryBy_22 : decode cX2_carryBy 22 = .ok (.getfield 16, 3) := by decide +kernel
theorem dX2_carryBy_25 : decode cX2_carryBy 25 = .ok (.istore_n 2, 1) := by decide +kernel
theorem dX2_carryBy_26 : decode cX2_carryBy 26 = .ok (.iload_n 1, 1) := by decide +kernel
theorem dX2_carryBy_27 : decode cX2_carryBy 27 = .ok (.ifCond .ne 10, 3) := by decide +kernel
theorem dX2_carryBy_30 : decode cX2_carryBy 30 = .ok (.aload_n 0, 1) := by decide +kernel
theorem dX2_carryBy_31 : decode cX2_carryBy 31 = .ok (.getfield 19, 3) := by decide +kernel
theorem dX2_carryBy_34 : decode cX2_carryBy 34 = .ok (.goto 17, 3) := by decide +kernel
theorem dX2_carryBy_37 : decode cX2_carryBy 37 = .ok (.aload_n 0, 1) := by decide +kernel
theorem dX2_carryBy_38 : decode cX2_carryBy 38 = .ok (.getfield 13, 3) := by decide +kernel
theorem dX2_carryBy_41 : decode cX2_carryBy 41 = .ok (.aload_n 0, 1) := by decide +kernel
theorem dX2_carryBy_42 : decode cX2_carryBy 42 = .ok (.getfield 16, 3) := by decide +kernel
theorem dX2_carryBy_45 : decode cX2_carryBy 45 = .ok (.imul, 1) := by decide +kernel
theorem dX2_carryBy_46 : decode cX2_carryBy 46 = .ok (.aload_n 0, 1) := by decide +kernel
theorem dX2_carryBy_47 : decode cX2_carryBy 47 = .ok (.getfield 19, 3) := by decide +kernel
theorem dX2_carryBy_50 : decode cX2_carryBy 50 = .ok (.isub, 1) := by decide +kernel
theorem dX2_carryBy_51 : decode cX2_carryBy 51 = .ok (.istore_n 3, 1) := by decide +kernel
theorem dX2_carryBy_52 : decode cX2_carryBy 52 = .ok (.iload_n 2, 1) := by decide +kernel
theorem dX2_carryBy_53 : decode cX2_carryBy 53 = .ok (.iload_n 3, 1) := by decide +kernel
theorem dX2_carryBy_54 : decode cX2_carryBy 54 = .ok (.invokestatic 22, 3) := by decide +kernel
theorem dX2_carryBy_57 : decode cX2_carryBy 57 = .ok (.ifCond .ne 5, 3) := by decide +kernel
theorem dX2_carryBy_60 : decode cX2_carryBy 60 = .ok (.iconst 0, 1) := by decide +kernel
theorem dX2_carryBy_61 : decode cX2_carryBy 61 = .ok (.ireturn, 1) := by decide +kernel
theorem dX2_carryBy_62 : decode cX2_carryBy 62 = .ok (.aload_n 0, 1) := by decide +kernel
theorem dX2_carryBy_63 : decode cX2_carryBy 63 = .ok (.iload_n 2, 1) := by decide +kernel
theorem dX2_carryBy_64 : decode cX2_carryBy 64 = .ok (.putfield 16, 3) := by decide +kernel
theorem dX2_carryBy_67 : decode cX2_carryBy 67 = .ok (.aload_n 0, 1) := by decide +kernel
theorem dX2_carryBy_68 : decode cX2_carryBy 68 = .ok (.iload_n 3, 1) := by decide +kernel
theorem dX2_carryBy_69 : decode cX2_carryBy 69 = .ok (.putfield 19, 3) := by decide +kernel
theorem dX2_carryBy_72 : decode cX2_carryBy 72 = .ok (.iconst 1, 1) := by decide +kernel
theorem dX2_carryBy_73 : decode cX2_carryBy 73 = .ok (.ireturn, 1) := by decide +kernel
theorem dX2_swap_0 : decode cX2_swap 0 = .ok (.aload_n 0, 1) := by decide +kernel
theorem dX2_swap_1 : decode cX2_swap 1 = .ok (.getfield 7, 3) := by decide +kernel
theorem dX2_swap_4 : decode cX2_swap 4 = .ok (.istore_n 1, 1) := by decide +kernel
theorem dX2_swap_5 : decode cX2_swap 5 = .ok (.aload_n 0, 1) := by decide +kernel
theorem dX2_swap_6 : decode cX2_swap 6 = .ok (.aload_n 0, 1) := by decide +kernel
theorem dX2_swap_7 : decode cX2_swap 7 = .ok (.getfield 13, 3) := by decide +kernel
theorem dX2_swap_10 : decode cX2_swap 10 = .ok (.putfield 7, 3) := by decide +kernel
theorem dX2_swap_13 : decode cX2_swap 13 = .ok (.aload_n 0, 1) := by decide +kernel
theorem dX2_swap_14 : decode cX2_swap 14 = .ok (.iload_n 1, 1) := by decide +kernel
theorem dX2_swap_15 : decode cX2_swap 15 = .ok (.putfield 13, 3) := by decide +kernel
theorem dX2_swap_18 : decode cX2_swap 18 = .ok (.aload_n 0, 1) := by decide +kernel
theorem dX2_swap_19 : decode cX2_swap 19 = .ok (.getfield 16, 3) := by decide +kernel
theorem dX2_swap_22 : decode cX2_swap 22 = .ok (.istore_n 2, 1) := by decide +kernel
theorem dX2_swap_23 : decode cX2_swap 23 = .ok (.aload_n 0, 1) := by decide +kernel
theorem dX2_swap_24 : decode cX2_swap 24 = .ok (.aload_n 0, 1) := by decide +kernel
theorem dX2_swap_25 : decode cX2_swap 25 = .ok (.getfield 19, 3) := by decide +kernel
theorem dX2_swap_28 : decode cX2_swap 28 = .ok (.putfield 16, 3) := by decide +kernel
theorem dX2_swap_31 : decode cX2_swap 31 = .ok (.aload_n 0, 1) := by decide +kernel
theorem dX2_swap_32 : decode cX2_swap 32 = .ok (.iload_n 2, 1) := by decide +kernel
theorem dX2_swap_33 : decode cX2_swap 33 = .ok (.putfield 19, 3) := by decide +kernel
theorem dX2_swap_36 : decode cX2_swap 36 = .ok (.return_, 1) := by decide +kernel
theorem dX2_copyFrom_0 : decode cX2_copyFrom 0 = .ok (.aload_n 0, 1) := by decide +kernel
theorem dX2_copyFrom_1 : decode cX2_copyFrom 1 = .ok (.aload_n 1, 1) := by decide +kernel
theorem dX2_copyFrom_2 : decode cX2_copyFrom 2 = .ok (.getfield 7, 3) := by decide +kernel
theorem dX2_copyFrom_5 : decode cX2_copyFrom 5 = .ok (.putfield 7, 3) := by decide +kernel
theorem dX2_copyFrom_8 : decode cX2_copyFrom 8 = .ok (.aload_n 0, 1) := by decide +kernel
theorem dX2_copyFrom_9 : decode cX2_copyFrom 9 = .ok (.aload_n 1, 1) := by decide +kernel
theorem dX2_copyFrom_10 : decode cX2_copyFrom 10 = .ok (.getfield 13, 3) := by decide +kernel
theorem dX2_copyFrom_13 : decode cX2_copyFrom 13 = .ok (.putfield 13, 3) := by decide +kernel
theorem dX2_copyFrom_16 : decode cX2_copyFrom 16 = .ok (.aload_n 0, 1) := by decide +kernel
theorem dX2_copyFrom_17 : decode cX2_copyFrom 17 = .ok (.aload_n 1, 1) := by decide +kernel
theorem dX2_copyFrom_18 : decode cX2_copyFrom 18 = .ok (.getfield 16, 3) := by decide +kernel
theorem dX2_copyFrom_21 : decode cX2_copyFrom 21 = .ok (.putfield 16, 3) := by decide +kernel
theorem dX2_copyFrom_24 : decode cX2_copyFrom 24 = .ok (.aload_n 0, 1) := by decide +kernel
theorem dX2_copyFrom_25 : decode cX2_copyFrom 25 = .ok (.aload_n 1, 1) := by decide +kernel
theorem dX2_copyFrom_26 : decode cX2_copyFrom 26 = .ok (.getfield 19, 3) := by decide +kernel
theorem dX2_copyFrom_29 : decode cX2_copyFrom 29 = .ok (.putfield 19, 3) := by decide +kernel
theorem dX2_copyFrom_32 : decode cX2_copyFrom 32 = .ok (.return_, 1) := by decide +kernel
theorem dX3_init_0 : decode cX3_init 0 = .ok (.aload_n 0, 1) := by decide +kernel
theorem dX3_init_1 : decode cX3_init 1 = .ok (.invokespecial 3, 3) := by decide +kernel
theorem dX3_init_4 : decode cX3_init 4 = .ok (.aload_n 0, 1) := by decide +kernel
theorem dX3_init_5 : decode cX3_init 5 = .ok (.iconst 0, 1) := by decide +kernel
theorem dX3_init_6 : decode cX3_init 6 = .ok (.putfield 9, 3) := by decide +kernel
theorem dX3_init_9 : decode cX3_init 9 = .ok (.aload_n 0, 1) := by decide +kernel
theorem dX3_init_10 : decode cX3_init 10 = .ok (.iconst 0, 1) := by decide +kernel
theorem dX3_init_11 : decode cX3_init 11 = .ok (.putfield 15, 3) := by decide +kernel
theorem dX3_init_14 : decode cX3_init 14 = .ok (.aload_n 0, 1) := by decide +kernel
theorem dX3_init_15 : decode cX3_init 15 = .ok (.iconst 0, 1) := by decide +kernel
theorem dX3_init_16 : decode cX3_init 16 = .ok (.putfield 18, 3) := by decide +kernel
theorem dX3_init_19 : decode cX3_init 19 = .ok (.aload_n 0, 1) := by decide +kernel
theorem dX3_init_20 : decode cX3_init 20 = .ok (.iconst 0, 1) := by decide +kernel
theorem dX3_init_21 : decode cX3_init 21 = .ok (.putfield 21, 3) := by decide +kernel
theorem dX3_init_24 : decode cX3_init 24 = .ok (.return_, 1) := by decide +kernel
theorem dX3_lower_0 : decode cX3_lower 0 = .ok (.aload_n 0, 1) := by decide +kernel
theorem dX3_lower_1 : decode cX3_lower 1 = .ok (.iload_n 3, 1) := by decide +kernel
theorem dX3_lower_2 : decode cX3_lower 2 = .ok (.putfield 9, 3) := by decide +kernel
theorem dX3_lower_5 : decode cX3_lower 5 = .ok (.aload_n 0, 1) := by decide +kernel
theorem dX3_lower_6 : decode cX3_lower 6 = .ok (.iload 4, 2) := by decide +kernel
theorem dX3_lower_8 : decode cX3_lower 8 = .ok (.putfield 15, 3) := by decide +kernel
theorem dX3_lower_11 : decode cX3_lower 11 = .ok (.aload_n 0, 1) := by decide +kernel
theorem dX3_lower_12 : decode cX3_lower 12 = .ok (.iconst 0, 1) := by decide +kernel
theorem dX3_lower_13 : decode cX3_lower 13 = .ok (.putfield 18, 3) := by decide +kernel
theorem dX3_lower_16 : decode cX3_lower 16 = .ok (.aload_n 0, 1) := by decide +kernel
theorem dX3_lower_17 : decode cX3_lower 17 = .ok (.aload_n 0, 1) := by decide +kernel
theorem dX3_lower_18 : decode cX3_lower 18 = .ok (.invokevirtual 25, 3) := by decide +kernel
theorem dX3_lower_21 : decode cX3_lower 21 = .ok (.putfield 21, 3) := by decide +kernel
theorem dX3_lower_24 : decode cX3_lower 24 = .ok (.aload_n 0, 1) := by decide +kernel
theorem dX3_lower_25 : decode cX3_lower 25 = .ok (.getfield 18, 3) := by decide +kernel
theorem dX3_lower_28 : decode cX3_lower 28 = .ok (.sipush 4000, 3) := by decide +kernel
theorem dX3_lower_31 : decode cX3_lower 31 = .ok (.if_icmp .ge 120, 3) := by decide +kernel
theorem dX3_lower_34 : decode cX3_lower 34 = .ok (.aload_n 0, 1) := by decide +kernel
theorem dX3_lower_35 : decode cX3_lower 35 = .ok (.getfield 9, 3) := by decide +kernel
theorem dX3_lower_38 : decode cX3_lower 38 = .ok (.ifCond .lt 113, 3) := by decide +kernel
theorem dX3_lower_41 : decode cX3_lower 41 = .ok (.aload_n 0, 1) := by decide +kernel
theorem dX3_lower_42 : decode cX3_lower 42 = .ok (.getfield 15, 3) := by decide +kernel
theorem dX3_lower_45 : decode cX3_lower 45 = .ok (.ifCond .lt 106, 3) := by decide +kernel
theorem dX3_lower_48 : decode cX3_lower 48 = .ok (.iload_n 1, 1) := by decide +kernel
theorem dX3_lower_49 : decode cX3_lower 49 = .ok (.aload_n 0, 1) := by decide +kernel
theorem dX3_lower_50 : decode cX3_lower 50 = .ok (.getfield 9, 3) := by decide +kernel
theorem dX3_lower_53 : decode cX3_lower 53 = .ok (.aload_n 0, 1) := by decide +kernel
theorem dX3_lower_54 : decode cX3_lower 54 = .ok (.getfield 15, 3) := by decide +kernel
theorem dX3_lower_57 : decode cX3_lower 57 = .ok (.invokestatic 29, 3) := by decide +kernel
theorem dX3_lower_60 : decode cX3_lower 60 = .ok (.ifCond .le 21, 3) := by decide +kernel
theorem dX3_lower_63 : decode cX3_lower 63 = .ok (.aload_n 0, 1) := by decide +kernel
theorem dX3_lower_64 : decode cX3_lower 64 = .ok (.iload_n 1, 1) := by decide +kernel
theorem dX3_lower_65 : decode cX3_lower 65 = .ok (.aload_n 0, 1) := by decide +kernel
theorem dX3_lower_66 : decode cX3_lower 66 = .ok (.getfield 15, 3) := by decide +kernel
theorem dX3_lower_69 : decode cX3_lower 69 = .ok (.imul, 1) := by decide +kernel
theorem dX3_lower_70 : decode cX3_lower 70 = .ok (.aload_n 0, 1) := by decide +kernel
theorem dX3_lower_71 : decode cX3_lower 71 = .ok (.getfield 9, 3) := by decide +kernel
theorem dX3_lower_74 : decode cX3_lower 74 = .ok (.isub, 1) := by decide +kernel
theorem dX3_lower_75 : decode cX3_lower 75 = .ok (.putfield 9, 3) := by decide +kernel
theorem dX3_lower_78 : decode cX3_lower 78 = .ok (.goto 37, 3) := by decide +kernel
theorem dX3_lower_81 : decode cX3_lower 81 = .ok (.iload_n 2, 1) := by decide +kernel
theorem dX3_lower_82 : decode cX3_lower 82 = .ok (.aload_n 0, 1) := by decide +kernel
theorem dX3_lower_83 : decode cX3_lower 83 = .ok (.getfield 15, 3) := by decide +kernel
theorem dX3_lower_86 : decode cX3_lower 86 = .ok (.aload_n 0, 1) := by decide +kernel
theorem dX3_lower_87 : decode cX3_lower 87 = .ok (.getfield 9, 3) := by decide +kernel
theorem dX3_lower_90 : decode cX3_lower 90 = .ok (.invokestatic 29, 3) := by decide +kernel
theorem dX3_lower_93 : decode cX3_lower 93 = .ok (.ifCond .le 21, 3) := by decide +kernel
theorem dX3_lower_96 : decode cX3_lower 96 = .ok (.aload_n 0, 1) := by decide +kernel
theorem dX3_lower_97 : decode cX3_lower 97 = .ok (.iload_n 2, 1) := by decide +kernel
theorem dX3_lower_98 : decode cX3_lower 98 = .ok (.aload_n 0, 1) := by decide +kernel
theorem dX3_lower_99 : decode cX3_lower 99 = .ok (.getfield 9, 3) := by decide +kernel
theorem dX3_lower_102 : decode cX3_lower 102 = .ok (.imul, 1) := by decide +kernel
theorem dX3_lower_103 : decode cX3_lower 103 = .ok (.aload_n 0, 1) := by decide +kernel
theorem dX3_lower_104 : decode cX3_lower 104 = .ok (.getfield 15, 3) := by decide +kernel
theorem dX3_lower_107 : decode cX3_lower 107 = .ok (.isub, 1) := by decide +kernel
theorem dX3_lower_108 : decode cX3_lower 108 = .ok (.putfield 15, 3) := by decide +kernel
theorem dX3_lower_111 : decode cX3_lower 111 = .ok (.goto 4, 3) := by decide +kernel
theorem dX3_lower_114 : decode cX3_lower 114 = .ok (.return_, 1) := by decide +kernel
theorem dX3_lower_115 : decode cX3_lower 115 = .ok (.aload_n 0, 1) := by decide +kernel
theorem dX3_lower_116 : decode cX3_lower 116 = .ok (.dup, 1) := by decide +kernel
theorem dX3_lower_117 : decode cX3_lower 117 = .ok (.getfield 18, 3) := by decide +kernel
theorem dX3_lower_120 : decode cX3_lower 120 = .ok (.iconst 1, 1) := by decide +kernel
theorem dX3_lower_121 : decode cX3_lower 121 = .ok (.iadd, 1) := by decide +kernel
theorem dX3_lower_122 : decode cX3_lower 122 = .ok (.putfield 18, 3) := by decide +kernel
theorem dX3_lower_125 : decode cX3_lower 125 = .ok (.aload_n 0, 1) := by decide +kernel
theorem dX3_lower_126 : decode cX3_lower 126 = .ok (.aload_n 0, 1) := by decide +kernel
theorem dX3_lower_127 : decode cX3_lower 127 = .ok (.getfield 21, 3) := by decide +kernel
theorem dX3_lower_130 : decode cX3_lower 130 = .ok (.ifCond .ne 10, 3) := by decide +kernel
theorem dX3_lower_133 : decode cX3_lower 133 = .ok (.aload_n 0, 1) := by decide +kernel
theorem dX3_lower_134 : decode cX3_lower 134 = .ok (.invokevirtual 25, 3) := by decide +kernel
theorem dX3_lower_137 : decode cX3_lower 137 = .ok (.ifCond .eq 7, 3) := by decide +kernel
theorem dX3_lower_140 : decode cX3_lower 140 = .ok (.iconst 1, 1) := by decide +kernel
theorem dX3_lower_141 : decode cX3_lower 141 = .ok (.goto 4, 3) := by decide +kernel
theorem dX3_lower_144 : decode cX3_lower 144 = .ok (.iconst 0, 1) := by decide +kernel
theorem dX3_lower_145 : decode cX3_lower 145 = .ok (.putfield 21, 3) := by decide +kernel
theorem dX3_lower_148 : decode cX3_lower 148 = .ok (.goto (-124), 3) := by decide +kernel
theorem dX3_lower_151 : decode cX3_lower 151 = .ok (.return_, 1) := by decide +kernel
theorem dX3_isLetter_0 : decode cX3_isLetter 0 = .ok (.aload_n 0, 1) := by decide +kernel
theorem dX3_isLetter_1 : decode cX3_isLetter 1 = .ok (.getfield 9, 3) := by decide +kernel
theorem dX3_isLetter_4 : decode cX3_isLetter 4 = .ok (.iconst 1, 1) := by decide +kernel
theorem dX3_isLetter_5 : decode cX3_isLetter 5 = .ok (.if_icmp .ne 10, 3) := by decide +kernel
theorem dX3_isLetter_8 : decode cX3_isLetter 8 = .ok (.aload_n 0, 1) := by decide +kernel
theorem dX3_isLetter_9 : decode cX3_isLetter 9 = .ok (.getfield 15, 3) := by decide +kernel
theorem dX3_isLetter_12 : decode cX3_isLetter 12 = .ok (.ifCond .eq 18, 3) := by decide +kernel
theorem dX3_isLetter_15 : decode cX3_isLetter 15 = .ok (.aload_n 0, 1) := by decide +kernel
theorem dX3_isLetter_16 : decode cX3_isLetter 16 = .ok (.getfield 9, 3) := by decide +kernel
theorem dX3_isLetter_19 : decode cX3_isLetter 19 = .ok (.ifCond .ne 15, 3) := by decide +kernel
theorem dX3_isLetter_22 : decode cX3_isLetter 22 = .ok (.aload_n 0, 1) := by decide +kernel
theorem dX3_isLetter_23 : decode cX3_isLetter 23 = .ok (.getfield 15, 3) := by decide +kernel
theorem dX3_isLetter_26 : decode cX3_isLetter 26 = .ok (.iconst 1, 1) := by decide +kernel
theorem dX3_isLetter_27 : decode cX3_isLetter 27 = .ok (.if_icmp .ne 7, 3) := by decide +kernel
theorem dX3_isLetter_30 : decode cX3_isLetter 30 = .ok (.iconst 1, 1) := by decide +kernel
theorem dX3_isLetter_31 : decode cX3_isLetter 31 = .ok (.goto 4, 3) := by decide +kernel
theorem dX3_isLetter_34 : decode cX3_isLetter 34 = .ok (.iconst 0, 1) := by decide +kernel
theorem dX3_isLetter_35 : decode cX3_isLetter 35 = .ok (.ireturn, 1) := by decide +kernel
theorem dX3_sortOf_0 : decode cX3_sortOf 0 = .ok (.iload_n 3, 1) := by decide +kernel
theorem dX3_sortOf_1 : decode cX3_sortOf 1 = .ok (.ifCond .le 8, 3) := by decide +kernel
theorem dX3_sortOf_4 : decode cX3_sortOf 4 = .ok (.iload 4, 2) := by decide +kernel
theorem dX3_sortOf_6 : decode cX3_sortOf 6 = .ok (.ifCond .lt 12, 3) := by decide +kernel
theorem dX3_sortOf_9 : decode cX3_sortOf 9 = .ok (.iload_n 3, 1) := by decide +kernel
theorem dX3_sortOf_10 : decode cX3_sortOf 10 = .ok (.ifCond .ge 10, 3) := by decide +kernel
theorem dX3_sortOf_13 : decode cX3_sortOf 13 = .ok (.iload 4, 2) := by decide +kernel
theorem dX3_sortOf_15 : decode cX3_sortOf 15 = .ok (.ifCond .le 5, 3) := by decide +kernel
theorem dX3_sortOf_18 : decode cX3_sortOf 18 = .ok (.iconst 0, 1) := by decide +kernel
theorem dX3_sortOf_19 : decode cX3_sortOf 19 = .ok (.ireturn, 1) := by decide +kernel
theorem dX3_sortOf_20 : decode cX3_sortOf 20 = .ok (.aload_n 0, 1) := by decide +kernel
theorem dX3_sortOf_21 : decode cX3_sortOf 21 = .ok (.iload_n 1, 1) := by decide +kernel
theorem dX3_sortOf_22 : decode cX3_sortOf 22 = .ok (.iload_n 2, 1) := by decide +kernel
theorem dX3_sortOf_23 : decode cX3_sortOf 23 = .ok (.iload_n 3, 1) := by decide +kernel
theorem dX3_sortOf_24 : decode cX3_sortOf 24 = .ok (.invokestatic 33, 3) := by decide +kernel
theorem dX3_sortOf_27 : decode cX3_sortOf 27 = .ok (.iload 4, 2) := by decide +kernel
theorem dX3_sortOf_29 : decode cX3_sortOf 29 = .ok (.invokestatic 33, 3) := by decide +kernel
theorem dX3_sortOf_32 : decode cX3_sortOf 32 = .ok (.invokevirtual 39, 3) := by decide +kernel
theorem dX3_sortOf_35 : decode cX3_sortOf 35 = .ok (.aload_n 0, 1) := by decide +kernel
theorem dX3_sortOf_36 : decode cX3_sortOf 36 = .ok (.getfield 21, 3) := by decide +kernel
theorem dX3_sortOf_39 : decode cX3_sortOf 39 = .ok (.ifCond .eq 5, 3) := by decide +kernel
theorem dX3_sortOf_42 : decode cX3_sortOf 42 = .ok (.iconst 1, 1) := by decide +kernel
theorem dX3_sortOf_43 : decode cX3_sortOf 43 = .ok (.ireturn, 1) := by decide +kernel
theorem dX3_sortOf_44 : decode cX3_sortOf 44 = .ok (.aload_n 0, 1) := by decide +kernel
theorem dX3_sortOf_45 : decode cX3_sortOf 45 = .ok (.getfield 9, 3) := by decide +kernel
theorem dX3_sortOf_48 : decode cX3_sortOf 48 = .ok (.ifCond .le 14, 3) := by decide +kernel
theorem dX3_sortOf_51 : decode cX3_sortOf 51 = .ok (.aload_n 0, 1) := by decide +kernel
theorem dX3_sortOf_52 : decode cX3_sortOf 52 = .ok (.getfield 15, 3) := by decide +kernel
theorem dX3_sortOf_55 : decode cX3_sortOf 55 = .ok (.ifCond .le 7, 3) := by decide +kernel
theorem dX3_sortOf_58 : decode cX3_sortOf 58 = .ok (.iconst 2, 1) := by decide +kernel
theorem dX3_sortOf_59 : decode cX3_sortOf 59 = .ok (.goto 4, 3) := by decide +kernel
theorem dX3_sortOf_62 : decode cX3_sortOf 62 = .ok (.iconst 0, 1) := by decide +kernel
theorem dX3_sortOf_63 : decode cX3_sortOf 63 = .ok (.ireturn, 1) := by decide +kernel
theorem dX4_init_0 : decode cX4_init 0 = .ok (.aload_n 0, 1) := by decide +kernel
theorem dX4_init_1 : decode cX4_init 1 = .ok (.invokespecial 3, 3) := by decide +kernel
theorem dX4_init_4 : decode cX4_init 4 = .ok (.aload_n 0, 1) := by decide +kernel
theorem dX4_init_5 : decode cX4_init 5 = .ok (.iconst 0, 1) := by decide +kernel
theorem dX4_init_6 : decode cX4_init 6 = .ok (.putfield 9, 3) := by decide +kernel
theorem dX4_init_9 : decode cX4_init 9 = .ok (.aload_n 0, 1) := by decide +kernel
theorem dX4_init_10 : decode cX4_init 10 = .ok (.iconst 0, 1) := by decide +kernel
theorem dX4_init_11 : decode cX4_init 11 = .ok (.iload_n 1, 1) := by decide +kernel
theorem dX4_init_12 : decode cX4_init 12 = .ok (.invokestatic 15, 3) := by decide +kernel
theorem dX4_init_15 : decode cX4_init 15 = .ok (.putfield 21, 3) := by decide +kernel
theorem dX4_init_18 : decode cX4_init 18 = .ok (.aload_n 0, 1) := by decide +kernel
theorem dX4_init_19 : decode cX4_init 19 = .ok (.iconst 3, 1) := by decide +kernel
theorem dX4_init_20 : decode cX4_init 20 = .ok (.aload_n 0, 1) := by decide +kernel
theorem dX4_init_21 : decode cX4_init 21 = .ok (.getfield 21, 3) := by decide +kernel
theorem dX4_init_24 : decode cX4_init 24 = .ok (.imul, 1) := by decide +kernel
theorem dX4_init_25 : decode cX4_init 25 = .ok (.newarray .int, 2) := by decide +kernel
theorem dX4_init_27 : decode cX4_init 27 = .ok (.putfield 24, 3) := by decide +kernel
theorem dX4_init_30 : decode cX4_init 30 = .ok (.return_, 1) := by decide +kernel
theorem dX4_size_0 : decode cX4_size 0 = .ok (.aload_n 0, 1) := by decide +kernel
theorem dX4_size_1 : decode cX4_size 1 = .ok (.getfield 9, 3) := by decide +kernel
theorem dX4_size_4 : decode cX4_size 4 = .ok (.ireturn, 1) := by decide +kernel
theorem dX4_clear_0 : decode cX4_clear 0 = .ok (.aload_n 0, 1) := by decide +kernel
theorem dX4_clear_1 : decode cX4_clear 1 = .ok (.iconst 0, 1) := by decide +kernel
theorem dX4_clear_2 : decode cX4_clear 2 = .ok (.putfield 9, 3) := by decide +kernel
theorem dX4_clear_5 : decode cX4_clear 5 = .ok (.return_, 1) := by decide +kernel
theorem dX4_put_0 : decode cX4_put 0 = .ok (.aload_n 0, 1) := by decide +kernel
theorem dX4_put_1 : decode cX4_put 1 = .ok (.getfield 9, 3) := by decide +kernel
theorem dX4_put_4 : decode cX4_put 4 = .ok (.aload_n 0, 1) := by decide +kernel
theorem dX4_put_5 : decode cX4_put 5 = .ok (.getfield 21, 3) := by decide +kernel
theorem dX4_put_8 : decode cX4_put 8 = .ok (.if_icmp .lt 6, 3) := by decide +kernel
theorem dX4_put_11 : decode cX4_put 11 = .ok (.bipush (-4), 2) := by decide +kernel
theorem dX4_put_13 : decode cX4_put 13 = .ok (.ireturn, 1) := by decide +kernel
theorem dX4_put_14 : decode cX4_put 14 = .ok (.aload_n 0, 1) := by decide +kernel
theorem dX4_put_15 : decode cX4_put 15 = .ok (.getfield 24, 3) := by decide +kernel
theorem dX4_put_18 : decode cX4_put 18 = .ok (.iconst 3, 1) := by decide +kernel
theorem dX4_put_19 : decode cX4_put 19 = .ok (.aload_n 0, 1) := by decide +kernel
theorem dX4_put_20 : decode cX4_put 20 = .ok (.getfield 9, 3) := by decide +kernel
theorem dX4_put_23 : decode cX4_put 23 = .ok (.imul, 1) := by decide +kernel
theorem dX4_put_24 : decode cX4_put 24 = .ok (.iload_n 1, 1) := by decide +kernel
theorem dX4_put_25 : decode cX4_put 25 = .ok (.iastore, 1) := by decide +kernel
theorem dX4_put_26 : decode cX4_put 26 = .ok (.aload_n 0, 1) := by decide +kernel
theorem dX4_put_27 : decode cX4_put 27 = .ok (.getfield 24, 3) := by decide +kernel
theorem dX4_put_30 : decode cX4_put 30 = .ok (.iconst 3, 1) := by decide +kernel
theorem dX4_put_31 : decode cX4_put 31 = .ok (.aload_n 0, 1) := by decide +kernel
theorem dX4_put_32 : decode cX4_put 32 = .ok (.getfield 9, 3) := by decide +kernel
theorem dX4_put_35 : decode cX4_put 35 = .ok (.imul, 1) := by decide +kernel
theorem dX4_put_36 : decode cX4_put 36 = .ok (.iconst 1, 1) := by decide +kernel
theorem dX4_put_37 : decode cX4_put 37 = .ok (.iadd, 1) := by decide +kernel
theorem dX4_put_38 : decode cX4_put 38 = .ok (.iload_n 2, 1) := by decide +kernel
theorem dX4_put_39 : decode cX4_put 39 = .ok (.iastore, 1) := by decide +kernel
theorem dX4_put_40 : decode cX4_put 40 = .ok (.aload_n 0, 1) := by decide +kernel
theorem dX4_put_41 : decode cX4_put 41 = .ok (.getfield 24, 3) := by decide +kernel
theorem dX4_put_44 : decode cX4_put 44 = .ok (.iconst 3, 1) := by decide +kernel
theorem dX4_put_45 : decode cX4_put 45 = .ok (.aload_n 0, 1) := by decide +kernel
theorem dX4_put_46 : decode cX4_put 46 = .ok (.getfield 9, 3) := by decide +kernel
theorem dX4_put_49 : decode cX4_put 49 = .ok (.imul, 1) := by decide +kernel
theorem dX4_put_50 : decode cX4_put 50 = .ok (.iconst 2, 1) := by decide +kernel
theorem dX4_put_51 : decode cX4_put 51 = .ok (.iadd, 1) := by decide +kernel
theorem dX4_put_52 : decode cX4_put 52 = .ok (.iload_n 3, 1) := by decide +kernel
theorem dX4_put_53 : decode cX4_put 53 = .ok (.iastore, 1) := by decide +kernel
theorem dX4_put_54 : decode cX4_put 54 = .ok (.aload_n 0, 1) := by decide +kernel
theorem dX4_put_55 : decode cX4_put 55 = .ok (.dup, 1) := by decide +kernel
theorem dX4_put_56 : decode cX4_put 56 = .ok (.getfield 9, 3) := by decide +kernel
theorem dX4_put_59 : decode cX4_put 59 = .ok (.iconst 1, 1) := by decide +kernel
theorem dX4_put_60 : decode cX4_put 60 = .ok (.iadd, 1) := by decide +kernel
theorem dX4_put_61 : decode cX4_put 61 = .ok (.putfield 9, 3) := by decide +kernel
theorem dX4_put_64 : decode cX4_put 64 = .ok (.aload_n 0, 1) := by decide +kernel
theorem dX4_put_65 : decode cX4_put 65 = .ok (.getfield 9, 3) := by decide +kernel
theorem dX4_put_68 : decode cX4_put 68 = .ok (.ireturn, 1) := by decide +kernel
theorem dX4_cell_0 : decode cX4_cell 0 = .ok (.iload_n 1, 1) := by decide +kernel
theorem dX4_cell_1 : decode cX4_cell 1 = .ok (.iconst 0, 1) := by decide +kernel
theorem dX4_cell_2 : decode cX4_cell 2 = .ok (.aload_n 0, 1) := by decide +kernel
theorem dX4_cell_3 : decode cX4_cell 3 = .ok (.getfield 9, 3) := by decide +kernel
theorem dX4_cell_6 : decode cX4_cell 6 = .ok (.iconst 1, 1) := by decide +kernel
theorem dX4_cell_7 : decode cX4_cell 7 = .ok (.isub, 1) := by decide +kernel
theorem dX4_cell_8 : decode cX4_cell 8 = .ok (.invokestatic 28, 3) := by decide +kernel
theorem dX4_cell_11 : decode cX4_cell 11 = .ok (.ifCond .eq 12, 3) := by decide +kernel
theorem dX4_cell_14 : decode cX4_cell 14 = .ok (.iload_n 2, 1) := by decide +kernel
theorem dX4_cell_15 : decode cX4_cell 15 = .ok (.iconst 0, 1) := by decide +kernel
theorem dX4_cell_16 : decode cX4_cell 16 = .ok (.iconst 2, 1) := by decide +kernel
theorem dX4_cell_17 : decode cX4_cell 17 = .ok (.invokestatic 28, 3) := by decide +kernel
theorem dX4_cell_20 : decode cX4_cell 20 = .ok (.ifCond .ne 5, 3) := by decide +kernel
theorem dX4_cell_23 : decode cX4_cell 23 = .ok (.iconst 0, 1) := by decide +kernel
theorem dX4_cell_24 : decode cX4_cell 24 = .ok (.ireturn, 1) := by decide +kernel
theorem dX4_cell_25 : decode cX4_cell 25 = .ok (.aload_n 0, 1) := by decide +kernel
theorem dX4_cell_26 : decode cX4_cell 26 = .ok (.getfield 24, 3) := by decide +kernel
theorem dX4_cell_29 : decode cX4_cell 29 = .ok (.iconst 3, 1) := by decide +kernel
theorem dX4_cell_30 : decode cX4_cell 30 = .ok (.iload_n 1, 1) := by decide +kernel
theorem dX4_cell_31 : decode cX4_cell 31 = .ok (.imul, 1) := by decide +kernel
theorem dX4_cell_32 : decode cX4_cell 32 = .ok (.iload_n 2, 1) := by decide +kernel
theorem dX4_cell_33 : decode cX4_cell 33 = .ok (.iadd, 1) := by decide +kernel
theorem dX4_cell_34 : decode cX4_cell 34 = .ok (.iaload, 1) := by decide +kernel
theorem dX4_cell_35 : decode cX4_cell 35 = .ok (.ireturn, 1) := by decide +kernel
theorem dX4_copyFrom_0 : decode cX4_copyFrom 0 = .ok (.aload_n 0, 1) := by decide +kernel
theorem dX4_copyFrom_1 : decode cX4_copyFrom 1 = .ok (.iconst 0, 1) := by decide +kernel
theorem dX4_copyFrom_2 : decode cX4_copyFrom 2 = .ok (.putfield 9, 3) := by decide +kernel
theorem dX4_copyFrom_5 : decode cX4_copyFrom 5 = .ok (.iconst 0, 1) := by decide +kernel
theorem dX4_copyFrom_6 : decode cX4_copyFrom 6 = .ok (.istore_n 2, 1) := by decide +kernel
theorem dX4_copyFrom_7 : decode cX4_copyFrom 7 = .ok (.iload_n 2, 1) := by decide +kernel
theorem dX4_copyFrom_8 : decode cX4_copyFrom 8 = .ok (.aload_n 1, 1) := by decide +kernel
theorem dX4_copyFrom_9 : decode cX4_copyFrom 9 = .ok (.invokevirtual 32, 3) := by decide +kernel
theorem dX4_copyFrom_12 : decode cX4_copyFrom 12 = .ok (.if_icmp .ge 32, 3) := by decide +kernel
theorem dX4_copyFrom_15 : decode cX4_copyFrom 15 = .ok (.aload_n 0, 1) := by decide +kernel
theorem dX4_copyFrom_16 : decode cX4_copyFrom 16 = .ok (.aload_n 1, 1) := by decide +kernel
theorem dX4_copyFrom_17 : decode cX4_copyFrom 17 = .ok (.iload_n 2, 1) := by decide +kernel
theorem dX4_copyFrom_18 : decode cX4_copyFrom 18 = .ok (.iconst 0, 1) := by decide +kernel
theorem dX4_copyFrom_19 : decode cX4_copyFrom 19 = .ok (.invokevirtual 36, 3) := by decide +kernel
theorem dX4_copyFrom_22 : decode cX4_copyFrom 22 = .ok (.aload_n 1, 1) := by decide +kernel
theorem dX4_copyFrom_23 : decode cX4_copyFrom 23 = .ok (.iload_n 2, 1) := by decide +kernel
theorem dX4_copyFrom_24 : decode cX4_copyFrom 24 = .ok (.iconst 1, 1) := by decide +kernel
theorem dX4_copyFrom_25 : decode cX4_copyFrom 25 = .ok (.invokevirtual 36, 3) := by decide +kernel
theorem dX4_copyFrom_28 : decode cX4_copyFrom 28 = .ok (.aload_n 1, 1) := by decide +kernel
theorem dX4_copyFrom_29 : decode cX4_copyFrom 29 = .ok (.iload_n 2, 1) := by decide +kernel
theorem dX4_copyFrom_30 : decode cX4_copyFrom 30 = .ok (.iconst 2, 1) := by decide +kernel
theorem dX4_copyFrom_31 : decode cX4_copyFrom 31 = .ok (.invokevirtual 36, 3) := by decide +kernel
theorem dX4_copyFrom_34 : decode cX4_copyFrom 34 = .ok (.invokevirtual 39, 3) := by decide +kernel
theorem dX4_copyFrom_37 : decode cX4_copyFrom 37 = .ok (.pop, 1) := by decide +kernel
theorem dX4_copyFrom_38 : decode cX4_copyFrom 38 = .ok (.iinc 2 1, 3) := by decide +kernel
theorem dX4_copyFrom_41 : decode cX4_copyFrom 41 = .ok (.goto (-34), 3) := by decide +kernel
theorem dX4_copyFrom_44 : decode cX4_copyFrom 44 = .ok (.return_, 1) := by decide +kernel
theorem dX5_init_0 : decode cX5_init 0 = .ok (.aload_n 0, 1) := by decide +kernel
theorem dX5_init_1 : decode cX5_init 1 = .ok (.invokespecial 3, 3) := by decide +kernel
theorem dX5_init_4 : decode cX5_init 4 = .ok (.aload_n 0, 1) := by decide +kernel
theorem dX5_init_5 : decode cX5_init 5 = .ok (.bipush 100, 2) := by decide +kernel
theorem dX5_init_7 : decode cX5_init 7 = .ok (.newarray .int, 2) := by decide +kernel
theorem dX5_init_9 : decode cX5_init 9 = .ok (.putfield 11, 3) := by decide +kernel
theorem dX5_init_12 : decode cX5_init 12 = .ok (.aload_n 0, 1) := by decide +kernel
theorem dX5_init_13 : decode cX5_init 13 = .ok (.iconst 0, 1) := by decide +kernel
theorem dX5_init_14 : decode cX5_init 14 = .ok (.putfield 15, 3) := by decide +kernel
theorem dX5_init_17 : decode cX5_init 17 = .ok (.aload_n 0, 1) := by decide +kernel
theorem dX5_init_18 : decode cX5_init 18 = .ok (.bipush 12, 2) := by decide +kernel
theorem dX5_init_20 : decode cX5_init 20 = .ok (.newarray .int, 2) := by decide +kernel
theorem dX5_init_22 : decode cX5_init 22 = .ok (.putfield 19, 3) := by decide +kernel
theorem dX5_init_25 : decode cX5_init 25 = .ok (.aload_n 0, 1) := by decide +kernel
theorem dX5_init_26 : decode cX5_init 26 = .ok (.bipush 12, 2) := by decide +kernel
theorem dX5_init_28 : decode cX5_init 28 = .ok (.newarray .int, 2) := by decide +kernel
theorem dX5_init_30 : decode cX5_init 30 = .ok (.putfield 22, 3) := by decide +kernel
theorem dX5_init_33 : decode cX5_init 33 = .ok (.aload_n 0, 1) := by decide +kernel
theorem dX5_init_34 : decode cX5_init 34 = .ok (.bipush 12, 2) := by decide +kernel
theorem dX5_init_36 : decode cX5_init 36 = .ok (.newarray .int, 2) := by decide +kernel
theorem dX5_init_38 : decode cX5_init 38 = .ok (.putfield 25, 3) := by decide +kernel
theorem dX5_init_41 : decode cX5_init 41 = .ok (.aload_n 0, 1) := by decide +kernel
theorem dX5_init_42 : decode cX5_init 42 = .ok (.iconst 0, 1) := by decide +kernel
theorem dX5_init_43 : decode cX5_init 43 = .ok (.putfield 28, 3) := by decide +kernel
theorem dX5_init_46 : decode cX5_init 46 = .ok (.aload_n 0, 1) := by decide +kernel
theorem dX5_init_47 : decode cX5_init 47 = .ok (.iconst 0, 1) := by decide +kernel
theorem dX5_init_48 : decode cX5_init 48 = .ok (.putfield 31, 3) := by decide +kernel
theorem dX5_init_51 : decode cX5_init 51 = .ok (.aload_n 0, 1) := by decide +kernel
theorem dX5_init_52 : decode cX5_init 52 = .ok (.iconst 0, 1) := by decide +kernel
theorem dX5_init_53 : decode cX5_init 53 = .ok (.putfield 34, 3) := by decide +kernel
theorem dX5_init_56 : decode cX5_init 56 = .ok (.return_, 1) := by decide +kernel
theorem dX5_append_0 : decode cX5_append 0 = .ok (.aload_n 0, 1) := by decide +kernel
theorem dX5_append_1 : decode cX5_append 1 = .ok (.getfield 15, 3) := by decide +kernel
theorem dX5_append_4 : decode cX5_append 4 = .ok (.bipush 100, 2) := by decide +kernel
theorem dX5_append_6 : decode cX5_append 6 = .ok (.if_icmp .lt 6, 3) := by decide +kernel
theorem dX5_append_9 : decode cX5_append 9 = .ok (.bipush (-4), 2) := by decide +kernel
theorem dX5_append_11 : decode cX5_append 11 = .ok (.ireturn, 1) := by decide +kernel
theorem dX5_append_12 : decode cX5_append 12 = .ok (.aload_n 0, 1) := by decide +kernel
theorem dX5_append_13 : decode cX5_append 13 = .ok (.getfield 11, 3) := by decide +kernel
theorem dX5_append_16 : decode cX5_append 16 = .ok (.aload_n 0, 1) := by decide +kernel
theorem dX5_append_17 : decode cX5_append 17 = .ok (.getfield 15, 3) := by decide +kernel
theorem dX5_append_20 : decode cX5_append 20 = .ok (.iload_n 1, 1) := by decide +kernel
theorem dX5_append_21 : decode cX5_append 21 = .ok (.iastore, 1) := by decide +kernel
theorem dX5_append_22 : decode cX5_append 22 = .ok (.aload_n 0, 1) := by decide +kernel
theorem dX5_append_23 : decode cX5_append 23 = .ok (.dup, 1) := by decide +kernel
theorem dX5_append_24 : decode cX5_append 24 = .ok (.getfield 15, 3) := by decide +kernel
theorem dX5_append_27 : decode cX5_append 27 = .ok (.iconst 1, 1) := by decide +kernel
theorem dX5_append_28 : decode cX5_append 28 = .ok (.iadd, 1) := by decide +kernel
theorem dX5_append_29 : decode cX5_append 29 = .ok (.putfield 15, 3) := by decide +kernel
theorem dX5_append_32 : decode cX5_append 32 = .ok (.aload_n 0, 1) := by decide +kernel
theorem dX5_append_33 : decode cX5_append 33 = .ok (.getfield 15, 3) := by decide +kernel
theorem dX5_append_36 : decode cX5_append 36 = .ok (.ireturn, 1) := by decide +kernel
theorem dX5_clear_0 : decode cX5_clear 0 = .ok (.aload_n 0, 1) := by decide +kernel
theorem dX5_clear_1 : decode cX5_clear 1 = .ok (.iconst 0, 1) := by decide +kernel
theorem dX5_clear_2 : decode cX5_clear 2 = .ok (.putfield 15, 3) := by decide +kernel
theorem dX5_clear_5 : decode cX5_clear 5 = .ok (.return_, 1) := by decide +kernel
theorem dX5_bytes_0 : decode cX5_bytes 0 = .ok (.aload_n 0, 1) := by decide +kernel
theorem dX5_bytes_1 : decode cX5_bytes 1 = .ok (.getfield 15, 3) := by decide +kernel
theorem dX5_bytes_4 : decode cX5_bytes 4 = .ok (.ireturn, 1) := by decide +kernel
theorem dX5_byteAt_0 : decode cX5_byteAt 0 = .ok (.iload_n 1, 1) := by decide +kernel
theorem dX5_byteAt_1 : decode cX5_byteAt 1 = .ok (.ifCond .lt 20, 3) := by decide +kernel
theorem dX5_byteAt_4 : decode cX5_byteAt 4 = .ok (.iload_n 1, 1) := by decide +kernel
theorem dX5_byteAt_5 : decode cX5_byteAt 5 = .ok (.aload_n 0, 1) := by decide +kernel
theorem dX5_byteAt_6 : decode cX5_byteAt 6 = .ok (.getfield 15, 3) := by decide +kernel
theorem dX5_byteAt_9 : decode cX5_byteAt 9 = .ok (.if_icmp .ge 12, 3) := by decide +kernel
theorem dX5_byteAt_12 : decode cX5_byteAt 12 = .ok (.aload_n 0, 1) := by decide +kernel
theorem dX5_byteAt_13 : decode cX5_byteAt 13 = .ok (.getfield 11, 3) := by decide +kernel
theorem dX5_byteAt_16 : decode cX5_byteAt 16 = .ok (.iload_n 1, 1) := by decide +kernel
theorem dX5_byteAt_17 : decode cX5_byteAt 17 = .ok (.iaload, 1) := by decide +kernel
theorem dX5_byteAt_18 : decode cX5_byteAt 18 = .ok (.goto 4, 3) := by decide +kernel
theorem dX5_byteAt_21 : decode cX5_byteAt 21 = .ok (.iconst (-1), 1) := by decide +kernel
theorem dX5_byteAt_22 : decode cX5_byteAt 22 = .ok (.ireturn, 1) := by decide +kernel
theorem dX5_size_0 : decode cX5_size 0 = .ok (.aload_n 0, 1) := by decide +kernel
theorem dX5_size_1 : decode cX5_size 1 = .ok (.getfield 28, 3) := by decide +kernel
theorem dX5_size_4 : decode cX5_size 4 = .ok (.ireturn, 1) := by decide +kernel
theorem dX5_kind_0 : decode cX5_kind 0 = .ok (.iload_n 1, 1) := by decide +kernel
theorem dX5_kind_1 : decode cX5_kind 1 = .ok (.iconst 0, 1) := by decide +kernel
theorem dX5_kind_2 : decode cX5_kind 2 = .ok (.aload_n 0, 1) := by decide +kernel
theorem dX5_kind_3 : decode cX5_kind 3 = .ok (.getfield 28, 3) := by decide +kernel
theorem dX5_kind_6 : decode cX5_kind 6 = .ok (.iconst 1, 1) := by decide +kernel
theorem dX5_kind_7 : decode cX5_kind 7 = .ok (.isub, 1) := by decide +kernel
theorem dX5_kind_8 : decode cX5_kind 8 = .ok (.invokestatic 37, 3) := by decide +kernel
theorem dX5_kind_11 : decode cX5_kind 11 = .ok (.ifCond .eq 12, 3) := by decide +kernel
theorem dX5_kind_14 : decode cX5_kind 14 = .ok (.aload_n 0, 1) := by decide +kernel
theorem dX5_kind_15 : decode cX5_kind 15 = .ok (.getfield 19, 3) := by decide +kernel
theorem dX5_kind_18 : decode cX5_kind 18 = .ok (.iload_n 1, 1) := by decide +kernel
theorem dX5_kind_19 : decode cX5_kind 19 = .ok (.iaload, 1) := by decide +kernel
theorem dX5_kind_20 : decode cX5_kind 20 = .ok (.goto 4, 3) := by decide +kernel
theorem dX5_kind_23 : decode cX5_kind 23 = .ok (.iconst 5, 1) := by decide +kernel
theorem dX5_kind_24 : decode cX5_kind 24 = .ok (.ireturn, 1) := by decide +kernel
theorem dX5_first_0 : decode cX5_first 0 = .ok (.iload_n 1, 1) := by decide +kernel
theorem dX5_first_1 : decode cX5_first 1 = .ok (.iconst 0, 1) := by decide +kernel
theorem dX5_first_2 : decode cX5_first 2 = .ok (.aload_n 0, 1) := by decide +kernel
theorem dX5_first_3 : decode cX5_first 3 = .ok (.getfield 28, 3) := by decide +kernel
theorem dX5_first_6 : decode cX5_first 6 = .ok (.iconst 1, 1) := by decide +kernel
theorem dX5_first_7 : decode cX5_first 7 = .ok (.isub, 1) := by decide +kernel
theorem dX5_first_8 : decode cX5_first 8 = .ok (.invokestatic 37, 3) := by decide +kernel
theorem dX5_first_11 : decode cX5_first 11 = .ok (.ifCond .eq 12, 3) := by decide +kernel
theorem dX5_first_14 : decode cX5_first 14 = .ok (.aload_n 0, 1) := by decide +kernel
theorem dX5_first_15 : decode cX5_first 15 = .ok (.getfield 22, 3) := by decide +kernel
theorem dX5_first_18 : decode cX5_first 18 = .ok (.iload_n 1, 1) := by decide +kernel
theorem dX5_first_19 : decode cX5_first 19 = .ok (.iaload, 1) := by decide +kernel
theorem dX5_first_20 : decode cX5_first 20 = .ok (.goto 4, 3) := by decide +kernel
theorem dX5_first_23 : decode cX5_first 23 = .ok (.iconst 0, 1) := by decide +kernel
theorem dX5_first_24 : decode cX5_first 24 = .ok (.ireturn, 1) := by decide +kernel
theorem dX5_second_0 : decode cX5_second 0 = .ok (.iload_n 1, 1) := by decide +kernel
theorem dX5_second_1 : decode cX5_second 1 = .ok (.iconst 0, 1) := by decide +kernel
theorem dX5_second_2 : decode cX5_second 2 = .ok (.aload_n 0, 1) := by decide +kernel
theorem dX5_second_3 : decode cX5_second 3 = .ok (.getfield 28, 3) := by decide +kernel
theorem dX5_second_6 : decode cX5_second 6 = .ok (.iconst 1, 1) := by decide +kernel
theorem dX5_second_7 : decode cX5_second 7 = .ok (.isub, 1) := by decide +kernel
theorem dX5_second_8 : decode cX5_second 8 = .ok (.invokestatic 37, 3) := by decide +kernel
theorem dX5_second_11 : decode cX5_second 11 = .ok (.ifCond .eq 12, 3) := by decide +kernel
theorem dX5_second_14 : decode cX5_second 14 = .ok (.aload_n 0, 1) := by decide +kernel
theorem dX5_second_15 : decode cX5_second 15 = .ok (.getfield 25, 3) := by decide +kernel
theorem dX5_second_18 : decode cX5_second 18 = .ok (.iload_n 1, 1) := by decide +kernel
theorem dX5_second_19 : decode cX5_second 19 = .ok (.iaload, 1) := by decide +kernel
theorem dX5_second_20 : decode cX5_second 20 = .ok (.goto 4, 3) := by decide +kernel
theorem dX5_second_23 : decode cX5_second 23 = .ok (.iconst 0, 1) := by decide +kernel
theorem dX5_second_24 : decode cX5_second 24 = .ok (.ireturn, 1) := by decide +kernel
theorem dX5_findFault_0 : decode cX5_findFault 0 = .ok (.aload_n 0, 1) := by decide +kernel
theorem dX5_findFault_1 : decode cX5_findFault 1 = .ok (.iconst 0, 1) := by decide +kernel
theorem dX5_findFault_2 : decode cX5_findFault 2 = .ok (.putfield 31, 3) := by decide +kernel
theorem dX5_findFault_5 : decode cX5_findFault 5 = .ok (.aload_n 0, 1) := by decide +kernel
theorem dX5_findFault_6 : decode cX5_findFault 6 = .ok (.iconst 0, 1) := by decide +kernel
theorem dX5_findFault_7 : decode cX5_findFault 7 = .ok (.putfield 28, 3) := by decide +kernel
theorem dX5_findFault_10 : decode cX5_findFault 10 = .ok (.iconst 0, 1) := by decide +kernel
theorem dX5_findFault_11 : decode cX5_findFault 11 = .ok (.istore_n 1, 1) := by decide +kernel
theorem dX5_findFault_12 : decode cX5_findFault 12 = .ok (.iload_n 1, 1) := by decide +kernel
theorem dX5_findFault_13 : decode cX5_findFault 13 = .ok (.bipush 12, 2) := by decide +kernel
theorem dX5_findFault_15 : decode cX5_findFault 15 = .ok (.if_icmp .ge 65, 3) := by decide +kernel
theorem dX5_findFault_18 : decode cX5_findFault 18 = .ok (.aload_n 0, 1) := by decide +kernel
theorem dX5_findFault_19 : decode cX5_findFault 19 = .ok (.iload_n 1, 1) := by decide +kernel
theorem dX5_findFault_20 : decode cX5_findFault 20 = .ok (.invokevirtual 41, 3) := by decide +kernel
theorem dX5_findFault_23 : decode cX5_findFault 23 = .ok (.ifCond .ne 8, 3) := by decide +kernel
theorem dX5_findFault_26 : decode cX5_findFault 26 = .ok (.aload_n 0, 1) := by decide +kernel
theorem dX5_findFault_27 : decode cX5_findFault 27 = .ok (.getfield 31, 3) := by decide +kernel
theorem dX5_findFault_30 : decode cX5_findFault 30 = .ok (.ireturn, 1) := by decide +kernel
theorem dX5_findFault_31 : decode cX5_findFault 31 = .ok (.aload_n 0, 1) := by decide +kernel
theorem dX5_findFault_32 : decode cX5_findFault 32 = .ok (.iload_n 1, 1) := by decide +kernel
theorem dX5_findFault_33 : decode cX5_findFault 33 = .ok (.iconst 1, 1) := by decide +kernel
theorem dX5_findFault_34 : decode cX5_findFault 34 = .ok (.iadd, 1) := by decide +kernel
theorem dX5_findFault_35 : decode cX5_findFault 35 = .ok (.putfield 28, 3) := by decide +kernel
theorem dX5_findFault_38 : decode cX5_findFault 38 = .ok (.aload_n 0, 1) := by decide +kernel
theorem dX5_findFault_39 : decode cX5_findFault 39 = .ok (.getfield 31, 3) := by decide +kernel
theorem dX5_findFault_42 : decode cX5_findFault 42 = .ok (.aload_n 0, 1) := by decide +kernel
theorem dX5_findFault_43 : decode cX5_findFault 43 = .ok (.getfield 15, 3) := by decide +kernel
theorem dX5_findFault_46 : decode cX5_findFault 46 = .ok (.if_icmp .ne 5, 3) := by decide +kernel
theorem dX5_findFault_49 : decode cX5_findFault 49 = .ok (.iconst (-1), 1) := by decide +kernel
theorem dX5_findFault_50 : decode cX5_findFault 50 = .ok (.ireturn, 1) := by decide +kernel
theorem dX5_findFault_51 : decode cX5_findFault 51 = .ok (.aload_n 0, 1) := by decide +kernel
theorem dX5_findFault_52 : decode cX5_findFault 52 = .ok (.getfield 28, 3) := by decide +kernel
theorem dX5_findFault_55 : decode cX5_findFault 55 = .ok (.bipush 12, 2) := by decide +kernel
theorem dX5_findFault_57 : decode cX5_findFault 57 = .ok (.if_icmp .eq 12, 3) := by decide +kernel
theorem dX5_findFault_60 : decode cX5_findFault 60 = .ok (.aload_n 0, 1) := by decide +kernel
theorem dX5_findFault_61 : decode cX5_findFault 61 = .ok (.bipush 59, 2) := by decide +kernel
theorem dX5_findFault_63 : decode cX5_findFault 63 = .ok (.invokevirtual 45, 3) := by decide +kernel
theorem dX5_findFault_66 : decode cX5_findFault 66 = .ok (.ifCond .ne 8, 3) := by decide +kernel
theorem dX5_findFault_69 : decode cX5_findFault 69 = .ok (.aload_n 0, 1) := by decide +kernel
theorem dX5_findFault_70 : decode cX5_findFault 70 = .ok (.getfield 31, 3) := by decide +kernel
theorem dX5_findFault_73 : decode cX5_findFault 73 = .ok (.ireturn, 1) := by decide +kernel
theorem dX5_findFault_74 : decode cX5_findFault 74 = .ok (.iinc 1 1, 3) := by decide +kernel
theorem dX5_findFault_77 : decode cX5_findFault 77 = .ok (.goto (-65), 3) := by decide +kernel
theorem dX5_findFault_80 : decode cX5_findFault 80 = .ok (.aload_n 0, 1) := by decide +kernel
theorem dX5_findFault_81 : decode cX5_findFault 81 = .ok (.getfield 31, 3) := by decide +kernel
theorem dX5_findFault_84 : decode cX5_findFault 84 = .ok (.ireturn, 1) := by decide +kernel
theorem dX5_takeClause_0 : decode cX5_takeClause 0 = .ok (.aload_n 0, 1) := by decide +kernel
theorem dX5_takeClause_1 : decode cX5_takeClause 1 = .ok (.invokevirtual 48, 3) := by decide +kernel
theorem dX5_takeClause_4 : decode cX5_takeClause 4 = .ok (.istore_n 2, 1) := by decide +kernel
theorem dX5_takeClause_5 : decode cX5_takeClause 5 = .ok (.aload_n 0, 1) := by decide +kernel
theorem dX5_takeClause_6 : decode cX5_takeClause 6 = .ok (.getfield 19, 3) := by decide +kernel
theorem dX5_takeClause_9 : decode cX5_takeClause 9 = .ok (.iload_n 1, 1) := by decide +kernel
theorem dX5_takeClause_10 : decode cX5_takeClause 10 = .ok (.iload_n 2, 1) := by decide +kernel
theorem dX5_takeClause_11 : decode cX5_takeClause 11 = .ok (.iastore, 1) := by decide +kernel
theorem dX5_takeClause_12 : decode cX5_takeClause 12 = .ok (.iload_n 2, 1) := by decide +kernel
theorem dX5_takeClause_13 : decode cX5_takeClause 13 = .ok (.tableswitch 59 0 4 #[35, 43, 51, 57, 57], 35) := by decide +kernel
theorem dX5_takeClause_48 : decode cX5_takeClause 48 = .ok (.aload_n 0, 1) := by decide +kernel
theorem dX5_takeClause_49 : decode cX5_takeClause 49 = .ok (.iload_n 1, 1) := by decide +kernel
theorem dX5_takeClause_50 : decode cX5_takeClause 50 = .ok (.iconst 1, 1) := by decide +kernel
theorem dX5_takeClause_51 : decode cX5_takeClause 51 = .ok (.iconst 0, 1) := by decide +kernel
theorem dX5_takeClause_52 : decode cX5_takeClause 52 = .ok (.invokevirtual 52, 3) := by decide +kernel
theorem dX5_takeClause_55 : decode cX5_takeClause 55 = .ok (.ireturn, 1) := by decide +kernel
theorem dX5_takeClause_56 : decode cX5_takeClause 56 = .ok (.aload_n 0, 1) := by decide +kernel
theorem dX5_takeClause_57 : decode cX5_takeClause 57 = .ok (.iload_n 1, 1) := by decide +kernel
theorem dX5_takeClause_58 : decode cX5_takeClause 58 = .ok (.iconst 3, 1) := by decide +kernel
theorem dX5_takeClause_59 : decode cX5_takeClause 59 = .ok (.iconst 1, 1) := by decide +kernel
theorem dX5_takeClause_60 : decode cX5_takeClause 60 = .ok (.invokevirtual 52, 3) := by decide +kernel
theorem dX5_takeClause_63 : decode cX5_takeClause 63 = .ok (.ireturn, 1) := by decide +kernel
theorem dX5_takeClause_64 : decode cX5_takeClause 64 = .ok (.aload_n 0, 1) := by decide +kernel
theorem dX5_takeClause_65 : decode cX5_takeClause 65 = .ok (.iload_n 1, 1) := by decide +kernel
theorem dX5_takeClause_66 : decode cX5_takeClause 66 = .ok (.invokevirtual 56, 3) := by decide +kernel
theorem dX5_takeClause_69 : decode cX5_takeClause 69 = .ok (.ireturn, 1) := by decide +kernel
theorem dX5_takeClause_70 : decode cX5_takeClause 70 = .ok (.iconst 1, 1) := by decide +kernel
theorem dX5_takeClause_71 : decode cX5_takeClause 71 = .ok (.ireturn, 1) := by decide +kernel
theorem dX5_takeClause_72 : decode cX5_takeClause 72 = .ok (.iconst 0, 1) := by decide +kernel
theorem dX5_takeClause_73 : decode cX5_takeClause 73 = .ok (.ireturn, 1) := by decide +kernel
theorem dX5_takeKind_0 : decode cX5_takeKind 0 = .ok (.aload_n 0, 1) := by decide +kernel
theorem dX5_takeKind_1 : decode cX5_takeKind 1 = .ok (.getfield 31, 3) := by decide +kernel
theorem dX5_takeKind_4 : decode cX5_takeKind 4 = .ok (.istore_n 1, 1) := by decide +kernel
theorem dX5_takeKind_5 : decode cX5_takeKind 5 = .ok (.iconst 0, 1) := by decide +kernel
theorem dX5_takeKind_6 : decode cX5_takeKind 6 = .ok (.istore_n 2, 1) := by decide +kernel
theorem dX5_takeKind_7 : decode cX5_takeKind 7 = .ok (.iload_n 2, 1) := by decide +kernel
theorem dX5_takeKind_8 : decode cX5_takeKind 8 = .ok (.iconst 5, 1) := by decide +kernel
theorem dX5_takeKind_9 : decode cX5_takeKind 9 = .ok (.if_icmp .ge 75, 3) := by decide +kernel
theorem dX5_takeKind_12 : decode cX5_takeKind 12 = .ok (.iload_n 2, 1) := by decide +kernel
theorem dX5_takeKind_13 : decode cX5_takeKind 13 = .ok (.invokestatic 59, 3) := by decide +kernel
theorem dX5_takeKind_16 : decode cX5_takeKind 16 = .ok (.astore_n 3, 1) := by decide +kernel
theorem dX5_takeKind_17 : decode cX5_takeKind 17 = .ok (.iconst 0, 1) := by decide +kernel
theorem dX5_takeKind_18 : decode cX5_takeKind 18 = .ok (.istore 4, 2) := by decide +kernel
theorem dX5_takeKind_20 : decode cX5_takeKind 20 = .ok (.iload 4, 2) := by decide +kernel
theorem dX5_takeKind_22 : decode cX5_takeKind 22 = .ok (.aload_n 3, 1) := by decide +kernel
theorem dX5_takeKind_23 : decode cX5_takeKind 23 = .ok (.invokevirtual 63, 3) := by decide +kernel
theorem dX5_takeKind_26 : decode cX5_takeKind 26 = .ok (.if_icmp .ge 26, 3) := by decide +kernel
theorem dX5_takeKind_29 : decode cX5_takeKind 29 = .ok (.aload_n 0, 1) := by decide +kernel
theorem dX5_takeKind_30 : decode cX5_takeKind 30 = .ok (.iload_n 1, 1) := by decide +kernel
theorem dX5_takeKind_31 : decode cX5_takeKind 31 = .ok (.iload 4, 2) := by decide +kernel
theorem dX5_takeKind_33 : decode cX5_takeKind 33 = .ok (.iadd, 1) := by decide +kernel
theorem dX5_takeKind_34 : decode cX5_takeKind 34 = .ok (.invokevirtual 67, 3) := by decide +kernel
theorem dX5_takeKind_37 : decode cX5_takeKind 37 = .ok (.aload_n 3, 1) := by decide +kernel
theorem dX5_takeKind_38 : decode cX5_takeKind 38 = .ok (.iload 4, 2) := by decide +kernel
theorem dX5_takeKind_40 : decode cX5_takeKind 40 = .ok (.invokevirtual 71, 3) := by decide +kernel
theorem dX5_takeKind_43 : decode cX5_takeKind 43 = .ok (.if_icmp .ne 9, 3) := by decide +kernel
theorem dX5_takeKind_46 : decode cX5_takeKind 46 = .ok (.iinc 4 1, 3) := by decide +kernel
theorem dX5_takeKind_49 : decode cX5_takeKind 49 = .ok (.goto (-29), 3) := by decide +kernel
theorem dX5_takeKind_52 : decode cX5_takeKind 52 = .ok (.aload_n 0, 1) := by decide +kernel
theorem dX5_takeKind_53 : decode cX5_takeKind 53 = .ok (.aload_n 0, 1) := by decide +kernel
theorem dX5_takeKind_54 : decode cX5_takeKind 54 = .ok (.getfield 31, 3) := by decide +kernel
theorem dX5_takeKind_57 : decode cX5_takeKind 57 = .ok (.iload_n 1, 1) := by decide +kernel
theorem dX5_takeKind_58 : decode cX5_takeKind 58 = .ok (.iload 4, 2) := by decide +kernel
theorem dX5_takeKind_60 : decode cX5_takeKind 60 = .ok (.iadd, 1) := by decide +kernel
theorem dX5_takeKind_61 : decode cX5_takeKind 61 = .ok (.invokestatic 75, 3) := by decide +kernel
theorem dX5_takeKind_64 : decode cX5_takeKind 64 = .ok (.putfield 31, 3) := by decide +kernel
theorem dX5_takeKind_67 : decode cX5_takeKind 67 = .ok (.iload 4, 2) := by decide +kernel
theorem dX5_takeKind_69 : decode cX5_takeKind 69 = .ok (.aload_n 3, 1) := by decide +kernel
theorem dX5_takeKind_70 : decode cX5_takeKind 70 = .ok (.invokevirtual 63, 3) := by decide +kernel
theorem dX5_takeKind_73 : decode cX5_takeKind 73 = .ok (.if_icmp .ne 5, 3) := by decide +kernel
theorem dX5_takeKind_76 : decode cX5_takeKind 76 = .ok (.iload_n 2, 1) := by decide +kernel
theorem dX5_takeKind_77 : decode cX5_takeKind 77 = .ok (.ireturn, 1) := by decide +kernel
theorem dX5_takeKind_78 : decode cX5_takeKind 78 = .ok (.iinc 2 1, 3) := by decide +kernel
theorem dX5_takeKind_81 : decode cX5_takeKind 81 = .ok (.goto (-74), 3) := by decide +kernel
theorem dX5_takeKind_84 : decode cX5_takeKind 84 = .ok (.iconst 5, 1) := by decide +kernel
theorem dX5_takeKind_85 : decode cX5_takeKind 85 = .ok (.ireturn, 1) := by decide +kernel
theorem dX5_wordOf_0 : decode cX5_wordOf 0 = .ok (.iload_n 0, 1) := by decide +kernel
theorem dX5_wordOf_1 : decode cX5_wordOf 1 = .ok (.tableswitch 43 0 3 #[31, 34, 37, 40], 31) := by decide +kernel
theorem dX5_wordOf_32 : decode cX5_wordOf 32 = .ok (.ldc 81, 2) := by decide +kernel
theorem dX5_wordOf_34 : decode cX5_wordOf 34 = .ok (.areturn, 1) := by decide +kernel
theorem dX5_wordOf_35 : decode cX5_wordOf 35 = .ok (.ldc 83, 2) := by decide +kernel
theorem dX5_wordOf_37 : decode cX5_wordOf 37 = .ok (.areturn, 1) := by decide +kernel
theorem dX5_wordOf_38 : decode cX5_wordOf 38 = .ok (.ldc 85, 2) := by decide +kernel
theorem dX5_wordOf_40 : decode cX5_wordOf 40 = .ok (.areturn, 1) := by decide +kernel
theorem dX5_wordOf_41 : decode cX5_wordOf 41 = .ok (.ldc 87, 2) := by decide +kernel
theorem dX5_wordOf_43 : decode cX5_wordOf 43 = .ok (.areturn, 1) := by decide +kernel
theorem dX5_wordOf_44 : decode cX5_wordOf 44 = .ok (.ldc 89, 2) := by decide +kernel
theorem dX5_wordOf_46 : decode cX5_wordOf 46 = .ok (.areturn, 1) := by decide +kernel
theorem dX5_takeTwo_0 : decode cX5_takeTwo 0 = .ok (.aload_n 0, 1) := by decide +kernel
theorem dX5_takeTwo_1 : decode cX5_takeTwo 1 = .ok (.bipush 32, 2) := by decide +kernel
theorem dX5_takeTwo_3 : decode cX5_takeTwo 3 = .ok (.invokevirtual 45, 3) := by decide +kernel
theorem dX5_takeTwo_6 : decode cX5_takeTwo 6 = .ok (.ifCond .eq 12, 3) := by decide +kernel
theorem dX5_takeTwo_9 : decode cX5_takeTwo 9 = .ok (.aload_n 0, 1) := by decide +kernel
theorem dX5_takeTwo_10 : decode cX5_takeTwo 10 = .ok (.iload_n 2, 1) := by decide +kernel
theorem dX5_takeTwo_11 : decode cX5_takeTwo 11 = .ok (.iload_n 3, 1) := by decide +kernel
theorem dX5_takeTwo_12 : decode cX5_takeTwo 12 = .ok (.invokevirtual 91, 3) := by decide +kernel
theorem dX5_takeTwo_15 : decode cX5_takeTwo 15 = .ok (.ifCond .ne 5, 3) := by decide +kernel
theorem dX5_takeTwo_18 : decode cX5_takeTwo 18 = .ok (.iconst 0, 1) := by decide +kernel
theorem dX5_takeTwo_19 : decode cX5_takeTwo 19 = .ok (.ireturn, 1) := by decide +kernel
theorem dX5_takeTwo_20 : decode cX5_takeTwo 20 = .ok (.aload_n 0, 1) := by decide +kernel
theorem dX5_takeTwo_21 : decode cX5_takeTwo 21 = .ok (.getfield 22, 3) := by decide +kernel
theorem dX5_takeTwo_24 : decode cX5_takeTwo 24 = .ok (.iload_n 1, 1) := by decide +kernel
theorem dX5_takeTwo_25 : decode cX5_takeTwo 25 = .ok (.aload_n 0, 1) := by decide +kernel
theorem dX5_takeTwo_26 : decode cX5_takeTwo 26 = .ok (.getfield 34, 3) := by decide +kernel
theorem dX5_takeTwo_29 : decode cX5_takeTwo 29 = .ok (.iastore, 1) := by decide +kernel
theorem dX5_takeTwo_30 : decode cX5_takeTwo 30 = .ok (.aload_n 0, 1) := by decide +kernel
theorem dX5_takeTwo_31 : decode cX5_takeTwo 31 = .ok (.bipush 32, 2) := by decide +kernel
theorem dX5_takeTwo_33 : decode cX5_takeTwo 33 = .ok (.invokevirtual 45, 3) := by decide +kernel
theorem dX5_takeTwo_36 : decode cX5_takeTwo 36 = .ok (.ifCond .eq 12, 3) := by decide +kernel
theorem dX5_takeTwo_39 : decode cX5_takeTwo 39 = .ok (.aload_n 0, 1) := by decide +kernel
theorem dX5_takeTwo_40 : decode cX5_takeTwo 40 = .ok (.iload_n 2, 1) := by decide +kernel
theorem dX5_takeTwo_41 : decode cX5_takeTwo 41 = .ok (.iload_n 3, 1) := by decide +kernel
theorem dX5_takeTwo_42 : decode cX5_takeTwo 42 = .ok (.invokevirtual 91, 3) := by decide +kernel
theorem dX5_takeTwo_45 : decode cX5_takeTwo 45 = .ok (.ifCond .ne 5, 3) := by decide +kernel
theorem dX5_takeTwo_48 : decode cX5_takeTwo 48 = .ok (.iconst 0, 1) := by decide +kernel
theorem dX5_takeTwo_49 : decode cX5_takeTwo 49 = .ok (.ireturn, 1) := by decide +kernel
theorem dX5_takeTwo_50 : decode cX5_takeTwo 50 = .ok (.aload_n 0, 1) := by decide +kernel
theorem dX5_takeTwo_51 : decode cX5_takeTwo 51 = .ok (.getfield 25, 3) := by decide +kernel
theorem dX5_takeTwo_54 : decode cX5_takeTwo 54 = .ok (.iload_n 1, 1) := by decide +kernel
theorem dX5_takeTwo_55 : decode cX5_takeTwo 55 = .ok (.aload_n 0, 1) := by decide +kernel
theorem dX5_takeTwo_56 : decode cX5_takeTwo 56 = .ok (.getfield 34, 3) := by decide +kernel
theorem dX5_takeTwo_59 : decode cX5_takeTwo 59 = .ok (.iastore, 1) := by decide +kernel
theorem dX5_takeTwo_60 : decode cX5_takeTwo 60 = .ok (.iconst 1, 1) := by decide +kernel
theorem dX5_takeTwo_61 : decode cX5_takeTwo 61 = .ok (.ireturn, 1) := by decide +kernel
theorem dX5_takeNumber_0 : decode cX5_takeNumber 0 = .ok (.iload_n 2, 1) := by decide +kernel
theorem dX5_takeNumber_1 : decode cX5_takeNumber 1 = .ok (.ifCond .eq 16, 3) := by decide +kernel
theorem dX5_takeNumber_4 : decode cX5_takeNumber 4 = .ok (.aload_n 0, 1) := by decide +kernel
theorem dX5_takeNumber_5 : decode cX5_takeNumber 5 = .ok (.bipush 45, 2) := by decide +kernel
theorem dX5_takeNumber_7 : decode cX5_takeNumber 7 = .ok (.invokevirtual 45, 3) := by decide +kernel
theorem dX5_takeNumber_10 : decode cX5_takeNumber 10 = .ok (.ifCond .eq 7, 3) := by decide +kernel
theorem dX5_takeNumber_13 : decode cX5_takeNumber 13 = .ok (.iconst 1, 1) := by decide +kernel
theorem dX5_takeNumber_14 : decode cX5_takeNumber 14 = .ok (.goto 4, 3) := by decide +kernel
theorem dX5_takeNumber_17 : decode cX5_takeNumber 17 = .ok (.iconst 0, 1) := by decide +kernel
theorem dX5_takeNumber_18 : decode cX5_takeNumber 18 = .ok (.istore_n 3, 1) := by decide +kernel
theorem dX5_takeNumber_19 : decode cX5_takeNumber 19 = .ok (.iconst 0, 1) := by decide +kernel
theorem dX5_takeNumber_20 : decode cX5_takeNumber 20 = .ok (.istore 4, 2) := by decide +kernel
theorem dX5_takeNumber_22 : decode cX5_takeNumber 22 = .ok (.iconst 0, 1) := by decide +kernel
theorem dX5_takeNumber_23 : decode cX5_takeNumber 23 = .ok (.istore 5, 2) := by decide +kernel
theorem dX5_takeNumber_25 : decode cX5_takeNumber 25 = .ok (.iload 5, 2) := by decide +kernel
theorem dX5_takeNumber_27 : decode cX5_takeNumber 27 = .ok (.iload_n 1, 1) := by decide +kernel
theorem dX5_takeNumber_28 : decode cX5_takeNumber 28 = .ok (.if_icmp .ge 64, 3) := by decide +kernel
theorem dX5_takeNumber_31 : decode cX5_takeNumber 31 = .ok (.aload_n 0, 1) := by decide +kernel
theorem dX5_takeNumber_32 : decode cX5_takeNumber 32 = .ok (.aload_n 0, 1) := by decide +kernel
theorem dX5_takeNumber_33 : decode cX5_takeNumber 33 = .ok (.getfield 31, 3) := by decide +kernel
theorem dX5_takeNumber_36 : decode cX5_takeNumber 36 = .ok (.invokevirtual 67, 3) := by decide +kernel
theorem dX5_takeNumber_39 : decode cX5_takeNumber 39 = .ok (.bipush 48, 2) := by decide +kernel
theorem dX5_takeNumber_41 : decode cX5_takeNumber 41 = .ok (.if_icmp .lt 51, 3) := by decide +kernel
theorem dX5_takeNumber_44 : decode cX5_takeNumber 44 = .ok (.aload_n 0, 1) := by decide +kernel
theorem dX5_takeNumber_45 : decode cX5_takeNumber 45 = .ok (.aload_n 0, 1) := by decide +kernel
theorem dX5_takeNumber_46 : decode cX5_takeNumber 46 = .ok (.getfield 31, 3) := by decide +kernel
theorem dX5_takeNumber_49 : decode cX5_takeNumber 49 = .ok (.invokevirtual 67, 3) := by decide +kernel
theorem dX5_takeNumber_52 : decode cX5_takeNumber 52 = .ok (.bipush 57, 2) := by decide +kernel
theorem dX5_takeNumber_54 : decode cX5_takeNumber 54 = .ok (.if_icmp .gt 38, 3) := by decide +kernel
theorem dX5_takeNumber_57 : decode cX5_takeNumber 57 = .ok (.bipush 10, 2) := by decide +kernel
theorem dX5_takeNumber_59 : decode cX5_takeNumber 59 = .ok (.iload 4, 2) := by decide +kernel
theorem dX5_takeNumber_61 : decode cX5_takeNumber 61 = .ok (.imul, 1) := by decide +kernel
theorem dX5_takeNumber_62 : decode cX5_takeNumber 62 = .ok (.aload_n 0, 1) := by decide +kernel
theorem dX5_takeNumber_63 : decode cX5_takeNumber 63 = .ok (.aload_n 0, 1) := by decide +kernel
theorem dX5_takeNumber_64 : decode cX5_takeNumber 64 = .ok (.getfield 31, 3) := by decide +kernel
theorem dX5_takeNumber_67 : decode cX5_takeNumber 67 = .ok (.invokevirtual 67, 3) := by decide +kernel
theorem dX5_takeNumber_70 : decode cX5_takeNumber 70 = .ok (.iadd, 1) := by decide +kernel
theorem dX5_takeNumber_71 : decode cX5_takeNumber 71 = .ok (.bipush 48, 2) := by decide +kernel
theorem dX5_takeNumber_73 : decode cX5_takeNumber 73 = .ok (.isub, 1) := by decide +kernel
theorem dX5_takeNumber_74 : decode cX5_takeNumber 74 = .ok (.istore 4, 2) := by decide +kernel
theorem dX5_takeNumber_76 : decode cX5_takeNumber 76 = .ok (.aload_n 0, 1) := by decide +kernel
theorem dX5_takeNumber_77 : decode cX5_takeNumber 77 = .ok (.dup, 1) := by decide +kernel
theorem dX5_takeNumber_78 : decode cX5_takeNumber 78 = .ok (.getfield 31, 3) := by decide +kernel
theorem dX5_takeNumber_81 : decode cX5_takeNumber 81 = .ok (.iconst 1, 1) := by decide +kernel
theorem dX5_takeNumber_82 : decode cX5_takeNumber 82 = .ok (.iadd, 1) := by decide +kernel
theorem dX5_takeNumber_83 : decode cX5_takeNumber 83 = .ok (.putfield 31, 3) := by decide +kernel
theorem dX5_takeNumber_86 : decode cX5_takeNumber 86 = .ok (.iinc 5 1, 3) := by decide +kernel
theorem dX5_takeNumber_89 : decode cX5_takeNumber 89 = .ok (.goto (-64), 3) := by decide +kernel
theorem dX5_takeNumber_92 : decode cX5_takeNumber 92 = .ok (.aload_n 0, 1) := by decide +kernel
theorem dX5_takeNumber_93 : decode cX5_takeNumber 93 = .ok (.iload_n 3, 1) := by decide +kernel
theorem dX5_takeNumber_94 : decode cX5_takeNumber 94 = .ok (.ifCond .eq 9, 3) := by decide +kernel
theorem dX5_takeNumber_97 : decode cX5_takeNumber 97 = .ok (.iload 4, 2) := by decide +kernel
theorem dX5_takeNumber_99 : decode cX5_takeNumber 99 = .ok (.ineg, 1) := by decide +kernel
theorem dX5_takeNumber_100 : decode cX5_takeNumber 100 = .ok (.goto 5, 3) := by decide +kernel
theorem dX5_takeNumber_103 : decode cX5_takeNumber 103 = .ok (.iload 4, 2) := by decide +kernel
theorem dX5_takeNumber_105 : decode cX5_takeNumber 105 = .ok (.putfield 34, 3) := by decide +kernel
theorem dX5_takeNumber_108 : decode cX5_takeNumber 108 = .ok (.iload 5, 2) := by decide +kernel
theorem dX5_takeNumber_110 : decode cX5_takeNumber 110 = .ok (.ifCond .le 7, 3) := by decide +kernel
theorem dX5_takeNumber_113 : decode cX5_takeNumber 113 = .ok (.iconst 1, 1) := by decide +kernel
theorem dX5_takeNumber_114 : decode cX5_takeNumber 114 = .ok (.goto 4, 3) := by decide +kernel
theorem dX5_takeNumber_117 : decode cX5_takeNumber 117 = .ok (.iconst 0, 1) := by decide +kernel
theorem dX5_takeNumber_118 : decode cX5_takeNumber 118 = .ok (.ireturn, 1) := by decide +kernel
theorem dX5_takeSigns_0 : decode cX5_takeSigns 0 = .ok (.aload_n 0, 1) := by decide +kernel
theorem dX5_takeSigns_1 : decode cX5_takeSigns 1 = .ok (.bipush 32, 2) := by decide +kernel
theorem dX5_takeSigns_3 : decode cX5_takeSigns 3 = .ok (.invokevirtual 45, 3) := by decide +kernel
theorem dX5_takeSigns_6 : decode cX5_takeSigns 6 = .ok (.ifCond .ne 5, 3) := by decide +kernel
theorem dX5_takeSigns_9 : decode cX5_takeSigns 9 = .ok (.iconst 0, 1) := by decide +kernel
theorem dX5_takeSigns_10 : decode cX5_takeSigns 10 = .ok (.ireturn, 1) := by decide +kernel
theorem dX5_takeSigns_11 : decode cX5_takeSigns 11 = .ok (.aload_n 0, 1) := by decide +kernel
theorem dX5_takeSigns_12 : decode cX5_takeSigns 12 = .ok (.getfield 22, 3) := by decide +kernel
theorem dX5_takeSigns_15 : decode cX5_takeSigns 15 = .ok (.iload_n 1, 1) := by decide +kernel
theorem dX5_takeSigns_16 : decode cX5_takeSigns 16 = .ok (.aload_n 0, 1) := by decide +kernel
theorem dX5_takeSigns_17 : decode cX5_takeSigns 17 = .ok (.getfield 31, 3) := by decide +kernel
theorem dX5_takeSigns_20 : decode cX5_takeSigns 20 = .ok (.iastore, 1) := by decide +kernel
theorem dX5_takeSigns_21 : decode cX5_takeSigns 21 = .ok (.iconst 0, 1) := by decide +kernel
theorem dX5_takeSigns_22 : decode cX5_takeSigns 22 = .ok (.istore_n 2, 1) := by decide +kernel
theorem dX5_takeSigns_23 : decode cX5_takeSigns 23 = .ok (.iload_n 2, 1) := by decide +kernel
theorem dX5_takeSigns_24 : decode cX5_takeSigns 24 = .ok (.bipush 20, 2) := by decide +kernel
theorem dX5_takeSigns_26 : decode cX5_takeSigns 26 = .ok (.if_icmp .ge 27, 3) := by decide +kernel
theorem dX5_takeSigns_29 : decode cX5_takeSigns 29 = .ok (.aload_n 0, 1) := by decide +kernel
theorem dX5_takeSigns_30 : decode cX5_takeSigns 30 = .ok (.bipush 48, 2) := by decide +kernel
theorem dX5_takeSigns_32 : decode cX5_takeSigns 32 = .ok (.invokevirtual 45, 3) := by decide +kernel
theorem dX5_takeSigns_35 : decode cX5_takeSigns 35 = .ok (.ifCond .ne 12, 3) := by decide +kernel
theorem dX5_takeSigns_38 : decode cX5_takeSigns 38 = .ok (.aload_n 0, 1) := by decide +kernel
theorem dX5_takeSigns_39 : decode cX5_takeSigns 39 = .ok (.bipush 49, 2) := by decide +kernel
theorem dX5_takeSigns_41 : decode cX5_takeSigns 41 = .ok (.invokevirtual 45, 3) := by decide +kernel
theorem dX5_takeSigns_44 : decode cX5_takeSigns 44 = .ok (.ifCond .eq 9, 3) := by decide +kernel
theorem dX5_takeSigns_47 : decode cX5_takeSigns 47 = .ok (.iinc 2 1, 3) := by decide +kernel
theorem dX5_takeSigns_50 : decode cX5_takeSigns 50 = .ok (.goto (-27), 3) := by decide +kernel
theorem dX5_takeSigns_53 : decode cX5_takeSigns 53 = .ok (.aload_n 0, 1) := by decide +kernel
theorem dX5_takeSigns_54 : decode cX5_takeSigns 54 = .ok (.getfield 25, 3) := by decide +kernel
theorem dX5_takeSigns_57 : decode cX5_takeSigns 57 = .ok (.iload_n 1, 1) := by decide +kernel
theorem dX5_takeSigns_58 : decode cX5_takeSigns 58 = .ok (.iload_n 2, 1) := by decide +kernel
theorem dX5_takeSigns_59 : decode cX5_takeSigns 59 = .ok (.iastore, 1) := by decide +kernel
theorem dX5_takeSigns_60 : decode cX5_takeSigns 60 = .ok (.iload_n 2, 1) := by decide +kernel
theorem dX5_takeSigns_61 : decode cX5_takeSigns 61 = .ok (.ifCond .le 7, 3) := by decide +kernel
theorem dX5_takeSigns_64 : decode cX5_takeSigns 64 = .ok (.iconst 1, 1) := by decide +kernel
theorem dX5_takeSigns_65 : decode cX5_takeSigns 65 = .ok (.goto 4, 3) := by decide +kernel
theorem dX5_takeSigns_68 : decode cX5_takeSigns 68 = .ok (.iconst 0, 1) := by decide +kernel
theorem dX5_takeSigns_69 : decode cX5_takeSigns 69 = .ok (.ireturn, 1) := by decide +kernel
theorem dX5_takeByte_0 : decode cX5_takeByte 0 = .ok (.aload_n 0, 1) := by decide +kernel
theorem dX5_takeByte_1 : decode cX5_takeByte 1 = .ok (.aload_n 0, 1) := by decide +kernel
theorem dX5_takeByte_2 : decode cX5_takeByte 2 = .ok (.getfield 31, 3) := by decide +kernel
theorem dX5_takeByte_5 : decode cX5_takeByte 5 = .ok (.invokevirtual 67, 3) := by decide +kernel
theorem dX5_takeByte_8 : decode cX5_takeByte 8 = .ok (.iload_n 1, 1) := by decide +kernel
theorem dX5_takeByte_9 : decode cX5_takeByte 9 = .ok (.if_icmp .eq 5, 3) := by decide +kernel
theorem dX5_takeByte_12 : decode cX5_takeByte 12 = .ok (.iconst 0, 1) := by decide +kernel
theorem dX5_takeByte_13 : decode cX5_takeByte 13 = .ok (.ireturn, 1) := by decide +kernel
theorem dX5_takeByte_14 : decode cX5_takeByte 14 = .ok (.aload_n 0, 1) := by decide +kernel
theorem dX5_takeByte_15 : decode cX5_takeByte 15 = .ok (.dup, 1) := by decide +kernel
theorem dX5_takeByte_16 : decode cX5_takeByte 16 = .ok (.getfield 31, 3) := by decide +kernel
theorem dX5_takeByte_19 : decode cX5_takeByte 19 = .ok (.iconst 1, 1) := by decide +kernel
theorem dX5_takeByte_20 : decode cX5_takeByte 20 = .ok (.iadd, 1) := by decide +kernel
theorem dX5_takeByte_21 : decode cX5_takeByte 21 = .ok (.putfield 31, 3) := by decide +kernel
theorem dX5_takeByte_24 : decode cX5_takeByte 24 = .ok (.iconst 1, 1) := by decide +kernel
theorem dX5_takeByte_25 : decode cX5_takeByte 25 = .ok (.ireturn, 1) := by decide +kernel
theorem dX6_init_0 : decode cX6_init 0 = .ok (.aload_n 0, 1) := by decide +kernel
theorem dX6_init_1 : decode cX6_init 1 = .ok (.invokespecial 1, 3) := by decide +kernel
theorem dX6_init_4 : decode cX6_init 4 = .ok (.aload_n 0, 1) := by decide +kernel
theorem dX6_init_5 : decode cX6_init 5 = .ok (.new 7, 3) := by decide +kernel
theorem dX6_init_8 : decode cX6_init 8 = .ok (.dup, 1) := by decide +kernel
theorem dX6_init_9 : decode cX6_init 9 = .ok (.invokespecial 9, 3) := by decide +kernel
theorem dX6_init_12 : decode cX6_init 12 = .ok (.putfield 10, 3) := by decide +kernel
theorem dX6_init_15 : decode cX6_init 15 = .ok (.aload_n 0, 1) := by decide +kernel
theorem dX6_init_16 : decode cX6_init 16 = .ok (.new 16, 3) := by decide +kernel
theorem dX6_init_19 : decode cX6_init 19 = .ok (.dup, 1) := by decide +kernel
theorem dX6_init_20 : decode cX6_init 20 = .ok (.bipush 8, 2) := by decide +kernel
theorem dX6_init_22 : decode cX6_init 22 = .ok (.invokespecial 18, 3) := by decide +kernel
theorem dX6_init_25 : decode cX6_init 25 = .ok (.putfield 21, 3) := by decide +kernel
theorem dX6_init_28 : decode cX6_init 28 = .ok (.aload_n 0, 1) := by decide +kernel
theorem dX6_init_29 : decode cX6_init 29 = .ok (.new 16, 3) := by decide +kernel
theorem dX6_init_32 : decode cX6_init 32 = .ok (.dup, 1) := by decide +kernel
theorem dX6_init_33 : decode cX6_init 33 = .ok (.iconst 4, 1) := by decide +kernel
theorem dX6_init_34 : decode cX6_init 34 = .ok (.invokespecial 18, 3) := by decide +kernel
theorem dX6_init_37 : decode cX6_init 37 = .ok (.putfield 25, 3) := by decide +kernel
theorem dX6_init_40 : decode cX6_init 40 = .ok (.aload_n 0, 1) := by decide +kernel
theorem dX6_init_41 : decode cX6_init 41 = .ok (.new 16, 3) := by decide +kernel
theorem dX6_init_44 : decode cX6_init 44 = .ok (.dup, 1) := by decide +kernel
theorem dX6_init_45 : decode cX6_init 45 = .ok (.bipush 8, 2) := by decide +kernel
theorem dX6_init_47 : decode cX6_init 47 = .ok (.invokespecial 18, 3) := by decide +kernel
theorem dX6_init_50 : decode cX6_init 50 = .ok (.putfield 28, 3) := by decide +kernel
theorem dX6_init_53 : decode cX6_init 53 = .ok (.aload_n 0, 1) := by decide +kernel
theorem dX6_init_54 : decode cX6_init 54 = .ok (.new 16, 3) := by decide +kernel
theorem dX6_init_57 : decode cX6_init 57 = .ok (.dup, 1) := by decide +kernel
theorem dX6_init_58 : decode cX6_init 58 = .ok (.bipush 8, 2) := by decide +kernel
theorem dX6_init_60 : decode cX6_init 60 = .ok (.invokespecial 18, 3) := by decide +kernel
theorem dX6_init_63 : decode cX6_init 63 = .ok (.putfield 31, 3) := by decide +kernel
theorem dX6_init_66 : decode cX6_init 66 = .ok (.return_, 1) := by decide +kernel
theorem dX6_copyFrom_0 : decode cX6_copyFrom 0 = .ok (.aload_n 0, 1) := by decide +kernel
theorem dX6_copyFrom_1 : decode cX6_copyFrom 1 = .ok (.getfield 10, 3) := by decide +kernel
theorem dX6_copyFrom_4 : decode cX6_copyFrom 4 = .ok (.aload_n 1, 1) := by decide +kernel
theorem dX6_copyFrom_5 : decode cX6_copyFrom 5 = .ok (.getfield 10, 3) := by decide +kernel
theorem dX6_copyFrom_8 : decode cX6_copyFrom 8 = .ok (.invokevirtual 34, 3) := by decide +kernel
theorem dX6_copyFrom_11 : decode cX6_copyFrom 11 = .ok (.aload_n 0, 1) := by decide +kernel
theorem dX6_copyFrom_12 : decode cX6_copyFrom 12 = .ok (.getfield 21, 3) := by decide +kernel
theorem dX6_copyFrom_15 : decode cX6_copyFrom 15 = .ok (.aload_n 1, 1) := by decide +kernel
theorem dX6_copyFrom_16 : decode cX6_copyFrom 16 = .ok (.getfield 21, 3) := by decide +kernel
theorem dX6_copyFrom_19 : decode cX6_copyFrom 19 = .ok (.invokevirtual 38, 3) := by decide +kernel
theorem dX6_copyFrom_22 : decode cX6_copyFrom 22 = .ok (.aload_n 0, 1) := by decide +kernel
theorem dX6_copyFrom_23 : decode cX6_copyFrom 23 = .ok (.getfield 25, 3) := by decide +kernel
theorem dX6_copyFrom_26 : decode cX6_copyFrom 26 = .ok (.aload_n 1, 1) := by decide +kernel
theorem dX6_copyFrom_27 : decode cX6_copyFrom 27 = .ok (.getfield 25, 3) := by decide +kernel
theorem dX6_copyFrom_30 : decode cX6_copyFrom 30 = .ok (.invokevirtual 38, 3) := by decide +kernel
theorem dX6_copyFrom_33 : decode cX6_copyFrom 33 = .ok (.aload_n 0, 1) := by decide +kernel
theorem dX6_copyFrom_34 : decode cX6_copyFrom 34 = .ok (.getfield 28, 3) := by decide +kernel
theorem dX6_copyFrom_37 : decode cX6_copyFrom 37 = .ok (.aload_n 1, 1) := by decide +kernel
theorem dX6_copyFrom_38 : decode cX6_copyFrom 38 = .ok (.getfield 28, 3) := by decide +kernel
theorem dX6_copyFrom_41 : decode cX6_copyFrom 41 = .ok (.invokevirtual 38, 3) := by decide +kernel
theorem dX6_copyFrom_44 : decode cX6_copyFrom 44 = .ok (.aload_n 0, 1) := by decide +kernel
theorem dX6_copyFrom_45 : decode cX6_copyFrom 45 = .ok (.getfield 31, 3) := by decide +kernel
theorem dX6_copyFrom_48 : decode cX6_copyFrom 48 = .ok (.aload_n 1, 1) := by decide +kernel
theorem dX6_copyFrom_49 : decode cX6_copyFrom 49 = .ok (.getfield 31, 3) := by decide +kernel
theorem dX6_copyFrom_52 : decode cX6_copyFrom 52 = .ok (.invokevirtual 38, 3) := by decide +kernel
theorem dX6_copyFrom_55 : decode cX6_copyFrom 55 = .ok (.return_, 1) := by decide +kernel
theorem dX7_init_0 : decode cX7_init 0 = .ok (.aload_n 0, 1) := by decide +kernel
theorem dX7_init_1 : decode cX7_init 1 = .ok (.invokespecial 3, 3) := by decide +kernel
theorem dX7_init_4 : decode cX7_init 4 = .ok (.aload_n 0, 1) := by decide +kernel
theorem dX7_init_5 : decode cX7_init 5 = .ok (.bipush 6, 2) := by decide +kernel
theorem dX7_init_7 : decode cX7_init 7 = .ok (.newarray .int, 2) := by decide +kernel
theorem dX7_init_9 : decode cX7_init 9 = .ok (.dup, 1) := by decide +kernel
theorem dX7_init_10 : decode cX7_init 10 = .ok (.iconst 0, 1) := by decide +kernel
theorem dX7_init_11 : decode cX7_init 11 = .ok (.iconst (-1), 1) := by decide +kernel
theorem dX7_init_12 : decode cX7_init 12 = .ok (.iastore, 1) := by decide +kernel
theorem dX7_init_13 : decode cX7_init 13 = .ok (.dup, 1) := by decide +kernel
theorem dX7_init_14 : decode cX7_init 14 = .ok (.iconst 1, 1) := by decide +kernel
theorem dX7_init_15 : decode cX7_init 15 = .ok (.iconst (-1), 1) := by decide +kernel
theorem dX7_init_16 : decode cX7_init 16 = .ok (.iastore, 1) := by decide +kernel
theorem dX7_init_17 : decode cX7_init 17 = .ok (.dup, 1) := by decide +kernel
theorem dX7_init_18 : decode cX7_init 18 = .ok (.iconst 2, 1) := by decide +kernel
theorem dX7_init_19 : decode cX7_init 19 = .ok (.iconst (-1), 1) := by decide +kernel
theorem dX7_init_20 : decode cX7_init 20 = .ok (.iastore, 1) := by decide +kernel
theorem dX7_init_21 : decode cX7_init 21 = .ok (.dup, 1) := by decide +kernel
theorem dX7_init_22 : decode cX7_init 22 = .ok (.iconst 3, 1) := by decide +kernel
theorem dX7_init_23 : decode cX7_init 23 = .ok (.iconst (-1), 1) := by decide +kernel
theorem dX7_init_24 : decode cX7_init 24 = .ok (.iastore, 1) := by decide +kernel
theorem dX7_init_25 : decode cX7_init 25 = .ok (.dup, 1) := by decide +kernel
theorem dX7_init_26 : decode cX7_init 26 = .ok (.iconst 4, 1) := by decide +kernel
theorem dX7_init_27 : decode cX7_init 27 = .ok (.iconst (-1), 1) := by decide +kernel
theorem dX7_init_28 : decode cX7_init 28 = .ok (.iastore, 1) := by decide +kernel
theorem dX7_init_29 : decode cX7_init 29 = .ok (.dup, 1) := by decide +kernel
theorem dX7_init_30 : decode cX7_init 30 = .ok (.iconst 5, 1) := by decide +kernel
theorem dX7_init_31 : decode cX7_init 31 = .ok (.iconst (-1), 1) := by decide +kernel
theorem dX7_init_32 : decode cX7_init 32 = .ok (.iastore, 1) := by decide +kernel
theorem dX7_init_33 : decode cX7_init 33 = .ok (.putfield 11, 3) := by decide +kernel
theorem dX7_init_36 : decode cX7_init 36 = .ok (.aload_n 0, 1) := by decide +kernel
theorem dX7_init_37 : decode cX7_init 37 = .ok (.bipush 6, 2) := by decide +kernel
theorem dX7_init_39 : decode cX7_init 39 = .ok (.newarray .int, 2) := by decide +kernel
theorem dX7_init_41 : decode cX7_init 41 = .ok (.putfield 15, 3) := by decide +kernel
theorem dX7_init_44 : decode cX7_init 44 = .ok (.aload_n 0, 1) := by decide +kernel
theorem dX7_init_45 : decode cX7_init 45 = .ok (.sipush 360, 3) := by decide +kernel
theorem dX7_init_48 : decode cX7_init 48 = .ok (.newarray .long, 2) := by decide +kernel
theorem dX7_init_50 : decode cX7_init 50 = .ok (.putfield 18, 3) := by decide +kernel
theorem dX7_init_53 : decode cX7_init 53 = .ok (.return_, 1) := by decide +kernel
theorem dX7_isTape_0 : decode cX7_isTape 0 = .ok (.iload_n 1, 1) := by decide +kernel
theorem dX7_isTape_1 : decode cX7_isTape 1 = .ok (.iconst 0, 1) := by decide +kernel
theorem dX7_isTape_2 : decode cX7_isTape 2 = .ok (.iconst 5, 1) := by decide +kernel
theorem dX7_isTape_3 : decode cX7_isTape 3 = .ok (.invokestatic 22, 3) := by decide +kernel
theorem dX7_isTape_6 : decode cX7_isTape 6 = .ok (.ireturn, 1) := by decide +kernel
theorem dX7_holds_0 : decode cX7_holds 0 = .ok (.aload_n 0, 1) := by decide +kernel
theorem dX7_holds_1 : decode cX7_holds 1 = .ok (.iload_n 1, 1) := by decide +kernel
theorem dX7_holds_2 : decode cX7_holds 2 = .ok (.invokevirtual 26, 3) := by decide +kernel
theorem dX7_holds_5 : decode cX7_holds 5 = .ok (.iconst (-1), 1) := by decide +kernel
theorem dX7_holds_6 : decode cX7_holds 6 = .ok (.if_icmp .eq 7, 3) := by decide +kernel
theorem dX7_holds_9 : decode cX7_holds 9 = .ok (.iconst 1, 1) := by decide +kernel
theorem dX7_holds_10 : decode cX7_holds 10 = .ok (.goto 4, 3) := by decide +kernel
theorem dX7_holds_13 : decode cX7_holds 13 = .ok (.iconst 0, 1) := by decide +kernel
theorem dX7_holds_14 : decode cX7_holds 14 = .ok (.ireturn, 1) := by decide +kernel
theorem dX7_sortAt_0 : decode cX7_sortAt 0 = .ok (.aload_n 0, 1) := by decide +kernel
theorem dX7_sortAt_1 : decode cX7_sortAt 1 = .ok (.iload_n 1, 1) := by decide +kernel
theorem dX7_sortAt_2 : decode cX7_sortAt 2 = .ok (.invokevirtual 30, 3) := by decide +kernel
theorem dX7_sortAt_5 : decode cX7_sortAt 5 = .ok (.ifCond .eq 12, 3) := by decide +kernel
theorem dX7_sortAt_8 : decode cX7_sortAt 8 = .ok (.aload_n 0, 1) := by decide +kernel
theorem dX7_sortAt_9 : decode cX7_sortAt 9 = .ok (.getfield 11, 3) := by decide +kernel
theorem dX7_sortAt_12 : decode cX7_sortAt 12 = .ok (.iload_n 1, 1) := by decide +kernel
theorem dX7_sortAt_13 : decode cX7_sortAt 13 = .ok (.iaload, 1) := by decide +kernel
theorem dX7_sortAt_14 : decode cX7_sortAt 14 = .ok (.goto 4, 3) := by decide +kernel
theorem dX7_sortAt_17 : decode cX7_sortAt 17 = .ok (.iconst (-1), 1) := by decide +kernel
theorem dX7_sortAt_18 : decode cX7_sortAt 18 = .ok (.ireturn, 1) := by decide +kernel
theorem dX7_drop_0 : decode cX7_drop 0 = .ok (.aload_n 0, 1) := by decide +kernel
theorem dX7_drop_1 : decode cX7_drop 1 = .ok (.iload_n 1, 1) := by decide +kernel
theorem dX7_drop_2 : decode cX7_drop 2 = .ok (.invokevirtual 30, 3) := by decide +kernel
theorem dX7_drop_5 : decode cX7_drop 5 = .ok (.ifCond .eq 17, 3) := by decide +kernel
theorem dX7_drop_8 : decode cX7_drop 8 = .ok (.aload_n 0, 1) := by decide +kernel
theorem dX7_drop_9 : decode cX7_drop 9 = .ok (.getfield 11, 3) := by decide +kernel
theorem dX7_drop_12 : decode cX7_drop 12 = .ok (.iload_n 1, 1) := by decide +kernel
theorem dX7_drop_13 : decode cX7_drop 13 = .ok (.iconst (-1), 1) := by decide +kernel
theorem dX7_drop_14 : decode cX7_drop 14 = .ok (.iastore, 1) := by decide +kernel
theorem dX7_drop_15 : decode cX7_drop 15 = .ok (.aload_n 0, 1) := by decide +kernel
theorem dX7_drop_16 : decode cX7_drop 16 = .ok (.getfield 15, 3) := by decide +kernel
theorem dX7_drop_19 : decode cX7_drop 19 = .ok (.iload_n 1, 1) := by decide +kernel
theorem dX7_drop_20 : decode cX7_drop 20 = .ok (.iconst 0, 1) := by decide +kernel
theorem dX7_drop_21 : decode cX7_drop 21 = .ok (.iastore, 1) := by decide +kernel
theorem dX7_drop_22 : decode cX7_drop 22 = .ok (.return_, 1) := by decide +kernel
theorem dX7_become_0 : decode cX7_become 0 = .ok (.aload_n 0, 1) := by decide +kernel
theorem dX7_become_1 : decode cX7_become 1 = .ok (.iload_n 1, 1) := by decide +kernel
theorem dX7_become_2 : decode cX7_become 2 = .ok (.invokevirtual 30, 3) := by decide +kernel
theorem dX7_become_5 : decode cX7_become 5 = .ok (.ifCond .eq 13, 3) := by decide +kernel
theorem dX7_become_8 : decode cX7_become 8 = .ok (.iload_n 3, 1) := by decide +kernel
theorem dX7_become_9 : decode cX7_become 9 = .ok (.iconst 0, 1) := by decide +kernel
theorem dX7_become_10 : decode cX7_become 10 = .ok (.bipush 60, 2) := by decide +kernel
theorem dX7_become_12 : decode cX7_become 12 = .ok (.invokestatic 22, 3) := by decide +kernel
theorem dX7_become_15 : decode cX7_become 15 = .ok (.ifCond .ne 4, 3) := by decide +kernel
theorem dX7_become_18 : decode cX7_become 18 = .ok (.return_, 1) := by decide +kernel
theorem dX7_become_19 : decode cX7_become 19 = .ok (.aload_n 0, 1) := by decide +kernel
theorem dX7_become_20 : decode cX7_become 20 = .ok (.getfield 11, 3) := by decide +kernel
theorem dX7_become_23 : decode cX7_become 23 = .ok (.iload_n 1, 1) := by decide +kernel
theorem dX7_become_24 : decode cX7_become 24 = .ok (.iload_n 2, 1) := by decide +kernel
theorem dX7_become_25 : decode cX7_become 25 = .ok (.iastore, 1) := by decide +kernel
theorem dX7_become_26 : decode cX7_become 26 = .ok (.aload_n 0, 1) := by decide +kernel
theorem dX7_become_27 : decode cX7_become 27 = .ok (.getfield 15, 3) := by decide +kernel
theorem dX7_become_30 : decode cX7_become 30 = .ok (.iload_n 1, 1) := by decide +kernel
theorem dX7_become_31 : decode cX7_become 31 = .ok (.iload_n 3, 1) := by decide +kernel
theorem dX7_become_32 : decode cX7_become 32 = .ok (.iastore, 1) := by decide +kernel
theorem dX7_become_33 : decode cX7_become 33 = .ok (.iconst 0, 1) := by decide +kernel
theorem dX7_become_34 : decode cX7_become 34 = .ok (.istore 4, 2) := by decide +kernel
theorem dX7_become_36 : decode cX7_become 36 = .ok (.iload 4, 2) := by decide +kernel
theorem dX7_become_38 : decode cX7_become 38 = .ok (.iload_n 3, 1) := by decide +kernel
theorem dX7_become_39 : decode cX7_become 39 = .ok (.if_icmp .ge 22, 3) := by decide +kernel
theorem dX7_become_42 : decode cX7_become 42 = .ok (.aload_n 0, 1) := by decide +kernel
theorem dX7_become_43 : decode cX7_become 43 = .ok (.getfield 18, 3) := by decide +kernel
theorem dX7_become_46 : decode cX7_become 46 = .ok (.bipush 60, 2) := by decide +kernel
theorem dX7_become_48 : decode cX7_become 48 = .ok (.iload_n 1, 1) := by decide +kernel
theorem dX7_become_49 : decode cX7_become 49 = .ok (.imul, 1) := by decide +kernel
theorem dX7_become_50 : decode cX7_become 50 = .ok (.iload 4, 2) := by decide +kernel
theorem dX7_become_52 : decode cX7_become 52 = .ok (.iadd, 1) := by decide +kernel
theorem dX7_become_53 : decode cX7_become 53 = .ok (.lconst 0, 1) := by decide +kernel
theorem dX7_become_54 : decode cX7_become 54 = .ok (.lastore, 1) := by decide +kernel
theorem dX7_become_55 : decode cX7_become 55 = .ok (.iinc 4 1, 3) := by decide +kernel
theorem dX7_become_58 : decode cX7_become 58 = .ok (.goto (-22), 3) := by decide +kernel
theorem dX7_become_61 : decode cX7_become 61 = .ok (.return_, 1) := by decide +kernel
theorem dX7_hasRun_0 : decode cX7_hasRun 0 = .ok (.aload_n 0, 1) := by decide +kernel
theorem dX7_hasRun_1 : decode cX7_hasRun 1 = .ok (.iload_n 1, 1) := by decide +kernel
theorem dX7_hasRun_2 : decode cX7_hasRun 2 = .ok (.invokevirtual 30, 3) := by decide +kernel
theorem dX7_hasRun_5 : decode cX7_hasRun 5 = .ok (.ifCond .eq 31, 3) := by decide +kernel
theorem dX7_hasRun_8 : decode cX7_hasRun 8 = .ok (.iload_n 2, 1) := by decide +kernel
theorem dX7_hasRun_9 : decode cX7_hasRun 9 = .ok (.ifCond .lt 27, 3) := by decide +kernel
theorem dX7_hasRun_12 : decode cX7_hasRun 12 = .ok (.iload_n 3, 1) := by decide +kernel
theorem dX7_hasRun_13 : decode cX7_hasRun 13 = .ok (.ifCond .lt 23, 3) := by decide +kernel
theorem dX7_hasRun_16 : decode cX7_hasRun 16 = .ok (.iload_n 2, 1) := by decide +kernel
theorem dX7_hasRun_17 : decode cX7_hasRun 17 = .ok (.i2l, 1) := by decide +kernel
theorem dX7_hasRun_18 : decode cX7_hasRun 18 = .ok (.iload_n 3, 1) := by decide +kernel
theorem dX7_hasRun_19 : decode cX7_hasRun 19 = .ok (.i2l, 1) := by decide +kernel
theorem dX7_hasRun_20 : decode cX7_hasRun 20 = .ok (.ladd, 1) := by decide +kernel
theorem dX7_hasRun_21 : decode cX7_hasRun 21 = .ok (.aload_n 0, 1) := by decide +kernel
theorem dX7_hasRun_22 : decode cX7_hasRun 22 = .ok (.getfield 15, 3) := by decide +kernel
theorem dX7_hasRun_25 : decode cX7_hasRun 25 = .ok (.iload_n 1, 1) := by decide +kernel
theorem dX7_hasRun_26 : decode cX7_hasRun 26 = .ok (.iaload, 1) := by decide +kernel
theorem dX7_hasRun_27 : decode cX7_hasRun 27 = .ok (.i2l, 1) := by decide +kernel
theorem dX7_hasRun_28 : decode cX7_hasRun 28 = .ok (.lcmp, 1) := by decide +kernel
theorem dX7_hasRun_29 : decode cX7_hasRun 29 = .ok (.ifCond .gt 7, 3) := by decide +kernel
theorem dX7_hasRun_32 : decode cX7_hasRun 32 = .ok (.iconst 1, 1) := by decide +kernel
theorem dX7_hasRun_33 : decode cX7_hasRun 33 = .ok (.goto 4, 3) := by decide +kernel
theorem dX7_hasRun_36 : decode cX7_hasRun 36 = .ok (.iconst 0, 1) := by decide +kernel
theorem dX7_hasRun_37 : decode cX7_hasRun 37 = .ok (.ireturn, 1) := by decide +kernel
theorem dX7_itemAt_0 : decode cX7_itemAt 0 = .ok (.aload_n 0, 1) := by decide +kernel
theorem dX7_itemAt_1 : decode cX7_itemAt 1 = .ok (.iload_n 1, 1) := by decide +kernel
