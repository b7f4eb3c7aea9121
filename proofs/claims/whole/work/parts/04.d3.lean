theorem dX9_takesDigits_36 : decode cX9_takesDigits 36 = .ok (.aload_n 0, 1) := by decide +kernel
theorem dX9_takesDigits_37 : decode cX9_takesDigits 37 = .ok (.bipush 10, 2) := by decide +kernel
theorem dX9_takesDigits_39 : decode cX9_takesDigits 39 = .ok (.aload_n 0, 1) := by decide +kernel
theorem dX9_takesDigits_40 : decode cX9_takesDigits 40 = .ok (.getfield 255, 3) := by decide +kernel
theorem dX9_takesDigits_43 : decode cX9_takesDigits 43 = .ok (.imul, 1) := by decide +kernel
theorem dX9_takesDigits_44 : decode cX9_takesDigits 44 = .ok (.aload_n 0, 1) := by decide +kernel
theorem dX9_takesDigits_45 : decode cX9_takesDigits 45 = .ok (.getfield 41, 3) := by decide +kernel
theorem dX9_takesDigits_48 : decode cX9_takesDigits 48 = .ok (.aload_n 0, 1) := by decide +kernel
theorem dX9_takesDigits_49 : decode cX9_takesDigits 49 = .ok (.getfield 230, 3) := by decide +kernel
theorem dX9_takesDigits_52 : decode cX9_takesDigits 52 = .ok (.baload, 1) := by decide +kernel
theorem dX9_takesDigits_53 : decode cX9_takesDigits 53 = .ok (.iadd, 1) := by decide +kernel
theorem dX9_takesDigits_54 : decode cX9_takesDigits 54 = .ok (.bipush 48, 2) := by decide +kernel
theorem dX9_takesDigits_56 : decode cX9_takesDigits 56 = .ok (.isub, 1) := by decide +kernel
theorem dX9_takesDigits_57 : decode cX9_takesDigits 57 = .ok (.putfield 255, 3) := by decide +kernel
theorem dX9_takesDigits_60 : decode cX9_takesDigits 60 = .ok (.aload_n 0, 1) := by decide +kernel
theorem dX9_takesDigits_61 : decode cX9_takesDigits 61 = .ok (.dup, 1) := by decide +kernel
theorem dX9_takesDigits_62 : decode cX9_takesDigits 62 = .ok (.getfield 230, 3) := by decide +kernel
theorem dX9_takesDigits_65 : decode cX9_takesDigits 65 = .ok (.iconst 1, 1) := by decide +kernel
theorem dX9_takesDigits_66 : decode cX9_takesDigits 66 = .ok (.iadd, 1) := by decide +kernel
theorem dX9_takesDigits_67 : decode cX9_takesDigits 67 = .ok (.putfield 230, 3) := by decide +kernel
theorem dX9_takesDigits_70 : decode cX9_takesDigits 70 = .ok (.iinc 2 1, 3) := by decide +kernel
theorem dX9_takesDigits_73 : decode cX9_takesDigits 73 = .ok (.goto (-53), 3) := by decide +kernel
theorem dX9_takesDigits_76 : decode cX9_takesDigits 76 = .ok (.iconst 1, 1) := by decide +kernel
theorem dX9_takesDigits_77 : decode cX9_takesDigits 77 = .ok (.ireturn, 1) := by decide +kernel
theorem dX9_takesNumber_0 : decode cX9_takesNumber 0 = .ok (.aload_n 0, 1) := by decide +kernel
theorem dX9_takesNumber_1 : decode cX9_takesNumber 1 = .ok (.invokevirtual 258, 3) := by decide +kernel
theorem dX9_takesNumber_4 : decode cX9_takesNumber 4 = .ok (.ifCond .ne 5, 3) := by decide +kernel
theorem dX9_takesNumber_7 : decode cX9_takesNumber 7 = .ok (.iconst 0, 1) := by decide +kernel
theorem dX9_takesNumber_8 : decode cX9_takesNumber 8 = .ok (.ireturn, 1) := by decide +kernel
theorem dX9_takesNumber_9 : decode cX9_takesNumber 9 = .ok (.iload_n 1, 1) := by decide +kernel
theorem dX9_takesNumber_10 : decode cX9_takesNumber 10 = .ok (.iconst 1, 1) := by decide +kernel
theorem dX9_takesNumber_11 : decode cX9_takesNumber 11 = .ok (.if_icmp .ne 18, 3) := by decide +kernel
theorem dX9_takesNumber_14 : decode cX9_takesNumber 14 = .ok (.aload_n 0, 1) := by decide +kernel
theorem dX9_takesNumber_15 : decode cX9_takesNumber 15 = .ok (.bipush 45, 2) := by decide +kernel
theorem dX9_takesNumber_17 : decode cX9_takesNumber 17 = .ok (.bipush 45, 2) := by decide +kernel
theorem dX9_takesNumber_19 : decode cX9_takesNumber 19 = .ok (.invokevirtual 251, 3) := by decide +kernel
theorem dX9_takesNumber_22 : decode cX9_takesNumber 22 = .ok (.ifCond .eq 7, 3) := by decide +kernel
theorem dX9_takesNumber_25 : decode cX9_takesNumber 25 = .ok (.iconst 1, 1) := by decide +kernel
theorem dX9_takesNumber_26 : decode cX9_takesNumber 26 = .ok (.goto 4, 3) := by decide +kernel
theorem dX9_takesNumber_29 : decode cX9_takesNumber 29 = .ok (.iconst 0, 1) := by decide +kernel
theorem dX9_takesNumber_30 : decode cX9_takesNumber 30 = .ok (.istore_n 2, 1) := by decide +kernel
theorem dX9_takesNumber_31 : decode cX9_takesNumber 31 = .ok (.iload_n 2, 1) := by decide +kernel
theorem dX9_takesNumber_32 : decode cX9_takesNumber 32 = .ok (.ifCond .eq 13, 3) := by decide +kernel
theorem dX9_takesNumber_35 : decode cX9_takesNumber 35 = .ok (.aload_n 0, 1) := by decide +kernel
theorem dX9_takesNumber_36 : decode cX9_takesNumber 36 = .ok (.dup, 1) := by decide +kernel
theorem dX9_takesNumber_37 : decode cX9_takesNumber 37 = .ok (.getfield 230, 3) := by decide +kernel
theorem dX9_takesNumber_40 : decode cX9_takesNumber 40 = .ok (.iconst 1, 1) := by decide +kernel
theorem dX9_takesNumber_41 : decode cX9_takesNumber 41 = .ok (.iadd, 1) := by decide +kernel
theorem dX9_takesNumber_42 : decode cX9_takesNumber 42 = .ok (.putfield 230, 3) := by decide +kernel
theorem dX9_takesNumber_45 : decode cX9_takesNumber 45 = .ok (.aload_n 0, 1) := by decide +kernel
theorem dX9_takesNumber_46 : decode cX9_takesNumber 46 = .ok (.iload_n 1, 1) := by decide +kernel
theorem dX9_takesNumber_47 : decode cX9_takesNumber 47 = .ok (.ifCond .ne 7, 3) := by decide +kernel
theorem dX9_takesNumber_50 : decode cX9_takesNumber 50 = .ok (.iconst 1, 1) := by decide +kernel
theorem dX9_takesNumber_51 : decode cX9_takesNumber 51 = .ok (.goto 4, 3) := by decide +kernel
theorem dX9_takesNumber_54 : decode cX9_takesNumber 54 = .ok (.iconst 3, 1) := by decide +kernel
theorem dX9_takesNumber_55 : decode cX9_takesNumber 55 = .ok (.invokevirtual 261, 3) := by decide +kernel
theorem dX9_takesNumber_58 : decode cX9_takesNumber 58 = .ok (.ifCond .ne 5, 3) := by decide +kernel
theorem dX9_takesNumber_61 : decode cX9_takesNumber 61 = .ok (.iconst 0, 1) := by decide +kernel
theorem dX9_takesNumber_62 : decode cX9_takesNumber 62 = .ok (.ireturn, 1) := by decide +kernel
theorem dX9_takesNumber_63 : decode cX9_takesNumber 63 = .ok (.aload_n 0, 1) := by decide +kernel
theorem dX9_takesNumber_64 : decode cX9_takesNumber 64 = .ok (.iload_n 2, 1) := by decide +kernel
theorem dX9_takesNumber_65 : decode cX9_takesNumber 65 = .ok (.ifCond .eq 11, 3) := by decide +kernel
theorem dX9_takesNumber_68 : decode cX9_takesNumber 68 = .ok (.aload_n 0, 1) := by decide +kernel
theorem dX9_takesNumber_69 : decode cX9_takesNumber 69 = .ok (.getfield 255, 3) := by decide +kernel
theorem dX9_takesNumber_72 : decode cX9_takesNumber 72 = .ok (.ineg, 1) := by decide +kernel
theorem dX9_takesNumber_73 : decode cX9_takesNumber 73 = .ok (.goto 7, 3) := by decide +kernel
theorem dX9_takesNumber_76 : decode cX9_takesNumber 76 = .ok (.aload_n 0, 1) := by decide +kernel
theorem dX9_takesNumber_77 : decode cX9_takesNumber 77 = .ok (.getfield 255, 3) := by decide +kernel
theorem dX9_takesNumber_80 : decode cX9_takesNumber 80 = .ok (.putfield 255, 3) := by decide +kernel
theorem dX9_takesNumber_83 : decode cX9_takesNumber 83 = .ok (.iconst 1, 1) := by decide +kernel
theorem dX9_takesNumber_84 : decode cX9_takesNumber 84 = .ok (.ireturn, 1) := by decide +kernel
theorem dX9_takesTwo_0 : decode cX9_takesTwo 0 = .ok (.aload_n 0, 1) := by decide +kernel
theorem dX9_takesTwo_1 : decode cX9_takesTwo 1 = .ok (.iload_n 1, 1) := by decide +kernel
theorem dX9_takesTwo_2 : decode cX9_takesTwo 2 = .ok (.invokevirtual 264, 3) := by decide +kernel
theorem dX9_takesTwo_5 : decode cX9_takesTwo 5 = .ok (.ifCond .ne 5, 3) := by decide +kernel
theorem dX9_takesTwo_8 : decode cX9_takesTwo 8 = .ok (.iconst 0, 1) := by decide +kernel
theorem dX9_takesTwo_9 : decode cX9_takesTwo 9 = .ok (.ireturn, 1) := by decide +kernel
theorem dX9_takesTwo_10 : decode cX9_takesTwo 10 = .ok (.aload_n 0, 1) := by decide +kernel
theorem dX9_takesTwo_11 : decode cX9_takesTwo 11 = .ok (.getfield 48, 3) := by decide +kernel
theorem dX9_takesTwo_14 : decode cX9_takesTwo 14 = .ok (.aload_n 0, 1) := by decide +kernel
theorem dX9_takesTwo_15 : decode cX9_takesTwo 15 = .ok (.getfield 248, 3) := by decide +kernel
theorem dX9_takesTwo_18 : decode cX9_takesTwo 18 = .ok (.aload_n 0, 1) := by decide +kernel
theorem dX9_takesTwo_19 : decode cX9_takesTwo 19 = .ok (.getfield 255, 3) := by decide +kernel
theorem dX9_takesTwo_22 : decode cX9_takesTwo 22 = .ok (.iastore, 1) := by decide +kernel
theorem dX9_takesTwo_23 : decode cX9_takesTwo 23 = .ok (.aload_n 0, 1) := by decide +kernel
theorem dX9_takesTwo_24 : decode cX9_takesTwo 24 = .ok (.iload_n 1, 1) := by decide +kernel
theorem dX9_takesTwo_25 : decode cX9_takesTwo 25 = .ok (.invokevirtual 264, 3) := by decide +kernel
theorem dX9_takesTwo_28 : decode cX9_takesTwo 28 = .ok (.ifCond .ne 5, 3) := by decide +kernel
theorem dX9_takesTwo_31 : decode cX9_takesTwo 31 = .ok (.iconst 0, 1) := by decide +kernel
theorem dX9_takesTwo_32 : decode cX9_takesTwo 32 = .ok (.ireturn, 1) := by decide +kernel
theorem dX9_takesTwo_33 : decode cX9_takesTwo 33 = .ok (.aload_n 0, 1) := by decide +kernel
theorem dX9_takesTwo_34 : decode cX9_takesTwo 34 = .ok (.getfield 51, 3) := by decide +kernel
theorem dX9_takesTwo_37 : decode cX9_takesTwo 37 = .ok (.aload_n 0, 1) := by decide +kernel
theorem dX9_takesTwo_38 : decode cX9_takesTwo 38 = .ok (.getfield 248, 3) := by decide +kernel
theorem dX9_takesTwo_41 : decode cX9_takesTwo 41 = .ok (.aload_n 0, 1) := by decide +kernel
theorem dX9_takesTwo_42 : decode cX9_takesTwo 42 = .ok (.getfield 255, 3) := by decide +kernel
theorem dX9_takesTwo_45 : decode cX9_takesTwo 45 = .ok (.iastore, 1) := by decide +kernel
theorem dX9_takesTwo_46 : decode cX9_takesTwo 46 = .ok (.iconst 1, 1) := by decide +kernel
theorem dX9_takesTwo_47 : decode cX9_takesTwo 47 = .ok (.ireturn, 1) := by decide +kernel
theorem dX9_takesSigns_0 : decode cX9_takesSigns 0 = .ok (.aload_n 0, 1) := by decide +kernel
theorem dX9_takesSigns_1 : decode cX9_takesSigns 1 = .ok (.invokevirtual 258, 3) := by decide +kernel
theorem dX9_takesSigns_4 : decode cX9_takesSigns 4 = .ok (.ifCond .eq 14, 3) := by decide +kernel
theorem dX9_takesSigns_7 : decode cX9_takesSigns 7 = .ok (.aload_n 0, 1) := by decide +kernel
theorem dX9_takesSigns_8 : decode cX9_takesSigns 8 = .ok (.bipush 48, 2) := by decide +kernel
theorem dX9_takesSigns_10 : decode cX9_takesSigns 10 = .ok (.bipush 49, 2) := by decide +kernel
theorem dX9_takesSigns_12 : decode cX9_takesSigns 12 = .ok (.invokevirtual 251, 3) := by decide +kernel
theorem dX9_takesSigns_15 : decode cX9_takesSigns 15 = .ok (.ifCond .ne 5, 3) := by decide +kernel
theorem dX9_takesSigns_18 : decode cX9_takesSigns 18 = .ok (.iconst 0, 1) := by decide +kernel
theorem dX9_takesSigns_19 : decode cX9_takesSigns 19 = .ok (.ireturn, 1) := by decide +kernel
theorem dX9_takesSigns_20 : decode cX9_takesSigns 20 = .ok (.aload_n 0, 1) := by decide +kernel
theorem dX9_takesSigns_21 : decode cX9_takesSigns 21 = .ok (.getfield 48, 3) := by decide +kernel
theorem dX9_takesSigns_24 : decode cX9_takesSigns 24 = .ok (.aload_n 0, 1) := by decide +kernel
theorem dX9_takesSigns_25 : decode cX9_takesSigns 25 = .ok (.getfield 248, 3) := by decide +kernel
theorem dX9_takesSigns_28 : decode cX9_takesSigns 28 = .ok (.aload_n 0, 1) := by decide +kernel
theorem dX9_takesSigns_29 : decode cX9_takesSigns 29 = .ok (.getfield 230, 3) := by decide +kernel
theorem dX9_takesSigns_32 : decode cX9_takesSigns 32 = .ok (.iastore, 1) := by decide +kernel
theorem dX9_takesSigns_33 : decode cX9_takesSigns 33 = .ok (.iconst 0, 1) := by decide +kernel
theorem dX9_takesSigns_34 : decode cX9_takesSigns 34 = .ok (.istore_n 1, 1) := by decide +kernel
theorem dX9_takesSigns_35 : decode cX9_takesSigns 35 = .ok (.iload_n 1, 1) := by decide +kernel
theorem dX9_takesSigns_36 : decode cX9_takesSigns 36 = .ok (.bipush 20, 2) := by decide +kernel
theorem dX9_takesSigns_38 : decode cX9_takesSigns 38 = .ok (.if_icmp .ge 30, 3) := by decide +kernel
theorem dX9_takesSigns_41 : decode cX9_takesSigns 41 = .ok (.aload_n 0, 1) := by decide +kernel
theorem dX9_takesSigns_42 : decode cX9_takesSigns 42 = .ok (.bipush 48, 2) := by decide +kernel
theorem dX9_takesSigns_44 : decode cX9_takesSigns 44 = .ok (.bipush 49, 2) := by decide +kernel
theorem dX9_takesSigns_46 : decode cX9_takesSigns 46 = .ok (.invokevirtual 251, 3) := by decide +kernel
theorem dX9_takesSigns_49 : decode cX9_takesSigns 49 = .ok (.ifCond .eq 19, 3) := by decide +kernel
theorem dX9_takesSigns_52 : decode cX9_takesSigns 52 = .ok (.aload_n 0, 1) := by decide +kernel
theorem dX9_takesSigns_53 : decode cX9_takesSigns 53 = .ok (.dup, 1) := by decide +kernel
theorem dX9_takesSigns_54 : decode cX9_takesSigns 54 = .ok (.getfield 230, 3) := by decide +kernel
theorem dX9_takesSigns_57 : decode cX9_takesSigns 57 = .ok (.iconst 1, 1) := by decide +kernel
theorem dX9_takesSigns_58 : decode cX9_takesSigns 58 = .ok (.iadd, 1) := by decide +kernel
theorem dX9_takesSigns_59 : decode cX9_takesSigns 59 = .ok (.putfield 230, 3) := by decide +kernel
theorem dX9_takesSigns_62 : decode cX9_takesSigns 62 = .ok (.iinc 1 1, 3) := by decide +kernel
theorem dX9_takesSigns_65 : decode cX9_takesSigns 65 = .ok (.goto (-30), 3) := by decide +kernel
theorem dX9_takesSigns_68 : decode cX9_takesSigns 68 = .ok (.aload_n 0, 1) := by decide +kernel
theorem dX9_takesSigns_69 : decode cX9_takesSigns 69 = .ok (.getfield 51, 3) := by decide +kernel
theorem dX9_takesSigns_72 : decode cX9_takesSigns 72 = .ok (.aload_n 0, 1) := by decide +kernel
theorem dX9_takesSigns_73 : decode cX9_takesSigns 73 = .ok (.getfield 248, 3) := by decide +kernel
theorem dX9_takesSigns_76 : decode cX9_takesSigns 76 = .ok (.iload_n 1, 1) := by decide +kernel
theorem dX9_takesSigns_77 : decode cX9_takesSigns 77 = .ok (.iastore, 1) := by decide +kernel
theorem dX9_takesSigns_78 : decode cX9_takesSigns 78 = .ok (.iconst 1, 1) := by decide +kernel
theorem dX9_takesSigns_79 : decode cX9_takesSigns 79 = .ok (.ireturn, 1) := by decide +kernel
theorem dX9_takesClause_0 : decode cX9_takesClause 0 = .ok (.aload_n 0, 1) := by decide +kernel
theorem dX9_takesClause_1 : decode cX9_takesClause 1 = .ok (.invokevirtual 267, 3) := by decide +kernel
theorem dX9_takesClause_4 : decode cX9_takesClause 4 = .ok (.ifCond .ne 5, 3) := by decide +kernel
theorem dX9_takesClause_7 : decode cX9_takesClause 7 = .ok (.iconst 0, 1) := by decide +kernel
theorem dX9_takesClause_8 : decode cX9_takesClause 8 = .ok (.ireturn, 1) := by decide +kernel
theorem dX9_takesClause_9 : decode cX9_takesClause 9 = .ok (.aload_n 0, 1) := by decide +kernel
theorem dX9_takesClause_10 : decode cX9_takesClause 10 = .ok (.getfield 45, 3) := by decide +kernel
theorem dX9_takesClause_13 : decode cX9_takesClause 13 = .ok (.aload_n 0, 1) := by decide +kernel
theorem dX9_takesClause_14 : decode cX9_takesClause 14 = .ok (.getfield 248, 3) := by decide +kernel
theorem dX9_takesClause_17 : decode cX9_takesClause 17 = .ok (.iaload, 1) := by decide +kernel
theorem dX9_takesClause_18 : decode cX9_takesClause 18 = .ok (.istore_n 1, 1) := by decide +kernel
theorem dX9_takesClause_19 : decode cX9_takesClause 19 = .ok (.iload_n 1, 1) := by decide +kernel
theorem dX9_takesClause_20 : decode cX9_takesClause 20 = .ok (.iconst 2, 1) := by decide +kernel
theorem dX9_takesClause_21 : decode cX9_takesClause 21 = .ok (.if_icmp .ge 11, 3) := by decide +kernel
theorem dX9_takesClause_24 : decode cX9_takesClause 24 = .ok (.aload_n 0, 1) := by decide +kernel
theorem dX9_takesClause_25 : decode cX9_takesClause 25 = .ok (.iload_n 1, 1) := by decide +kernel
theorem dX9_takesClause_26 : decode cX9_takesClause 26 = .ok (.invokevirtual 270, 3) := by decide +kernel
theorem dX9_takesClause_29 : decode cX9_takesClause 29 = .ok (.ifCond .eq 15, 3) := by decide +kernel
theorem dX9_takesClause_32 : decode cX9_takesClause 32 = .ok (.iload_n 1, 1) := by decide +kernel
theorem dX9_takesClause_33 : decode cX9_takesClause 33 = .ok (.iconst 2, 1) := by decide +kernel
theorem dX9_takesClause_34 : decode cX9_takesClause 34 = .ok (.if_icmp .ne 12, 3) := by decide +kernel
theorem dX9_takesClause_37 : decode cX9_takesClause 37 = .ok (.aload_n 0, 1) := by decide +kernel
theorem dX9_takesClause_38 : decode cX9_takesClause 38 = .ok (.invokevirtual 273, 3) := by decide +kernel
theorem dX9_takesClause_41 : decode cX9_takesClause 41 = .ok (.ifCond .ne 5, 3) := by decide +kernel
theorem dX9_takesClause_44 : decode cX9_takesClause 44 = .ok (.iconst 0, 1) := by decide +kernel
theorem dX9_takesClause_45 : decode cX9_takesClause 45 = .ok (.ireturn, 1) := by decide +kernel
theorem dX9_takesClause_46 : decode cX9_takesClause 46 = .ok (.aload_n 0, 1) := by decide +kernel
theorem dX9_takesClause_47 : decode cX9_takesClause 47 = .ok (.dup, 1) := by decide +kernel
theorem dX9_takesClause_48 : decode cX9_takesClause 48 = .ok (.getfield 248, 3) := by decide +kernel
theorem dX9_takesClause_51 : decode cX9_takesClause 51 = .ok (.iconst 1, 1) := by decide +kernel
theorem dX9_takesClause_52 : decode cX9_takesClause 52 = .ok (.iadd, 1) := by decide +kernel
theorem dX9_takesClause_53 : decode cX9_takesClause 53 = .ok (.putfield 248, 3) := by decide +kernel
theorem dX9_takesClause_56 : decode cX9_takesClause 56 = .ok (.iconst 1, 1) := by decide +kernel
theorem dX9_takesClause_57 : decode cX9_takesClause 57 = .ok (.ireturn, 1) := by decide +kernel
theorem dX9_takesAll_0 : decode cX9_takesAll 0 = .ok (.aload_n 0, 1) := by decide +kernel
theorem dX9_takesAll_1 : decode cX9_takesAll 1 = .ok (.iconst 0, 1) := by decide +kernel
theorem dX9_takesAll_2 : decode cX9_takesAll 2 = .ok (.putfield 230, 3) := by decide +kernel
theorem dX9_takesAll_5 : decode cX9_takesAll 5 = .ok (.aload_n 0, 1) := by decide +kernel
theorem dX9_takesAll_6 : decode cX9_takesAll 6 = .ok (.iconst 0, 1) := by decide +kernel
theorem dX9_takesAll_7 : decode cX9_takesAll 7 = .ok (.putfield 248, 3) := by decide +kernel
theorem dX9_takesAll_10 : decode cX9_takesAll 10 = .ok (.aload_n 0, 1) := by decide +kernel
theorem dX9_takesAll_11 : decode cX9_takesAll 11 = .ok (.invokevirtual 276, 3) := by decide +kernel
theorem dX9_takesAll_14 : decode cX9_takesAll 14 = .ok (.ifCond .ne 5, 3) := by decide +kernel
theorem dX9_takesAll_17 : decode cX9_takesAll 17 = .ok (.iconst 0, 1) := by decide +kernel
theorem dX9_takesAll_18 : decode cX9_takesAll 18 = .ok (.ireturn, 1) := by decide +kernel
theorem dX9_takesAll_19 : decode cX9_takesAll 19 = .ok (.aload_n 0, 1) := by decide +kernel
theorem dX9_takesAll_20 : decode cX9_takesAll 20 = .ok (.getfield 230, 3) := by decide +kernel
theorem dX9_takesAll_23 : decode cX9_takesAll 23 = .ok (.aload_n 0, 1) := by decide +kernel
theorem dX9_takesAll_24 : decode cX9_takesAll 24 = .ok (.getfield 218, 3) := by decide +kernel
theorem dX9_takesAll_27 : decode cX9_takesAll 27 = .ok (.if_icmp .ge 47, 3) := by decide +kernel
theorem dX9_takesAll_30 : decode cX9_takesAll 30 = .ok (.aload_n 0, 1) := by decide +kernel
theorem dX9_takesAll_31 : decode cX9_takesAll 31 = .ok (.getfield 248, 3) := by decide +kernel
theorem dX9_takesAll_34 : decode cX9_takesAll 34 = .ok (.bipush 12, 2) := by decide +kernel
theorem dX9_takesAll_36 : decode cX9_takesAll 36 = .ok (.if_icmp .eq 17, 3) := by decide +kernel
theorem dX9_takesAll_39 : decode cX9_takesAll 39 = .ok (.aload_n 0, 1) := by decide +kernel
theorem dX9_takesAll_40 : decode cX9_takesAll 40 = .ok (.getfield 41, 3) := by decide +kernel
theorem dX9_takesAll_43 : decode cX9_takesAll 43 = .ok (.aload_n 0, 1) := by decide +kernel
theorem dX9_takesAll_44 : decode cX9_takesAll 44 = .ok (.getfield 230, 3) := by decide +kernel
theorem dX9_takesAll_47 : decode cX9_takesAll 47 = .ok (.baload, 1) := by decide +kernel
theorem dX9_takesAll_48 : decode cX9_takesAll 48 = .ok (.bipush 59, 2) := by decide +kernel
theorem dX9_takesAll_50 : decode cX9_takesAll 50 = .ok (.if_icmp .eq 5, 3) := by decide +kernel
theorem dX9_takesAll_53 : decode cX9_takesAll 53 = .ok (.iconst 0, 1) := by decide +kernel
theorem dX9_takesAll_54 : decode cX9_takesAll 54 = .ok (.ireturn, 1) := by decide +kernel
theorem dX9_takesAll_55 : decode cX9_takesAll 55 = .ok (.aload_n 0, 1) := by decide +kernel
theorem dX9_takesAll_56 : decode cX9_takesAll 56 = .ok (.dup, 1) := by decide +kernel
theorem dX9_takesAll_57 : decode cX9_takesAll 57 = .ok (.getfield 230, 3) := by decide +kernel
theorem dX9_takesAll_60 : decode cX9_takesAll 60 = .ok (.iconst 1, 1) := by decide +kernel
theorem dX9_takesAll_61 : decode cX9_takesAll 61 = .ok (.iadd, 1) := by decide +kernel
theorem dX9_takesAll_62 : decode cX9_takesAll 62 = .ok (.putfield 230, 3) := by decide +kernel
theorem dX9_takesAll_65 : decode cX9_takesAll 65 = .ok (.aload_n 0, 1) := by decide +kernel
theorem dX9_takesAll_66 : decode cX9_takesAll 66 = .ok (.invokevirtual 276, 3) := by decide +kernel
theorem dX9_takesAll_69 : decode cX9_takesAll 69 = .ok (.ifCond .ne (-50), 3) := by decide +kernel
theorem dX9_takesAll_72 : decode cX9_takesAll 72 = .ok (.iconst 0, 1) := by decide +kernel
theorem dX9_takesAll_73 : decode cX9_takesAll 73 = .ok (.ireturn, 1) := by decide +kernel
theorem dX9_takesAll_74 : decode cX9_takesAll 74 = .ok (.iconst 1, 1) := by decide +kernel
theorem dX9_takesAll_75 : decode cX9_takesAll 75 = .ok (.ireturn, 1) := by decide +kernel
theorem dX9_isCarried_0 : decode cX9_isCarried 0 = .ok (.aload_n 0, 1) := by decide +kernel
theorem dX9_isCarried_1 : decode cX9_isCarried 1 = .ok (.getfield 18, 3) := by decide +kernel
theorem dX9_isCarried_4 : decode cX9_isCarried 4 = .ok (.istore_n 3, 1) := by decide +kernel
theorem dX9_isCarried_5 : decode cX9_isCarried 5 = .ok (.aload_n 0, 1) := by decide +kernel
theorem dX9_isCarried_6 : decode cX9_isCarried 6 = .ok (.getfield 21, 3) := by decide +kernel
theorem dX9_isCarried_9 : decode cX9_isCarried 9 = .ok (.istore 4, 2) := by decide +kernel
theorem dX9_isCarried_11 : decode cX9_isCarried 11 = .ok (.iconst 0, 1) := by decide +kernel
theorem dX9_isCarried_12 : decode cX9_isCarried 12 = .ok (.istore 5, 2) := by decide +kernel
theorem dX9_isCarried_14 : decode cX9_isCarried 14 = .ok (.iload 5, 2) := by decide +kernel
theorem dX9_isCarried_16 : decode cX9_isCarried 16 = .ok (.iload_n 2, 1) := by decide +kernel
theorem dX9_isCarried_17 : decode cX9_isCarried 17 = .ok (.if_icmp .ge 44, 3) := by decide +kernel
theorem dX9_isCarried_20 : decode cX9_isCarried 20 = .ok (.aload_n 0, 1) := by decide +kernel
theorem dX9_isCarried_21 : decode cX9_isCarried 21 = .ok (.aload_n 0, 1) := by decide +kernel
theorem dX9_isCarried_22 : decode cX9_isCarried 22 = .ok (.getfield 41, 3) := by decide +kernel
theorem dX9_isCarried_25 : decode cX9_isCarried 25 = .ok (.iload_n 1, 1) := by decide +kernel
theorem dX9_isCarried_26 : decode cX9_isCarried 26 = .ok (.iload 5, 2) := by decide +kernel
theorem dX9_isCarried_28 : decode cX9_isCarried 28 = .ok (.iadd, 1) := by decide +kernel
theorem dX9_isCarried_29 : decode cX9_isCarried 29 = .ok (.baload, 1) := by decide +kernel
theorem dX9_isCarried_30 : decode cX9_isCarried 30 = .ok (.bipush 48, 2) := by decide +kernel
theorem dX9_isCarried_32 : decode cX9_isCarried 32 = .ok (.isub, 1) := by decide +kernel
theorem dX9_isCarried_33 : decode cX9_isCarried 33 = .ok (.invokevirtual 210, 3) := by decide +kernel
theorem dX9_isCarried_36 : decode cX9_isCarried 36 = .ok (.ifCond .eq 6, 3) := by decide +kernel
theorem dX9_isCarried_39 : decode cX9_isCarried 39 = .ok (.goto 16, 3) := by decide +kernel
theorem dX9_isCarried_42 : decode cX9_isCarried 42 = .ok (.aload_n 0, 1) := by decide +kernel
theorem dX9_isCarried_43 : decode cX9_isCarried 43 = .ok (.iload_n 3, 1) := by decide +kernel
theorem dX9_isCarried_44 : decode cX9_isCarried 44 = .ok (.putfield 18, 3) := by decide +kernel
theorem dX9_isCarried_47 : decode cX9_isCarried 47 = .ok (.aload_n 0, 1) := by decide +kernel
theorem dX9_isCarried_48 : decode cX9_isCarried 48 = .ok (.iload 4, 2) := by decide +kernel
theorem dX9_isCarried_50 : decode cX9_isCarried 50 = .ok (.putfield 21, 3) := by decide +kernel
theorem dX9_isCarried_53 : decode cX9_isCarried 53 = .ok (.iconst 0, 1) := by decide +kernel
theorem dX9_isCarried_54 : decode cX9_isCarried 54 = .ok (.ireturn, 1) := by decide +kernel
theorem dX9_isCarried_55 : decode cX9_isCarried 55 = .ok (.iinc 5 1, 3) := by decide +kernel
theorem dX9_isCarried_58 : decode cX9_isCarried 58 = .ok (.goto (-44), 3) := by decide +kernel
theorem dX9_isCarried_61 : decode cX9_isCarried 61 = .ok (.iconst 1, 1) := by decide +kernel
theorem dX9_isCarried_62 : decode cX9_isCarried 62 = .ok (.ireturn, 1) := by decide +kernel
theorem dX9_isDone_0 : decode cX9_isDone 0 = .ok (.aload_n 0, 1) := by decide +kernel
theorem dX9_isDone_1 : decode cX9_isDone 1 = .ok (.getfield 45, 3) := by decide +kernel
theorem dX9_isDone_4 : decode cX9_isDone 4 = .ok (.iload_n 1, 1) := by decide +kernel
theorem dX9_isDone_5 : decode cX9_isDone 5 = .ok (.iaload, 1) := by decide +kernel
theorem dX9_isDone_6 : decode cX9_isDone 6 = .ok (.tableswitch 110 0 3 #[30, 55, 80, 97], 30) := by decide +kernel
theorem dX9_isDone_36 : decode cX9_isDone 36 = .ok (.aload_n 0, 1) := by decide +kernel
theorem dX9_isDone_37 : decode cX9_isDone 37 = .ok (.aload_n 0, 1) := by decide +kernel
theorem dX9_isDone_38 : decode cX9_isDone 38 = .ok (.getfield 48, 3) := by decide +kernel
theorem dX9_isDone_41 : decode cX9_isDone 41 = .ok (.iload_n 1, 1) := by decide +kernel
theorem dX9_isDone_42 : decode cX9_isDone 42 = .ok (.iaload, 1) := by decide +kernel
theorem dX9_isDone_43 : decode cX9_isDone 43 = .ok (.aload_n 0, 1) := by decide +kernel
theorem dX9_isDone_44 : decode cX9_isDone 44 = .ok (.getfield 51, 3) := by decide +kernel
theorem dX9_isDone_47 : decode cX9_isDone 47 = .ok (.iload_n 1, 1) := by decide +kernel
theorem dX9_isDone_48 : decode cX9_isDone 48 = .ok (.iaload, 1) := by decide +kernel
theorem dX9_isDone_49 : decode cX9_isDone 49 = .ok (.invokevirtual 279, 3) := by decide +kernel
theorem dX9_isDone_52 : decode cX9_isDone 52 = .ok (.ifCond .lt 7, 3) := by decide +kernel
theorem dX9_isDone_55 : decode cX9_isDone 55 = .ok (.iconst 1, 1) := by decide +kernel
theorem dX9_isDone_56 : decode cX9_isDone 56 = .ok (.goto 4, 3) := by decide +kernel
theorem dX9_isDone_59 : decode cX9_isDone 59 = .ok (.iconst 0, 1) := by decide +kernel
theorem dX9_isDone_60 : decode cX9_isDone 60 = .ok (.ireturn, 1) := by decide +kernel
theorem dX9_isDone_61 : decode cX9_isDone 61 = .ok (.aload_n 0, 1) := by decide +kernel
theorem dX9_isDone_62 : decode cX9_isDone 62 = .ok (.aload_n 0, 1) := by decide +kernel
theorem dX9_isDone_63 : decode cX9_isDone 63 = .ok (.getfield 48, 3) := by decide +kernel
theorem dX9_isDone_66 : decode cX9_isDone 66 = .ok (.iload_n 1, 1) := by decide +kernel
theorem dX9_isDone_67 : decode cX9_isDone 67 = .ok (.iaload, 1) := by decide +kernel
theorem dX9_isDone_68 : decode cX9_isDone 68 = .ok (.aload_n 0, 1) := by decide +kernel
theorem dX9_isDone_69 : decode cX9_isDone 69 = .ok (.getfield 51, 3) := by decide +kernel
theorem dX9_isDone_72 : decode cX9_isDone 72 = .ok (.iload_n 1, 1) := by decide +kernel
theorem dX9_isDone_73 : decode cX9_isDone 73 = .ok (.iaload, 1) := by decide +kernel
theorem dX9_isDone_74 : decode cX9_isDone 74 = .ok (.invokevirtual 281, 3) := by decide +kernel
theorem dX9_isDone_77 : decode cX9_isDone 77 = .ok (.ifCond .lt 7, 3) := by decide +kernel
theorem dX9_isDone_80 : decode cX9_isDone 80 = .ok (.iconst 1, 1) := by decide +kernel
theorem dX9_isDone_81 : decode cX9_isDone 81 = .ok (.goto 4, 3) := by decide +kernel
theorem dX9_isDone_84 : decode cX9_isDone 84 = .ok (.iconst 0, 1) := by decide +kernel
theorem dX9_isDone_85 : decode cX9_isDone 85 = .ok (.ireturn, 1) := by decide +kernel
theorem dX9_isDone_86 : decode cX9_isDone 86 = .ok (.aload_n 0, 1) := by decide +kernel
theorem dX9_isDone_87 : decode cX9_isDone 87 = .ok (.aload_n 0, 1) := by decide +kernel
theorem dX9_isDone_88 : decode cX9_isDone 88 = .ok (.getfield 48, 3) := by decide +kernel
theorem dX9_isDone_91 : decode cX9_isDone 91 = .ok (.iload_n 1, 1) := by decide +kernel
theorem dX9_isDone_92 : decode cX9_isDone 92 = .ok (.iaload, 1) := by decide +kernel
theorem dX9_isDone_93 : decode cX9_isDone 93 = .ok (.aload_n 0, 1) := by decide +kernel
theorem dX9_isDone_94 : decode cX9_isDone 94 = .ok (.getfield 51, 3) := by decide +kernel
theorem dX9_isDone_97 : decode cX9_isDone 97 = .ok (.iload_n 1, 1) := by decide +kernel
theorem dX9_isDone_98 : decode cX9_isDone 98 = .ok (.iaload, 1) := by decide +kernel
theorem dX9_isDone_99 : decode cX9_isDone 99 = .ok (.invokevirtual 284, 3) := by decide +kernel
theorem dX9_isDone_102 : decode cX9_isDone 102 = .ok (.ireturn, 1) := by decide +kernel
theorem dX9_isDone_103 : decode cX9_isDone 103 = .ok (.aload_n 0, 1) := by decide +kernel
theorem dX9_isDone_104 : decode cX9_isDone 104 = .ok (.invokevirtual 288, 3) := by decide +kernel
theorem dX9_isDone_107 : decode cX9_isDone 107 = .ok (.ifCond .lt 7, 3) := by decide +kernel
theorem dX9_isDone_110 : decode cX9_isDone 110 = .ok (.iconst 1, 1) := by decide +kernel
theorem dX9_isDone_111 : decode cX9_isDone 111 = .ok (.goto 4, 3) := by decide +kernel
theorem dX9_isDone_114 : decode cX9_isDone 114 = .ok (.iconst 0, 1) := by decide +kernel
theorem dX9_isDone_115 : decode cX9_isDone 115 = .ok (.ireturn, 1) := by decide +kernel
theorem dX9_isDone_116 : decode cX9_isDone 116 = .ok (.aload_n 0, 1) := by decide +kernel
theorem dX9_isDone_117 : decode cX9_isDone 117 = .ok (.invokevirtual 290, 3) := by decide +kernel
theorem dX9_isDone_120 : decode cX9_isDone 120 = .ok (.ifCond .lt 7, 3) := by decide +kernel
theorem dX9_isDone_123 : decode cX9_isDone 123 = .ok (.iconst 1, 1) := by decide +kernel
theorem dX9_isDone_124 : decode cX9_isDone 124 = .ok (.goto 4, 3) := by decide +kernel
theorem dX9_isDone_127 : decode cX9_isDone 127 = .ok (.iconst 0, 1) := by decide +kernel
theorem dX9_isDone_128 : decode cX9_isDone 128 = .ok (.ireturn, 1) := by decide +kernel
theorem dX9_read_0 : decode cX9_read 0 = .ok (.aload_n 0, 1) := by decide +kernel
theorem dX9_read_1 : decode cX9_read 1 = .ok (.invokevirtual 292, 3) := by decide +kernel
theorem dX9_read_4 : decode cX9_read 4 = .ok (.istore_n 1, 1) := by decide +kernel
theorem dX9_read_5 : decode cX9_read 5 = .ok (.aload_n 0, 1) := by decide +kernel
theorem dX9_read_6 : decode cX9_read 6 = .ok (.iconst 0, 1) := by decide +kernel
theorem dX9_read_7 : decode cX9_read 7 = .ok (.putfield 218, 3) := by decide +kernel
theorem dX9_read_10 : decode cX9_read 10 = .ok (.iload_n 1, 1) := by decide +kernel
theorem dX9_read_11 : decode cX9_read 11 = .ok (.ifCond .ne 11, 3) := by decide +kernel
theorem dX9_read_14 : decode cX9_read 14 = .ok (.bipush (-10), 2) := by decide +kernel
theorem dX9_read_16 : decode cX9_read 16 = .ok (.aload_n 0, 1) := by decide +kernel
theorem dX9_read_17 : decode cX9_read 17 = .ok (.getfield 230, 3) := by decide +kernel
theorem dX9_read_20 : decode cX9_read 20 = .ok (.isub, 1) := by decide +kernel
theorem dX9_read_21 : decode cX9_read 21 = .ok (.ireturn, 1) := by decide +kernel
theorem dX9_read_22 : decode cX9_read 22 = .ok (.iconst 0, 1) := by decide +kernel
theorem dX9_read_23 : decode cX9_read 23 = .ok (.istore_n 2, 1) := by decide +kernel
theorem dX9_read_24 : decode cX9_read 24 = .ok (.iconst 0, 1) := by decide +kernel
theorem dX9_read_25 : decode cX9_read 25 = .ok (.istore_n 3, 1) := by decide +kernel
theorem dX9_read_26 : decode cX9_read 26 = .ok (.iload_n 3, 1) := by decide +kernel
theorem dX9_read_27 : decode cX9_read 27 = .ok (.aload_n 0, 1) := by decide +kernel
theorem dX9_read_28 : decode cX9_read 28 = .ok (.getfield 248, 3) := by decide +kernel
theorem dX9_read_31 : decode cX9_read 31 = .ok (.if_icmp .ge 20, 3) := by decide +kernel
theorem dX9_read_34 : decode cX9_read 34 = .ok (.aload_n 0, 1) := by decide +kernel
theorem dX9_read_35 : decode cX9_read 35 = .ok (.iload_n 3, 1) := by decide +kernel
theorem dX9_read_36 : decode cX9_read 36 = .ok (.invokevirtual 295, 3) := by decide +kernel
theorem dX9_read_39 : decode cX9_read 39 = .ok (.ifCond .eq 6, 3) := by decide +kernel
theorem dX9_read_42 : decode cX9_read 42 = .ok (.iinc 2 1, 3) := by decide +kernel
theorem dX9_read_45 : decode cX9_read 45 = .ok (.iinc 3 1, 3) := by decide +kernel
theorem dX9_read_48 : decode cX9_read 48 = .ok (.goto (-22), 3) := by decide +kernel
theorem dX9_read_51 : decode cX9_read 51 = .ok (.iload_n 2, 1) := by decide +kernel
theorem dX9_read_52 : decode cX9_read 52 = .ok (.ireturn, 1) := by decide +kernel
theorem dX9_kind_0 : decode cX9_kind 0 = .ok (.aload_n 0, 1) := by decide +kernel
theorem dX9_kind_1 : decode cX9_kind 1 = .ok (.getfield 9, 3) := by decide +kernel
theorem dX9_kind_4 : decode cX9_kind 4 = .ok (.aload_n 0, 1) := by decide +kernel
theorem dX9_kind_5 : decode cX9_kind 5 = .ok (.getfield 15, 3) := by decide +kernel
theorem dX9_kind_8 : decode cX9_kind 8 = .ok (.imul, 1) := by decide +kernel
theorem dX9_kind_9 : decode cX9_kind 9 = .ok (.iconst 4, 1) := by decide +kernel
theorem dX9_kind_10 : decode cX9_kind 10 = .ok (.if_icmp .ge 7, 3) := by decide +kernel
theorem dX9_kind_13 : decode cX9_kind 13 = .ok (.iconst 0, 1) := by decide +kernel
theorem dX9_kind_14 : decode cX9_kind 14 = .ok (.goto 21, 3) := by decide +kernel
theorem dX9_kind_17 : decode cX9_kind 17 = .ok (.aload_n 0, 1) := by decide +kernel
theorem dX9_kind_18 : decode cX9_kind 18 = .ok (.getfield 9, 3) := by decide +kernel
theorem dX9_kind_21 : decode cX9_kind 21 = .ok (.aload_n 0, 1) := by decide +kernel
theorem dX9_kind_22 : decode cX9_kind 22 = .ok (.getfield 15, 3) := by decide +kernel
theorem dX9_kind_25 : decode cX9_kind 25 = .ok (.imul, 1) := by decide +kernel
theorem dX9_kind_26 : decode cX9_kind 26 = .ok (.iconst 4, 1) := by decide +kernel
theorem dX9_kind_27 : decode cX9_kind 27 = .ok (.if_icmp .ne 7, 3) := by decide +kernel
theorem dX9_kind_30 : decode cX9_kind 30 = .ok (.iconst 1, 1) := by decide +kernel
theorem dX9_kind_31 : decode cX9_kind 31 = .ok (.goto 4, 3) := by decide +kernel
theorem dX9_kind_34 : decode cX9_kind 34 = .ok (.iconst 2, 1) := by decide +kernel
theorem dX9_kind_35 : decode cX9_kind 35 = .ok (.ireturn, 1) := by decide +kernel
theorem dX9_told__0 : decode cX9_told_ 0 = .ok (.iload_n 1, 1) := by decide +kernel
theorem dX9_told__1 : decode cX9_told_ 1 = .ok (.tableswitch 94 0 6 #[43, 48, 53, 58, 67, 76, 89], 43) := by decide +kernel
theorem dX9_told__44 : decode cX9_told_ 44 = .ok (.aload_n 0, 1) := by decide +kernel
theorem dX9_told__45 : decode cX9_told_ 45 = .ok (.getfield 9, 3) := by decide +kernel
theorem dX9_told__48 : decode cX9_told_ 48 = .ok (.ireturn, 1) := by decide +kernel
theorem dX9_told__49 : decode cX9_told_ 49 = .ok (.aload_n 0, 1) := by decide +kernel
theorem dX9_told__50 : decode cX9_told_ 50 = .ok (.getfield 15, 3) := by decide +kernel
theorem dX9_told__53 : decode cX9_told_ 53 = .ok (.ireturn, 1) := by decide +kernel
theorem dX9_told__54 : decode cX9_told_ 54 = .ok (.aload_n 0, 1) := by decide +kernel
theorem dX9_told__55 : decode cX9_told_ 55 = .ok (.invokevirtual 298, 3) := by decide +kernel
theorem dX9_told__58 : decode cX9_told_ 58 = .ok (.ireturn, 1) := by decide +kernel
theorem dX9_told__59 : decode cX9_told_ 59 = .ok (.sipush 1000, 3) := by decide +kernel
theorem dX9_told__62 : decode cX9_told_ 62 = .ok (.aload_n 0, 1) := by decide +kernel
theorem dX9_told__63 : decode cX9_told_ 63 = .ok (.getfield 18, 3) := by decide +kernel
theorem dX9_told__66 : decode cX9_told_ 66 = .ok (.iadd, 1) := by decide +kernel
theorem dX9_told__67 : decode cX9_told_ 67 = .ok (.ireturn, 1) := by decide +kernel
theorem dX9_told__68 : decode cX9_told_ 68 = .ok (.sipush 1000, 3) := by decide +kernel
theorem dX9_told__71 : decode cX9_told_ 71 = .ok (.aload_n 0, 1) := by decide +kernel
theorem dX9_told__72 : decode cX9_told_ 72 = .ok (.getfield 21, 3) := by decide +kernel
theorem dX9_told__75 : decode cX9_told_ 75 = .ok (.iadd, 1) := by decide +kernel
theorem dX9_told__76 : decode cX9_told_ 76 = .ok (.ireturn, 1) := by decide +kernel
theorem dX9_told__77 : decode cX9_told_ 77 = .ok (.aload_n 0, 1) := by decide +kernel
theorem dX9_told__78 : decode cX9_told_ 78 = .ok (.aload_n 0, 1) := by decide +kernel
theorem dX9_told__79 : decode cX9_told_ 79 = .ok (.getfield 18, 3) := by decide +kernel
theorem dX9_told__82 : decode cX9_told_ 82 = .ok (.aload_n 0, 1) := by decide +kernel
theorem dX9_told__83 : decode cX9_told_ 83 = .ok (.getfield 21, 3) := by decide +kernel
theorem dX9_told__86 : decode cX9_told_ 86 = .ok (.invokevirtual 173, 3) := by decide +kernel
theorem dX9_told__89 : decode cX9_told_ 89 = .ok (.ireturn, 1) := by decide +kernel
theorem dX9_told__90 : decode cX9_told_ 90 = .ok (.aload_n 0, 1) := by decide +kernel
theorem dX9_told__91 : decode cX9_told_ 91 = .ok (.getfield 213, 3) := by decide +kernel
theorem dX9_told__94 : decode cX9_told_ 94 = .ok (.ireturn, 1) := by decide +kernel
theorem dX9_told__95 : decode cX9_told_ 95 = .ok (.iconst (-1), 1) := by decide +kernel
theorem dX9_told__96 : decode cX9_told_ 96 = .ok (.ireturn, 1) := by decide +kernel
theorem dX9_noted_0 : decode cX9_noted 0 = .ok (.iload_n 1, 1) := by decide +kernel
theorem dX9_noted_1 : decode cX9_noted 1 = .ok (.i2l, 1) := by decide +kernel
theorem dX9_noted_2 : decode cX9_noted 2 = .ok (.lconst 0, 1) := by decide +kernel
theorem dX9_noted_3 : decode cX9_noted 3 = .ok (.aload_n 0, 1) := by decide +kernel
theorem dX9_noted_4 : decode cX9_noted 4 = .ok (.getfield 213, 3) := by decide +kernel
theorem dX9_noted_7 : decode cX9_noted 7 = .ok (.iconst 1, 1) := by decide +kernel
theorem dX9_noted_8 : decode cX9_noted 8 = .ok (.isub, 1) := by decide +kernel
theorem dX9_noted_9 : decode cX9_noted 9 = .ok (.i2l, 1) := by decide +kernel
theorem dX9_noted_10 : decode cX9_noted 10 = .ok (.invokestatic 104, 3) := by decide +kernel
theorem dX9_noted_13 : decode cX9_noted 13 = .ok (.ifCond .eq 15, 3) := by decide +kernel
theorem dX9_noted_16 : decode cX9_noted 16 = .ok (.iload_n 2, 1) := by decide +kernel
theorem dX9_noted_17 : decode cX9_noted 17 = .ok (.i2l, 1) := by decide +kernel
theorem dX9_noted_18 : decode cX9_noted 18 = .ok (.lconst 0, 1) := by decide +kernel
theorem dX9_noted_19 : decode cX9_noted 19 = .ok (.ldc2_w 108, 3) := by decide +kernel
theorem dX9_noted_22 : decode cX9_noted 22 = .ok (.invokestatic 104, 3) := by decide +kernel
theorem dX9_noted_25 : decode cX9_noted 25 = .ok (.ifCond .ne 5, 3) := by decide +kernel
theorem dX9_noted_28 : decode cX9_noted 28 = .ok (.iconst (-1), 1) := by decide +kernel
theorem dX9_noted_29 : decode cX9_noted 29 = .ok (.ireturn, 1) := by decide +kernel
theorem dX9_noted_30 : decode cX9_noted 30 = .ok (.iload_n 2, 1) := by decide +kernel
theorem dX9_noted_31 : decode cX9_noted 31 = .ok (.ifCond .ne 16, 3) := by decide +kernel
theorem dX9_noted_34 : decode cX9_noted 34 = .ok (.sipush 1000, 3) := by decide +kernel
theorem dX9_noted_37 : decode cX9_noted 37 = .ok (.aload_n 0, 1) := by decide +kernel
theorem dX9_noted_38 : decode cX9_noted 38 = .ok (.getfield 35, 3) := by decide +kernel
theorem dX9_noted_41 : decode cX9_noted 41 = .ok (.iload_n 1, 1) := by decide +kernel
theorem dX9_noted_42 : decode cX9_noted 42 = .ok (.iaload, 1) := by decide +kernel
theorem dX9_noted_43 : decode cX9_noted 43 = .ok (.iadd, 1) := by decide +kernel
theorem dX9_noted_44 : decode cX9_noted 44 = .ok (.goto 37, 3) := by decide +kernel
theorem dX9_noted_47 : decode cX9_noted 47 = .ok (.iload_n 2, 1) := by decide +kernel
theorem dX9_noted_48 : decode cX9_noted 48 = .ok (.iconst 1, 1) := by decide +kernel
theorem dX9_noted_49 : decode cX9_noted 49 = .ok (.if_icmp .ne 16, 3) := by decide +kernel
theorem dX9_noted_52 : decode cX9_noted 52 = .ok (.sipush 1000, 3) := by decide +kernel
theorem dX9_noted_55 : decode cX9_noted 55 = .ok (.aload_n 0, 1) := by decide +kernel
theorem dX9_noted_56 : decode cX9_noted 56 = .ok (.getfield 38, 3) := by decide +kernel
theorem dX9_noted_59 : decode cX9_noted 59 = .ok (.iload_n 1, 1) := by decide +kernel
theorem dX9_noted_60 : decode cX9_noted 60 = .ok (.iaload, 1) := by decide +kernel
theorem dX9_noted_61 : decode cX9_noted 61 = .ok (.iadd, 1) := by decide +kernel
theorem dX9_noted_62 : decode cX9_noted 62 = .ok (.goto 19, 3) := by decide +kernel
theorem dX9_noted_65 : decode cX9_noted 65 = .ok (.aload_n 0, 1) := by decide +kernel
theorem dX9_noted_66 : decode cX9_noted 66 = .ok (.aload_n 0, 1) := by decide +kernel
theorem dX9_noted_67 : decode cX9_noted 67 = .ok (.getfield 35, 3) := by decide +kernel
theorem dX9_noted_70 : decode cX9_noted 70 = .ok (.iload_n 1, 1) := by decide +kernel
theorem dX9_noted_71 : decode cX9_noted 71 = .ok (.iaload, 1) := by decide +kernel
theorem dX9_noted_72 : decode cX9_noted 72 = .ok (.aload_n 0, 1) := by decide +kernel
theorem dX9_noted_73 : decode cX9_noted 73 = .ok (.getfield 38, 3) := by decide +kernel
theorem dX9_noted_76 : decode cX9_noted 76 = .ok (.iload_n 1, 1) := by decide +kernel
theorem dX9_noted_77 : decode cX9_noted 77 = .ok (.iaload, 1) := by decide +kernel
theorem dX9_noted_78 : decode cX9_noted 78 = .ok (.invokevirtual 173, 3) := by decide +kernel
theorem dX9_noted_81 : decode cX9_noted 81 = .ok (.ireturn, 1) := by decide +kernel
theorem dX9_norm_0 : decode cX9_norm 0 = .ok (.iload_n 1, 1) := by decide +kernel
theorem dX9_norm_1 : decode cX9_norm 1 = .ok (.i2l, 1) := by decide +kernel
theorem dX9_norm_2 : decode cX9_norm 2 = .ok (.iload_n 2, 1) := by decide +kernel
theorem dX9_norm_3 : decode cX9_norm 3 = .ok (.i2l, 1) := by decide +kernel
theorem dX9_norm_4 : decode cX9_norm 4 = .ok (.invokestatic 202, 3) := by decide +kernel
theorem dX9_norm_7 : decode cX9_norm 7 = .ok (.ifCond .eq 14, 3) := by decide +kernel
theorem dX9_norm_10 : decode cX9_norm 10 = .ok (.aload_n 0, 1) := by decide +kernel
theorem dX9_norm_11 : decode cX9_norm 11 = .ok (.iload_n 1, 1) := by decide +kernel
theorem dX9_norm_12 : decode cX9_norm 12 = .ok (.i2l, 1) := by decide +kernel
theorem dX9_norm_13 : decode cX9_norm 13 = .ok (.iload_n 2, 1) := by decide +kernel
theorem dX9_norm_14 : decode cX9_norm 14 = .ok (.i2l, 1) := by decide +kernel
theorem dX9_norm_15 : decode cX9_norm 15 = .ok (.invokevirtual 170, 3) := by decide +kernel
theorem dX9_norm_18 : decode cX9_norm 18 = .ok (.goto 6, 3) := by decide +kernel
theorem dX9_norm_21 : decode cX9_norm 21 = .ok (.ldc2_w 301, 3) := by decide +kernel
theorem dX9_norm_24 : decode cX9_norm 24 = .ok (.lreturn, 1) := by decide +kernel
theorem dX9_product_0 : decode cX9_product 0 = .ok (.iload_n 1, 1) := by decide +kernel
theorem dX9_product_1 : decode cX9_product 1 = .ok (.i2l, 1) := by decide +kernel
theorem dX9_product_2 : decode cX9_product 2 = .ok (.iload_n 2, 1) := by decide +kernel
theorem dX9_product_3 : decode cX9_product 3 = .ok (.i2l, 1) := by decide +kernel
theorem dX9_product_4 : decode cX9_product 4 = .ok (.invokestatic 202, 3) := by decide +kernel
theorem dX9_product_7 : decode cX9_product 7 = .ok (.ifCond .eq 30, 3) := by decide +kernel
theorem dX9_product_10 : decode cX9_product 10 = .ok (.iload_n 3, 1) := by decide +kernel
theorem dX9_product_11 : decode cX9_product 11 = .ok (.i2l, 1) := by decide +kernel
theorem dX9_product_12 : decode cX9_product 12 = .ok (.iload 4, 2) := by decide +kernel
theorem dX9_product_14 : decode cX9_product 14 = .ok (.i2l, 1) := by decide +kernel
theorem dX9_product_15 : decode cX9_product 15 = .ok (.invokestatic 202, 3) := by decide +kernel
theorem dX9_product_18 : decode cX9_product 18 = .ok (.ifCond .eq 19, 3) := by decide +kernel
theorem dX9_product_21 : decode cX9_product 21 = .ok (.aload_n 0, 1) := by decide +kernel
theorem dX9_product_22 : decode cX9_product 22 = .ok (.iload_n 1, 1) := by decide +kernel
theorem dX9_product_23 : decode cX9_product 23 = .ok (.i2l, 1) := by decide +kernel
theorem dX9_product_24 : decode cX9_product 24 = .ok (.iload_n 2, 1) := by decide +kernel
theorem dX9_product_25 : decode cX9_product 25 = .ok (.i2l, 1) := by decide +kernel
theorem dX9_product_26 : decode cX9_product 26 = .ok (.iload_n 3, 1) := by decide +kernel
theorem dX9_product_27 : decode cX9_product 27 = .ok (.i2l, 1) := by decide +kernel
theorem dX9_product_28 : decode cX9_product 28 = .ok (.iload 4, 2) := by decide +kernel
theorem dX9_product_30 : decode cX9_product 30 = .ok (.i2l, 1) := by decide +kernel
theorem dX9_product_31 : decode cX9_product 31 = .ok (.invokevirtual 166, 3) := by decide +kernel
theorem dX9_product_34 : decode cX9_product 34 = .ok (.goto 6, 3) := by decide +kernel
theorem dX9_product_37 : decode cX9_product 37 = .ok (.ldc2_w 301, 3) := by decide +kernel
theorem dX9_product_40 : decode cX9_product 40 = .ok (.lreturn, 1) := by decide +kernel
theorem dX9_coat_0 : decode cX9_coat 0 = .ok (.iload_n 1, 1) := by decide +kernel
theorem dX9_coat_1 : decode cX9_coat 1 = .ok (.invokestatic 206, 3) := by decide +kernel
theorem dX9_coat_4 : decode cX9_coat 4 = .ok (.ifCond .ne 5, 3) := by decide +kernel
theorem dX9_coat_7 : decode cX9_coat 7 = .ok (.iconst (-1), 1) := by decide +kernel
theorem dX9_coat_8 : decode cX9_coat 8 = .ok (.ireturn, 1) := by decide +kernel
theorem dX9_coat_9 : decode cX9_coat 9 = .ok (.iload_n 2, 1) := by decide +kernel
theorem dX9_coat_10 : decode cX9_coat 10 = .ok (.i2l, 1) := by decide +kernel
theorem dX9_coat_11 : decode cX9_coat 11 = .ok (.iload_n 3, 1) := by decide +kernel
theorem dX9_coat_12 : decode cX9_coat 12 = .ok (.i2l, 1) := by decide +kernel
theorem dX9_coat_13 : decode cX9_coat 13 = .ok (.invokestatic 202, 3) := by decide +kernel
theorem dX9_coat_16 : decode cX9_coat 16 = .ok (.ifCond .eq 17, 3) := by decide +kernel
theorem dX9_coat_19 : decode cX9_coat 19 = .ok (.sipush 10000, 3) := by decide +kernel
theorem dX9_coat_22 : decode cX9_coat 22 = .ok (.aload_n 0, 1) := by decide +kernel
theorem dX9_coat_23 : decode cX9_coat 23 = .ok (.iload_n 1, 1) := by decide +kernel
theorem dX9_coat_24 : decode cX9_coat 24 = .ok (.iload_n 2, 1) := by decide +kernel
theorem dX9_coat_25 : decode cX9_coat 25 = .ok (.iload_n 3, 1) := by decide +kernel
theorem dX9_coat_26 : decode cX9_coat 26 = .ok (.invokevirtual 127, 3) := by decide +kernel
theorem dX9_coat_29 : decode cX9_coat 29 = .ok (.iadd, 1) := by decide +kernel
theorem dX9_coat_30 : decode cX9_coat 30 = .ok (.goto 5, 3) := by decide +kernel
theorem dX9_coat_33 : decode cX9_coat 33 = .ok (.bipush (-2), 2) := by decide +kernel
theorem dX9_coat_35 : decode cX9_coat 35 = .ok (.ireturn, 1) := by decide +kernel
theorem dX9_sort_0 : decode cX9_sort 0 = .ok (.iload_n 1, 1) := by decide +kernel
theorem dX9_sort_1 : decode cX9_sort 1 = .ok (.i2l, 1) := by decide +kernel
theorem dX9_sort_2 : decode cX9_sort 2 = .ok (.iload_n 2, 1) := by decide +kernel
theorem dX9_sort_3 : decode cX9_sort 3 = .ok (.i2l, 1) := by decide +kernel
theorem dX9_sort_4 : decode cX9_sort 4 = .ok (.invokestatic 202, 3) := by decide +kernel
theorem dX9_sort_7 : decode cX9_sort 7 = .ok (.ifCond .eq 12, 3) := by decide +kernel
theorem dX9_sort_10 : decode cX9_sort 10 = .ok (.aload_n 0, 1) := by decide +kernel
theorem dX9_sort_11 : decode cX9_sort 11 = .ok (.iload_n 1, 1) := by decide +kernel
theorem dX9_sort_12 : decode cX9_sort 12 = .ok (.iload_n 2, 1) := by decide +kernel
theorem dX9_sort_13 : decode cX9_sort 13 = .ok (.invokevirtual 173, 3) := by decide +kernel
theorem dX9_sort_16 : decode cX9_sort 16 = .ok (.goto 5, 3) := by decide +kernel
theorem dX9_sort_19 : decode cX9_sort 19 = .ok (.bipush (-2), 2) := by decide +kernel
theorem dX9_sort_21 : decode cX9_sort 21 = .ok (.ireturn, 1) := by decide +kernel
theorem dX9_lowered_0 : decode cX9_lowered 0 = .ok (.iload_n 1, 1) := by decide +kernel
theorem dX9_lowered_1 : decode cX9_lowered 1 = .ok (.i2l, 1) := by decide +kernel
theorem dX9_lowered_2 : decode cX9_lowered 2 = .ok (.lconst 0, 1) := by decide +kernel
theorem dX9_lowered_3 : decode cX9_lowered 3 = .ok (.ldc2_w 102, 3) := by decide +kernel
theorem dX9_lowered_6 : decode cX9_lowered 6 = .ok (.invokestatic 104, 3) := by decide +kernel
theorem dX9_lowered_9 : decode cX9_lowered 9 = .ok (.ifCond .eq 15, 3) := by decide +kernel
theorem dX9_lowered_12 : decode cX9_lowered 12 = .ok (.iload_n 2, 1) := by decide +kernel
theorem dX9_lowered_13 : decode cX9_lowered 13 = .ok (.i2l, 1) := by decide +kernel
theorem dX9_lowered_14 : decode cX9_lowered 14 = .ok (.lconst 0, 1) := by decide +kernel
theorem dX9_lowered_15 : decode cX9_lowered 15 = .ok (.ldc2_w 102, 3) := by decide +kernel
theorem dX9_lowered_18 : decode cX9_lowered 18 = .ok (.invokestatic 104, 3) := by decide +kernel
theorem dX9_lowered_21 : decode cX9_lowered 21 = .ok (.ifCond .ne 6, 3) := by decide +kernel
theorem dX9_lowered_24 : decode cX9_lowered 24 = .ok (.bipush (-2), 2) := by decide +kernel
theorem dX9_lowered_26 : decode cX9_lowered 26 = .ok (.ireturn, 1) := by decide +kernel
theorem dX9_lowered_27 : decode cX9_lowered 27 = .ok (.iload_n 3, 1) := by decide +kernel
theorem dX9_lowered_28 : decode cX9_lowered 28 = .ok (.i2l, 1) := by decide +kernel
theorem dX9_lowered_29 : decode cX9_lowered 29 = .ok (.lconst 0, 1) := by decide +kernel
theorem dX9_lowered_30 : decode cX9_lowered 30 = .ok (.ldc2_w 108, 3) := by decide +kernel
theorem dX9_lowered_33 : decode cX9_lowered 33 = .ok (.invokestatic 104, 3) := by decide +kernel
theorem dX9_lowered_36 : decode cX9_lowered 36 = .ok (.ifCond .ne 5, 3) := by decide +kernel
theorem dX9_lowered_39 : decode cX9_lowered 39 = .ok (.iconst (-1), 1) := by decide +kernel
theorem dX9_lowered_40 : decode cX9_lowered 40 = .ok (.ireturn, 1) := by decide +kernel
theorem dX9_lowered_41 : decode cX9_lowered 41 = .ok (.aload_n 0, 1) := by decide +kernel
theorem dX9_lowered_42 : decode cX9_lowered 42 = .ok (.iload_n 1, 1) := by decide +kernel
theorem dX9_lowered_43 : decode cX9_lowered 43 = .ok (.iload_n 2, 1) := by decide +kernel
theorem dX9_lowered_44 : decode cX9_lowered 44 = .ok (.invokevirtual 137, 3) := by decide +kernel
theorem dX9_lowered_47 : decode cX9_lowered 47 = .ok (.iload_n 3, 1) := by decide +kernel
theorem dX9_lowered_48 : decode cX9_lowered 48 = .ok (.iconst 2, 1) := by decide +kernel
theorem dX9_lowered_49 : decode cX9_lowered 49 = .ok (.if_icmp .ne 10, 3) := by decide +kernel
theorem dX9_lowered_52 : decode cX9_lowered 52 = .ok (.aload_n 0, 1) := by decide +kernel
theorem dX9_lowered_53 : decode cX9_lowered 53 = .ok (.getfield 116, 3) := by decide +kernel
theorem dX9_lowered_56 : decode cX9_lowered 56 = .ok (.goto 22, 3) := by decide +kernel
theorem dX9_lowered_59 : decode cX9_lowered 59 = .ok (.sipush 1000, 3) := by decide +kernel
theorem dX9_lowered_62 : decode cX9_lowered 62 = .ok (.iload_n 3, 1) := by decide +kernel
theorem dX9_lowered_63 : decode cX9_lowered 63 = .ok (.ifCond .ne 10, 3) := by decide +kernel
theorem dX9_lowered_66 : decode cX9_lowered 66 = .ok (.aload_n 0, 1) := by decide +kernel
theorem dX9_lowered_67 : decode cX9_lowered 67 = .ok (.getfield 110, 3) := by decide +kernel
theorem dX9_lowered_70 : decode cX9_lowered 70 = .ok (.goto 7, 3) := by decide +kernel
theorem dX9_lowered_73 : decode cX9_lowered 73 = .ok (.aload_n 0, 1) := by decide +kernel
theorem dX9_lowered_74 : decode cX9_lowered 74 = .ok (.getfield 113, 3) := by decide +kernel
theorem dX9_lowered_77 : decode cX9_lowered 77 = .ok (.iadd, 1) := by decide +kernel
theorem dX9_lowered_78 : decode cX9_lowered 78 = .ok (.ireturn, 1) := by decide +kernel
theorem dX9_along_0 : decode cX9_along 0 = .ok (.iconst 0, 1) := by decide +kernel
theorem dX9_along_1 : decode cX9_along 1 = .ok (.istore 5, 2) := by decide +kernel
theorem dX9_along_3 : decode cX9_along 3 = .ok (.iload_n 1, 1) := by decide +kernel
theorem dX9_along_4 : decode cX9_along 4 = .ok (.ifCond .ne 10, 3) := by decide +kernel
theorem dX9_along_7 : decode cX9_along 7 = .ok (.iload_n 2, 1) := by decide +kernel
theorem dX9_along_8 : decode cX9_along 8 = .ok (.iload 4, 2) := by decide +kernel
theorem dX9_along_10 : decode cX9_along 10 = .ok (.iadd, 1) := by decide +kernel
theorem dX9_along_11 : decode cX9_along 11 = .ok (.goto 4, 3) := by decide +kernel
theorem dX9_along_14 : decode cX9_along 14 = .ok (.iload_n 2, 1) := by decide +kernel
theorem dX9_along_15 : decode cX9_along 15 = .ok (.istore 6, 2) := by decide +kernel
theorem dX9_along_17 : decode cX9_along 17 = .ok (.iload_n 1, 1) := by decide +kernel
theorem dX9_along_18 : decode cX9_along 18 = .ok (.iconst 1, 1) := by decide +kernel
theorem dX9_along_19 : decode cX9_along 19 = .ok (.if_icmp .ne 10, 3) := by decide +kernel
theorem dX9_along_22 : decode cX9_along 22 = .ok (.iload_n 3, 1) := by decide +kernel
theorem dX9_along_23 : decode cX9_along 23 = .ok (.iload 4, 2) := by decide +kernel
theorem dX9_along_25 : decode cX9_along 25 = .ok (.iadd, 1) := by decide +kernel
theorem dX9_along_26 : decode cX9_along 26 = .ok (.goto 4, 3) := by decide +kernel
theorem dX9_along_29 : decode cX9_along 29 = .ok (.iload_n 3, 1) := by decide +kernel
theorem dX9_along_30 : decode cX9_along 30 = .ok (.istore 7, 2) := by decide +kernel
theorem dX9_along_32 : decode cX9_along 32 = .ok (.aload_n 0, 1) := by decide +kernel
theorem dX9_along_33 : decode cX9_along 33 = .ok (.iload 6, 2) := by decide +kernel
theorem dX9_along_35 : decode cX9_along 35 = .ok (.iload 7, 2) := by decide +kernel
theorem dX9_along_37 : decode cX9_along 37 = .ok (.invokevirtual 173, 3) := by decide +kernel
theorem dX9_along_40 : decode cX9_along 40 = .ok (.ifCond .eq 40, 3) := by decide +kernel
theorem dX9_along_43 : decode cX9_along 43 = .ok (.iinc 5 1, 3) := by decide +kernel
theorem dX9_along_46 : decode cX9_along 46 = .ok (.iload 6, 2) := by decide +kernel
theorem dX9_along_48 : decode cX9_along 48 = .ok (.iload_n 1, 1) := by decide +kernel
theorem dX9_along_49 : decode cX9_along 49 = .ok (.ifCond .ne 8, 3) := by decide +kernel
theorem dX9_along_52 : decode cX9_along 52 = .ok (.iload 4, 2) := by decide +kernel
theorem dX9_along_54 : decode cX9_along 54 = .ok (.goto 4, 3) := by decide +kernel
theorem dX9_along_57 : decode cX9_along 57 = .ok (.iconst 0, 1) := by decide +kernel
theorem dX9_along_58 : decode cX9_along 58 = .ok (.iadd, 1) := by decide +kernel
theorem dX9_along_59 : decode cX9_along 59 = .ok (.istore 6, 2) := by decide +kernel
theorem dX9_along_61 : decode cX9_along 61 = .ok (.iload 7, 2) := by decide +kernel
theorem dX9_along_63 : decode cX9_along 63 = .ok (.iload_n 1, 1) := by decide +kernel
theorem dX9_along_64 : decode cX9_along 64 = .ok (.iconst 1, 1) := by decide +kernel
theorem dX9_along_65 : decode cX9_along 65 = .ok (.if_icmp .ne 8, 3) := by decide +kernel
theorem dX9_along_68 : decode cX9_along 68 = .ok (.iload 4, 2) := by decide +kernel
theorem dX9_along_70 : decode cX9_along 70 = .ok (.goto 4, 3) := by decide +kernel
theorem dX9_along_73 : decode cX9_along 73 = .ok (.iconst 0, 1) := by decide +kernel
theorem dX9_along_74 : decode cX9_along 74 = .ok (.iadd, 1) := by decide +kernel
theorem dX9_along_75 : decode cX9_along 75 = .ok (.istore 7, 2) := by decide +kernel
theorem dX9_along_77 : decode cX9_along 77 = .ok (.goto (-45), 3) := by decide +kernel
theorem dX9_along_80 : decode cX9_along 80 = .ok (.iload 5, 2) := by decide +kernel
theorem dX9_along_82 : decode cX9_along 82 = .ok (.ireturn, 1) := by decide +kernel
theorem dX9_isOwn_0 : decode cX9_isOwn 0 = .ok (.iload_n 0, 1) := by decide +kernel
theorem dX9_isOwn_1 : decode cX9_isOwn 1 = .ok (.ifCond .ne 23, 3) := by decide +kernel
theorem dX9_isOwn_4 : decode cX9_isOwn 4 = .ok (.iload_n 2, 1) := by decide +kernel
theorem dX9_isOwn_5 : decode cX9_isOwn 5 = .ok (.ifCond .ne 15, 3) := by decide +kernel
theorem dX9_isOwn_8 : decode cX9_isOwn 8 = .ok (.iload_n 1, 1) := by decide +kernel
theorem dX9_isOwn_9 : decode cX9_isOwn 9 = .ok (.invokestatic 131, 3) := by decide +kernel
theorem dX9_isOwn_12 : decode cX9_isOwn 12 = .ok (.iconst 1, 1) := by decide +kernel
theorem dX9_isOwn_13 : decode cX9_isOwn 13 = .ok (.if_icmp .ne 7, 3) := by decide +kernel
theorem dX9_isOwn_16 : decode cX9_isOwn 16 = .ok (.iconst 1, 1) := by decide +kernel
theorem dX9_isOwn_17 : decode cX9_isOwn 17 = .ok (.goto 24, 3) := by decide +kernel
theorem dX9_isOwn_20 : decode cX9_isOwn 20 = .ok (.iconst 0, 1) := by decide +kernel
theorem dX9_isOwn_21 : decode cX9_isOwn 21 = .ok (.goto 20, 3) := by decide +kernel
theorem dX9_isOwn_24 : decode cX9_isOwn 24 = .ok (.iload_n 1, 1) := by decide +kernel
theorem dX9_isOwn_25 : decode cX9_isOwn 25 = .ok (.ifCond .ne 15, 3) := by decide +kernel
theorem dX9_isOwn_28 : decode cX9_isOwn 28 = .ok (.iload_n 2, 1) := by decide +kernel
theorem dX9_isOwn_29 : decode cX9_isOwn 29 = .ok (.invokestatic 131, 3) := by decide +kernel
theorem dX9_isOwn_32 : decode cX9_isOwn 32 = .ok (.iconst 1, 1) := by decide +kernel
theorem dX9_isOwn_33 : decode cX9_isOwn 33 = .ok (.if_icmp .ne 7, 3) := by decide +kernel
theorem dX9_isOwn_36 : decode cX9_isOwn 36 = .ok (.iconst 1, 1) := by decide +kernel
theorem dX9_isOwn_37 : decode cX9_isOwn 37 = .ok (.goto 4, 3) := by decide +kernel
theorem dX9_isOwn_40 : decode cX9_isOwn 40 = .ok (.iconst 0, 1) := by decide +kernel
theorem dX9_isOwn_41 : decode cX9_isOwn 41 = .ok (.ireturn, 1) := by decide +kernel
theorem dX9_string_0 : decode cX9_string 0 = .ok (.iload_n 1, 1) := by decide +kernel
theorem dX9_string_1 : decode cX9_string 1 = .ok (.invokestatic 206, 3) := by decide +kernel
theorem dX9_string_4 : decode cX9_string 4 = .ok (.ifCond .eq 14, 3) := by decide +kernel
theorem dX9_string_7 : decode cX9_string 7 = .ok (.iload 4, 2) := by decide +kernel
theorem dX9_string_9 : decode cX9_string 9 = .ok (.i2l, 1) := by decide +kernel
theorem dX9_string_10 : decode cX9_string 10 = .ok (.lconst 0, 1) := by decide +kernel
theorem dX9_string_11 : decode cX9_string 11 = .ok (.lconst 1, 1) := by decide +kernel
theorem dX9_string_12 : decode cX9_string 12 = .ok (.invokestatic 104, 3) := by decide +kernel
theorem dX9_string_15 : decode cX9_string 15 = .ok (.ifCond .ne 5, 3) := by decide +kernel
theorem dX9_string_18 : decode cX9_string 18 = .ok (.iconst (-1), 1) := by decide +kernel
theorem dX9_string_19 : decode cX9_string 19 = .ok (.ireturn, 1) := by decide +kernel
theorem dX9_string_20 : decode cX9_string 20 = .ok (.iload_n 2, 1) := by decide +kernel
theorem dX9_string_21 : decode cX9_string 21 = .ok (.i2l, 1) := by decide +kernel
theorem dX9_string_22 : decode cX9_string 22 = .ok (.ldc2_w 303, 3) := by decide +kernel
theorem dX9_string_25 : decode cX9_string 25 = .ok (.ldc2_w 305, 3) := by decide +kernel
theorem dX9_string_28 : decode cX9_string 28 = .ok (.invokestatic 104, 3) := by decide +kernel
theorem dX9_string_31 : decode cX9_string 31 = .ok (.ifCond .eq 17, 3) := by decide +kernel
theorem dX9_string_34 : decode cX9_string 34 = .ok (.iload_n 3, 1) := by decide +kernel
theorem dX9_string_35 : decode cX9_string 35 = .ok (.i2l, 1) := by decide +kernel
theorem dX9_string_36 : decode cX9_string 36 = .ok (.ldc2_w 303, 3) := by decide +kernel
theorem dX9_string_39 : decode cX9_string 39 = .ok (.ldc2_w 305, 3) := by decide +kernel
theorem dX9_string_42 : decode cX9_string 42 = .ok (.invokestatic 104, 3) := by decide +kernel
theorem dX9_string_45 : decode cX9_string 45 = .ok (.ifCond .ne 6, 3) := by decide +kernel
theorem dX9_string_48 : decode cX9_string 48 = .ok (.bipush (-2), 2) := by decide +kernel
theorem dX9_string_50 : decode cX9_string 50 = .ok (.ireturn, 1) := by decide +kernel
theorem dX9_string_51 : decode cX9_string 51 = .ok (.aload_n 0, 1) := by decide +kernel
theorem dX9_string_52 : decode cX9_string 52 = .ok (.iload_n 2, 1) := by decide +kernel
theorem dX9_string_53 : decode cX9_string 53 = .ok (.iload_n 3, 1) := by decide +kernel
theorem dX9_string_54 : decode cX9_string 54 = .ok (.invokevirtual 173, 3) := by decide +kernel
theorem dX9_string_57 : decode cX9_string 57 = .ok (.ifCond .eq 12, 3) := by decide +kernel
theorem dX9_string_60 : decode cX9_string 60 = .ok (.iload_n 1, 1) := by decide +kernel
theorem dX9_string_61 : decode cX9_string 61 = .ok (.iload_n 2, 1) := by decide +kernel
theorem dX9_string_62 : decode cX9_string 62 = .ok (.iload_n 3, 1) := by decide +kernel
theorem dX9_string_63 : decode cX9_string 63 = .ok (.invokestatic 307, 3) := by decide +kernel
theorem dX9_string_66 : decode cX9_string 66 = .ok (.ifCond .eq 6, 3) := by decide +kernel
theorem dX9_string_69 : decode cX9_string 69 = .ok (.bipush (-3), 2) := by decide +kernel
theorem dX9_string_71 : decode cX9_string 71 = .ok (.ireturn, 1) := by decide +kernel
theorem dX9_string_72 : decode cX9_string 72 = .ok (.aload_n 0, 1) := by decide +kernel
theorem dX9_string_73 : decode cX9_string 73 = .ok (.iload_n 1, 1) := by decide +kernel
theorem dX9_string_74 : decode cX9_string 74 = .ok (.iload_n 2, 1) := by decide +kernel
theorem dX9_string_75 : decode cX9_string 75 = .ok (.iload_n 3, 1) := by decide +kernel
theorem dX9_string_76 : decode cX9_string 76 = .ok (.iload 4, 2) := by decide +kernel
theorem dX9_string_78 : decode cX9_string 78 = .ok (.ifCond .ne 7, 3) := by decide +kernel
theorem dX9_string_81 : decode cX9_string 81 = .ok (.iconst (-1), 1) := by decide +kernel
theorem dX9_string_82 : decode cX9_string 82 = .ok (.goto 4, 3) := by decide +kernel
theorem dX9_string_85 : decode cX9_string 85 = .ok (.iconst 1, 1) := by decide +kernel
theorem dX9_string_86 : decode cX9_string 86 = .ok (.invokevirtual 311, 3) := by decide +kernel
theorem dX9_string_89 : decode cX9_string 89 = .ok (.ireturn, 1) := by decide +kernel
theorem dX9_counted_0 : decode cX9_counted 0 = .ok (.iload_n 1, 1) := by decide +kernel
theorem dX9_counted_1 : decode cX9_counted 1 = .ok (.iload_n 2, 1) := by decide +kernel
theorem dX9_counted_2 : decode cX9_counted 2 = .ok (.iconst 1, 1) := by decide +kernel
theorem dX9_counted_3 : decode cX9_counted 3 = .ok (.invokestatic 315, 3) := by decide +kernel
theorem dX9_counted_6 : decode cX9_counted 6 = .ok (.ifCond .eq 12, 3) := by decide +kernel
theorem dX9_counted_9 : decode cX9_counted 9 = .ok (.aload_n 0, 1) := by decide +kernel
theorem dX9_counted_10 : decode cX9_counted 10 = .ok (.iload_n 1, 1) := by decide +kernel
theorem dX9_counted_11 : decode cX9_counted 11 = .ok (.iload_n 2, 1) := by decide +kernel
theorem dX9_counted_12 : decode cX9_counted 12 = .ok (.invokevirtual 318, 3) := by decide +kernel
theorem dX9_counted_15 : decode cX9_counted 15 = .ok (.goto 5, 3) := by decide +kernel
theorem dX9_counted_18 : decode cX9_counted 18 = .ok (.bipush (-2), 2) := by decide +kernel
theorem dX9_counted_20 : decode cX9_counted 20 = .ok (.ireturn, 1) := by decide +kernel
theorem dX9_c_0 : decode cX9_c 0 = .ok (.iload_n 1, 1) := by decide +kernel
theorem dX9_c_1 : decode cX9_c 1 = .ok (.iload_n 2, 1) := by decide +kernel
theorem dX9_c_2 : decode cX9_c 2 = .ok (.iconst 1, 1) := by decide +kernel
theorem dX9_c_3 : decode cX9_c 3 = .ok (.invokestatic 315, 3) := by decide +kernel
theorem dX9_c_6 : decode cX9_c 6 = .ok (.ifCond .eq 13, 3) := by decide +kernel
theorem dX9_c_9 : decode cX9_c 9 = .ok (.iload_n 3, 1) := by decide +kernel
theorem dX9_c_10 : decode cX9_c 10 = .ok (.i2l, 1) := by decide +kernel
theorem dX9_c_11 : decode cX9_c 11 = .ok (.lconst 0, 1) := by decide +kernel
theorem dX9_c_12 : decode cX9_c 12 = .ok (.lconst 1, 1) := by decide +kernel
theorem dX9_c_13 : decode cX9_c 13 = .ok (.invokestatic 104, 3) := by decide +kernel
theorem dX9_c_16 : decode cX9_c 16 = .ok (.ifCond .ne 7, 3) := by decide +kernel
theorem dX9_c_19 : decode cX9_c 19 = .ok (.ldc2_w 301, 3) := by decide +kernel
theorem dX9_c_22 : decode cX9_c 22 = .ok (.lreturn, 1) := by decide +kernel
theorem dX9_c_23 : decode cX9_c 23 = .ok (.aload_n 0, 1) := by decide +kernel
theorem dX9_c_24 : decode cX9_c 24 = .ok (.invokevirtual 191, 3) := by decide +kernel
theorem dX9_c_27 : decode cX9_c 27 = .ok (.iload_n 3, 1) := by decide +kernel
theorem dX9_c_28 : decode cX9_c 28 = .ok (.ifCond .ne 16, 3) := by decide +kernel
theorem dX9_c_31 : decode cX9_c 31 = .ok (.aload_n 0, 1) := by decide +kernel
theorem dX9_c_32 : decode cX9_c 32 = .ok (.getfield 24, 3) := by decide +kernel
theorem dX9_c_35 : decode cX9_c 35 = .ok (.iload_n 1, 1) := by decide +kernel
theorem dX9_c_36 : decode cX9_c 36 = .ok (.iload_n 2, 1) := by decide +kernel
theorem dX9_c_37 : decode cX9_c 37 = .ok (.invokestatic 159, 3) := by decide +kernel
theorem dX9_c_40 : decode cX9_c 40 = .ok (.laload, 1) := by decide +kernel
theorem dX9_c_41 : decode cX9_c 41 = .ok (.goto 13, 3) := by decide +kernel
theorem dX9_c_44 : decode cX9_c 44 = .ok (.aload_n 0, 1) := by decide +kernel
theorem dX9_c_45 : decode cX9_c 45 = .ok (.getfield 28, 3) := by decide +kernel
theorem dX9_c_48 : decode cX9_c 48 = .ok (.iload_n 1, 1) := by decide +kernel
theorem dX9_c_49 : decode cX9_c 49 = .ok (.iload_n 2, 1) := by decide +kernel
theorem dX9_c_50 : decode cX9_c 50 = .ok (.invokestatic 159, 3) := by decide +kernel
theorem dX9_c_53 : decode cX9_c 53 = .ok (.laload, 1) := by decide +kernel
theorem dX9_c_54 : decode cX9_c 54 = .ok (.lreturn, 1) := by decide +kernel
theorem dX9_levelOf_0 : decode cX9_levelOf 0 = .ok (.iconst 0, 1) := by decide +kernel
theorem dX9_levelOf_1 : decode cX9_levelOf 1 = .ok (.istore_n 3, 1) := by decide +kernel
theorem dX9_levelOf_2 : decode cX9_levelOf 2 = .ok (.iconst 0, 1) := by decide +kernel
theorem dX9_levelOf_3 : decode cX9_levelOf 3 = .ok (.istore 4, 2) := by decide +kernel
theorem dX9_levelOf_5 : decode cX9_levelOf 5 = .ok (.iload 4, 2) := by decide +kernel
theorem dX9_levelOf_7 : decode cX9_levelOf 7 = .ok (.iload_n 1, 1) := by decide +kernel
theorem dX9_levelOf_8 : decode cX9_levelOf 8 = .ok (.if_icmp .gt 47, 3) := by decide +kernel
theorem dX9_levelOf_11 : decode cX9_levelOf 11 = .ok (.iload_n 3, 1) := by decide +kernel
theorem dX9_levelOf_12 : decode cX9_levelOf 12 = .ok (.aload_n 0, 1) := by decide +kernel
theorem dX9_levelOf_13 : decode cX9_levelOf 13 = .ok (.iload 4, 2) := by decide +kernel
theorem dX9_levelOf_15 : decode cX9_levelOf 15 = .ok (.iload_n 1, 1) := by decide +kernel
theorem dX9_levelOf_16 : decode cX9_levelOf 16 = .ok (.iload 4, 2) := by decide +kernel
theorem dX9_levelOf_18 : decode cX9_levelOf 18 = .ok (.isub, 1) := by decide +kernel
theorem dX9_levelOf_19 : decode cX9_levelOf 19 = .ok (.invokevirtual 173, 3) := by decide +kernel
theorem dX9_levelOf_22 : decode cX9_levelOf 22 = .ok (.ifCond .ne 7, 3) := by decide +kernel
theorem dX9_levelOf_25 : decode cX9_levelOf 25 = .ok (.iconst 0, 1) := by decide +kernel
theorem dX9_levelOf_26 : decode cX9_levelOf 26 = .ok (.goto 21, 3) := by decide +kernel
theorem dX9_levelOf_29 : decode cX9_levelOf 29 = .ok (.iload_n 2, 1) := by decide +kernel
theorem dX9_levelOf_30 : decode cX9_levelOf 30 = .ok (.ifCond .eq 16, 3) := by decide +kernel
theorem dX9_levelOf_33 : decode cX9_levelOf 33 = .ok (.aload_n 0, 1) := by decide +kernel
theorem dX9_levelOf_34 : decode cX9_levelOf 34 = .ok (.iload 4, 2) := by decide +kernel
theorem dX9_levelOf_36 : decode cX9_levelOf 36 = .ok (.iload_n 1, 1) := by decide +kernel
theorem dX9_levelOf_37 : decode cX9_levelOf 37 = .ok (.iload 4, 2) := by decide +kernel
theorem dX9_levelOf_39 : decode cX9_levelOf 39 = .ok (.isub, 1) := by decide +kernel
theorem dX9_levelOf_40 : decode cX9_levelOf 40 = .ok (.invokevirtual 318, 3) := by decide +kernel
theorem dX9_levelOf_43 : decode cX9_levelOf 43 = .ok (.goto 4, 3) := by decide +kernel
theorem dX9_levelOf_46 : decode cX9_levelOf 46 = .ok (.iconst 1, 1) := by decide +kernel
theorem dX9_levelOf_47 : decode cX9_levelOf 47 = .ok (.iadd, 1) := by decide +kernel
theorem dX9_levelOf_48 : decode cX9_levelOf 48 = .ok (.istore_n 3, 1) := by decide +kernel
theorem dX9_levelOf_49 : decode cX9_levelOf 49 = .ok (.iinc 4 1, 3) := by decide +kernel
theorem dX9_levelOf_52 : decode cX9_levelOf 52 = .ok (.goto (-47), 3) := by decide +kernel
theorem dX9_levelOf_55 : decode cX9_levelOf 55 = .ok (.iload_n 3, 1) := by decide +kernel
theorem dX9_levelOf_56 : decode cX9_levelOf 56 = .ok (.ireturn, 1) := by decide +kernel
theorem dX9_level_0 : decode cX9_level 0 = .ok (.iload_n 1, 1) := by decide +kernel
theorem dX9_level_1 : decode cX9_level 1 = .ok (.i2l, 1) := by decide +kernel
theorem dX9_level_2 : decode cX9_level 2 = .ok (.lconst 1, 1) := by decide +kernel
theorem dX9_level_3 : decode cX9_level 3 = .ok (.ldc2_w 194, 3) := by decide +kernel
theorem dX9_level_6 : decode cX9_level 6 = .ok (.invokestatic 104, 3) := by decide +kernel
theorem dX9_level_9 : decode cX9_level 9 = .ok (.ifCond .ne 6, 3) := by decide +kernel
theorem dX9_level_12 : decode cX9_level 12 = .ok (.bipush (-2), 2) := by decide +kernel
theorem dX9_level_14 : decode cX9_level 14 = .ok (.ireturn, 1) := by decide +kernel
theorem dX9_level_15 : decode cX9_level 15 = .ok (.iload_n 2, 1) := by decide +kernel
theorem dX9_level_16 : decode cX9_level 16 = .ok (.i2l, 1) := by decide +kernel
theorem dX9_level_17 : decode cX9_level 17 = .ok (.lconst 0, 1) := by decide +kernel
theorem dX9_level_18 : decode cX9_level 18 = .ok (.lconst 1, 1) := by decide +kernel
theorem dX9_level_19 : decode cX9_level 19 = .ok (.invokestatic 104, 3) := by decide +kernel
theorem dX9_level_22 : decode cX9_level 22 = .ok (.ifCond .eq 21, 3) := by decide +kernel
theorem dX9_level_25 : decode cX9_level 25 = .ok (.aload_n 0, 1) := by decide +kernel
theorem dX9_level_26 : decode cX9_level 26 = .ok (.iload_n 1, 1) := by decide +kernel
theorem dX9_level_27 : decode cX9_level 27 = .ok (.iload_n 2, 1) := by decide +kernel
theorem dX9_level_28 : decode cX9_level 28 = .ok (.iconst 1, 1) := by decide +kernel
theorem dX9_level_29 : decode cX9_level 29 = .ok (.if_icmp .ne 7, 3) := by decide +kernel
theorem dX9_level_32 : decode cX9_level 32 = .ok (.iconst 1, 1) := by decide +kernel
theorem dX9_level_33 : decode cX9_level 33 = .ok (.goto 4, 3) := by decide +kernel
theorem dX9_level_36 : decode cX9_level 36 = .ok (.iconst 0, 1) := by decide +kernel
theorem dX9_level_37 : decode cX9_level 37 = .ok (.invokevirtual 321, 3) := by decide +kernel
theorem dX9_level_40 : decode cX9_level 40 = .ok (.goto 4, 3) := by decide +kernel
theorem dX9_level_43 : decode cX9_level 43 = .ok (.iconst (-1), 1) := by decide +kernel
theorem dX9_level_44 : decode cX9_level 44 = .ok (.ireturn, 1) := by decide +kernel
theorem dX9_multiplies_0 : decode cX9_multiplies 0 = .ok (.bipush 12, 2) := by decide +kernel
theorem dX9_multiplies_2 : decode cX9_multiplies 2 = .ok (.istore_n 3, 1) := by decide +kernel
theorem dX9_multiplies_3 : decode cX9_multiplies 3 = .ok (.iload_n 3, 1) := by decide +kernel
theorem dX9_multiplies_4 : decode cX9_multiplies 4 = .ok (.iload_n 1, 1) := by decide +kernel
theorem dX9_multiplies_5 : decode cX9_multiplies 5 = .ok (.iload_n 2, 1) := by decide +kernel
theorem dX9_multiplies_6 : decode cX9_multiplies 6 = .ok (.iadd, 1) := by decide +kernel
theorem dX9_multiplies_7 : decode cX9_multiplies 7 = .ok (.if_icmp .lt 67, 3) := by decide +kernel
theorem dX9_multiplies_10 : decode cX9_multiplies 10 = .ok (.iload_n 1, 1) := by decide +kernel
theorem dX9_multiplies_11 : decode cX9_multiplies 11 = .ok (.istore 4, 2) := by decide +kernel
theorem dX9_multiplies_13 : decode cX9_multiplies 13 = .ok (.iload 4, 2) := by decide +kernel
theorem dX9_multiplies_15 : decode cX9_multiplies 15 = .ok (.iload_n 3, 1) := by decide +kernel
theorem dX9_multiplies_16 : decode cX9_multiplies 16 = .ok (.if_icmp .gt 52, 3) := by decide +kernel
theorem dX9_multiplies_19 : decode cX9_multiplies 19 = .ok (.iload_n 3, 1) := by decide +kernel
theorem dX9_multiplies_20 : decode cX9_multiplies 20 = .ok (.iload 4, 2) := by decide +kernel
theorem dX9_multiplies_22 : decode cX9_multiplies 22 = .ok (.isub, 1) := by decide +kernel
theorem dX9_multiplies_23 : decode cX9_multiplies 23 = .ok (.istore 5, 2) := by decide +kernel
theorem dX9_multiplies_25 : decode cX9_multiplies 25 = .ok (.iload 5, 2) := by decide +kernel
theorem dX9_multiplies_27 : decode cX9_multiplies 27 = .ok (.iload_n 2, 1) := by decide +kernel
theorem dX9_multiplies_28 : decode cX9_multiplies 28 = .ok (.if_icmp .lt 34, 3) := by decide +kernel
theorem dX9_multiplies_31 : decode cX9_multiplies 31 = .ok (.aload_n 0, 1) := by decide +kernel
theorem dX9_multiplies_32 : decode cX9_multiplies 32 = .ok (.getfield 54, 3) := by decide +kernel
theorem dX9_multiplies_35 : decode cX9_multiplies 35 = .ok (.iload 4, 2) := by decide +kernel
theorem dX9_multiplies_37 : decode cX9_multiplies 37 = .ok (.iload 5, 2) := by decide +kernel
theorem dX9_multiplies_39 : decode cX9_multiplies 39 = .ok (.invokestatic 159, 3) := by decide +kernel
theorem dX9_multiplies_42 : decode cX9_multiplies 42 = .ok (.dup2, 1) := by decide +kernel
theorem dX9_multiplies_43 : decode cX9_multiplies 43 = .ok (.laload, 1) := by decide +kernel
theorem dX9_multiplies_44 : decode cX9_multiplies 44 = .ok (.aload_n 0, 1) := by decide +kernel
theorem dX9_multiplies_45 : decode cX9_multiplies 45 = .ok (.getfield 54, 3) := by decide +kernel
theorem dX9_multiplies_48 : decode cX9_multiplies 48 = .ok (.iload 4, 2) := by decide +kernel
theorem dX9_multiplies_50 : decode cX9_multiplies 50 = .ok (.iload_n 1, 1) := by decide +kernel
theorem dX9_multiplies_51 : decode cX9_multiplies 51 = .ok (.isub, 1) := by decide +kernel
theorem dX9_multiplies_52 : decode cX9_multiplies 52 = .ok (.iload 5, 2) := by decide +kernel
theorem dX9_multiplies_54 : decode cX9_multiplies 54 = .ok (.iload_n 2, 1) := by decide +kernel
theorem dX9_multiplies_55 : decode cX9_multiplies 55 = .ok (.isub, 1) := by decide +kernel
theorem dX9_multiplies_56 : decode cX9_multiplies 56 = .ok (.invokestatic 159, 3) := by decide +kernel
theorem dX9_multiplies_59 : decode cX9_multiplies 59 = .ok (.laload, 1) := by decide +kernel
theorem dX9_multiplies_60 : decode cX9_multiplies 60 = .ok (.lsub, 1) := by decide +kernel
theorem dX9_multiplies_61 : decode cX9_multiplies 61 = .ok (.lastore, 1) := by decide +kernel
theorem dX9_multiplies_62 : decode cX9_multiplies 62 = .ok (.iinc 4 1, 3) := by decide +kernel
theorem dX9_multiplies_65 : decode cX9_multiplies 65 = .ok (.goto (-52), 3) := by decide +kernel
theorem dX9_multiplies_68 : decode cX9_multiplies 68 = .ok (.iinc 3 (-1), 3) := by decide +kernel
theorem dX9_multiplies_71 : decode cX9_multiplies 71 = .ok (.goto (-68), 3) := by decide +kernel
theorem dX9_multiplies_74 : decode cX9_multiplies 74 = .ok (.return_, 1) := by decide +kernel
theorem dX9_made_0 : decode cX9_made 0 = .ok (.iload_n 1, 1) := by decide +kernel
theorem dX9_made_1 : decode cX9_made 1 = .ok (.iload_n 2, 1) := by decide +kernel
theorem dX9_made_2 : decode cX9_made 2 = .ok (.iconst 0, 1) := by decide +kernel
theorem dX9_made_3 : decode cX9_made 3 = .ok (.invokestatic 315, 3) := by decide +kernel
theorem dX9_made_6 : decode cX9_made 6 = .ok (.ifCond .ne 7, 3) := by decide +kernel
theorem dX9_made_9 : decode cX9_made 9 = .ok (.ldc2_w 301, 3) := by decide +kernel
theorem dX9_made_12 : decode cX9_made 12 = .ok (.lreturn, 1) := by decide +kernel
theorem dX9_made_13 : decode cX9_made 13 = .ok (.iconst 0, 1) := by decide +kernel
theorem dX9_made_14 : decode cX9_made 14 = .ok (.istore_n 3, 1) := by decide +kernel
theorem dX9_made_15 : decode cX9_made 15 = .ok (.iload_n 3, 1) := by decide +kernel
theorem dX9_made_16 : decode cX9_made 16 = .ok (.sipush 169, 3) := by decide +kernel
theorem dX9_made_19 : decode cX9_made 19 = .ok (.if_icmp .ge 16, 3) := by decide +kernel
theorem dX9_made_22 : decode cX9_made 22 = .ok (.aload_n 0, 1) := by decide +kernel
theorem dX9_made_23 : decode cX9_made 23 = .ok (.getfield 54, 3) := by decide +kernel
theorem dX9_made_26 : decode cX9_made 26 = .ok (.iload_n 3, 1) := by decide +kernel
theorem dX9_made_27 : decode cX9_made 27 = .ok (.lconst 0, 1) := by decide +kernel
theorem dX9_made_28 : decode cX9_made 28 = .ok (.lastore, 1) := by decide +kernel
theorem dX9_made_29 : decode cX9_made 29 = .ok (.iinc 3 1, 3) := by decide +kernel
theorem dX9_made_32 : decode cX9_made 32 = .ok (.goto (-17), 3) := by decide +kernel
theorem dX9_made_35 : decode cX9_made 35 = .ok (.aload_n 0, 1) := by decide +kernel
theorem dX9_made_36 : decode cX9_made 36 = .ok (.getfield 54, 3) := by decide +kernel
theorem dX9_made_39 : decode cX9_made 39 = .ok (.iconst 0, 1) := by decide +kernel
theorem dX9_made_40 : decode cX9_made 40 = .ok (.lconst 1, 1) := by decide +kernel
theorem dX9_made_41 : decode cX9_made 41 = .ok (.lastore, 1) := by decide +kernel
theorem dX9_made_42 : decode cX9_made 42 = .ok (.iconst 0, 1) := by decide +kernel
theorem dX9_made_43 : decode cX9_made 43 = .ok (.istore_n 3, 1) := by decide +kernel
theorem dX9_made_44 : decode cX9_made 44 = .ok (.iload_n 3, 1) := by decide +kernel
theorem dX9_made_45 : decode cX9_made 45 = .ok (.iload_n 1, 1) := by decide +kernel
theorem dX9_made_46 : decode cX9_made 46 = .ok (.if_icmp .gt 71, 3) := by decide +kernel
theorem dX9_made_49 : decode cX9_made 49 = .ok (.iconst 0, 1) := by decide +kernel
theorem dX9_made_50 : decode cX9_made 50 = .ok (.istore 4, 2) := by decide +kernel
theorem dX9_made_52 : decode cX9_made 52 = .ok (.iload 4, 2) := by decide +kernel
theorem dX9_made_54 : decode cX9_made 54 = .ok (.iload_n 2, 1) := by decide +kernel
theorem dX9_made_55 : decode cX9_made 55 = .ok (.if_icmp .gt 56, 3) := by decide +kernel
theorem dX9_made_58 : decode cX9_made 58 = .ok (.iload_n 3, 1) := by decide +kernel
theorem dX9_made_59 : decode cX9_made 59 = .ok (.iload 4, 2) := by decide +kernel
theorem dX9_made_61 : decode cX9_made 61 = .ok (.iadd, 1) := by decide +kernel
theorem dX9_made_62 : decode cX9_made 62 = .ok (.ifCond .eq 43, 3) := by decide +kernel
theorem dX9_made_65 : decode cX9_made 65 = .ok (.aload_n 0, 1) := by decide +kernel
theorem dX9_made_66 : decode cX9_made 66 = .ok (.iload_n 3, 1) := by decide +kernel
theorem dX9_made_67 : decode cX9_made 67 = .ok (.iload 4, 2) := by decide +kernel
theorem dX9_made_69 : decode cX9_made 69 = .ok (.invokevirtual 173, 3) := by decide +kernel
theorem dX9_made_72 : decode cX9_made 72 = .ok (.ifCond .ne 6, 3) := by decide +kernel
theorem dX9_made_75 : decode cX9_made 75 = .ok (.goto 30, 3) := by decide +kernel
theorem dX9_made_78 : decode cX9_made 78 = .ok (.aload_n 0, 1) := by decide +kernel
theorem dX9_made_79 : decode cX9_made 79 = .ok (.iload_n 3, 1) := by decide +kernel
theorem dX9_made_80 : decode cX9_made 80 = .ok (.iload 4, 2) := by decide +kernel
theorem dX9_made_82 : decode cX9_made 82 = .ok (.invokevirtual 318, 3) := by decide +kernel
theorem dX9_made_85 : decode cX9_made 85 = .ok (.istore 5, 2) := by decide +kernel
theorem dX9_made_87 : decode cX9_made 87 = .ok (.iload 5, 2) := by decide +kernel
theorem dX9_made_89 : decode cX9_made 89 = .ok (.ifCond .le 16, 3) := by decide +kernel
theorem dX9_made_92 : decode cX9_made 92 = .ok (.aload_n 0, 1) := by decide +kernel
theorem dX9_made_93 : decode cX9_made 93 = .ok (.iload_n 3, 1) := by decide +kernel
theorem dX9_made_94 : decode cX9_made 94 = .ok (.iload 4, 2) := by decide +kernel
theorem dX9_made_96 : decode cX9_made 96 = .ok (.invokevirtual 325, 3) := by decide +kernel
theorem dX9_made_99 : decode cX9_made 99 = .ok (.iinc 5 (-1), 3) := by decide +kernel
theorem dX9_made_102 : decode cX9_made 102 = .ok (.goto (-15), 3) := by decide +kernel
theorem dX9_made_105 : decode cX9_made 105 = .ok (.iinc 4 1, 3) := by decide +kernel
theorem dX9_made_108 : decode cX9_made 108 = .ok (.goto (-56), 3) := by decide +kernel
theorem dX9_made_111 : decode cX9_made 111 = .ok (.iinc 3 1, 3) := by decide +kernel
theorem dX9_made_114 : decode cX9_made 114 = .ok (.goto (-70), 3) := by decide +kernel
theorem dX9_made_117 : decode cX9_made 117 = .ok (.aload_n 0, 1) := by decide +kernel
theorem dX9_made_118 : decode cX9_made 118 = .ok (.getfield 54, 3) := by decide +kernel
theorem dX9_made_121 : decode cX9_made 121 = .ok (.iload_n 1, 1) := by decide +kernel
theorem dX9_made_122 : decode cX9_made 122 = .ok (.iload_n 2, 1) := by decide +kernel
theorem dX9_made_123 : decode cX9_made 123 = .ok (.invokestatic 159, 3) := by decide +kernel
theorem dX9_made_126 : decode cX9_made 126 = .ok (.laload, 1) := by decide +kernel
theorem dX9_made_127 : decode cX9_made 127 = .ok (.lreturn, 1) := by decide +kernel
theorem dX9_signedBy_0 : decode cX9_signedBy 0 = .ok (.lconst 0, 1) := by decide +kernel
theorem dX9_signedBy_1 : decode cX9_signedBy 1 = .ok (.lstore 4, 2) := by decide +kernel
theorem dX9_signedBy_3 : decode cX9_signedBy 3 = .ok (.lconst 0, 1) := by decide +kernel
theorem dX9_signedBy_4 : decode cX9_signedBy 4 = .ok (.lstore 6, 2) := by decide +kernel
theorem dX9_signedBy_6 : decode cX9_signedBy 6 = .ok (.iconst 1, 1) := by decide +kernel
theorem dX9_signedBy_7 : decode cX9_signedBy 7 = .ok (.istore 8, 2) := by decide +kernel
theorem dX9_signedBy_9 : decode cX9_signedBy 9 = .ok (.iload 8, 2) := by decide +kernel
theorem dX9_signedBy_11 : decode cX9_signedBy 11 = .ok (.bipush 24, 2) := by decide +kernel
theorem dX9_signedBy_13 : decode cX9_signedBy 13 = .ok (.if_icmp .gt 87, 3) := by decide +kernel
theorem dX9_signedBy_16 : decode cX9_signedBy 16 = .ok (.iload_n 1, 1) := by decide +kernel
theorem dX9_signedBy_17 : decode cX9_signedBy 17 = .ok (.iload 8, 2) := by decide +kernel
theorem dX9_signedBy_19 : decode cX9_signedBy 19 = .ok (.iadd, 1) := by decide +kernel
theorem dX9_signedBy_20 : decode cX9_signedBy 20 = .ok (.iconst 1, 1) := by decide +kernel
theorem dX9_signedBy_21 : decode cX9_signedBy 21 = .ok (.isub, 1) := by decide +kernel
theorem dX9_signedBy_22 : decode cX9_signedBy 22 = .ok (.iconst 2, 1) := by decide +kernel
theorem dX9_signedBy_23 : decode cX9_signedBy 23 = .ok (.irem, 1) := by decide +kernel
theorem dX9_signedBy_24 : decode cX9_signedBy 24 = .ok (.ifCond .ne 21, 3) := by decide +kernel
theorem dX9_signedBy_27 : decode cX9_signedBy 27 = .ok (.aload_n 0, 1) := by decide +kernel
theorem dX9_signedBy_28 : decode cX9_signedBy 28 = .ok (.getfield 9, 3) := by decide +kernel
theorem dX9_signedBy_31 : decode cX9_signedBy 31 = .ok (.i2l, 1) := by decide +kernel
theorem dX9_signedBy_32 : decode cX9_signedBy 32 = .ok (.lload 6, 2) := by decide +kernel
theorem dX9_signedBy_34 : decode cX9_signedBy 34 = .ok (.lmul, 1) := by decide +kernel
theorem dX9_signedBy_35 : decode cX9_signedBy 35 = .ok (.lload 4, 2) := by decide +kernel
theorem dX9_signedBy_37 : decode cX9_signedBy 37 = .ok (.lsub, 1) := by decide +kernel
theorem dX9_signedBy_38 : decode cX9_signedBy 38 = .ok (.lconst 1, 1) := by decide +kernel
theorem dX9_signedBy_39 : decode cX9_signedBy 39 = .ok (.ladd, 1) := by decide +kernel
theorem dX9_signedBy_40 : decode cX9_signedBy 40 = .ok (.lstore 4, 2) := by decide +kernel
theorem dX9_signedBy_42 : decode cX9_signedBy 42 = .ok (.goto 18, 3) := by decide +kernel
theorem dX9_signedBy_45 : decode cX9_signedBy 45 = .ok (.aload_n 0, 1) := by decide +kernel
theorem dX9_signedBy_46 : decode cX9_signedBy 46 = .ok (.getfield 15, 3) := by decide +kernel
theorem dX9_signedBy_49 : decode cX9_signedBy 49 = .ok (.i2l, 1) := by decide +kernel
theorem dX9_signedBy_50 : decode cX9_signedBy 50 = .ok (.lload 4, 2) := by decide +kernel
theorem dX9_signedBy_52 : decode cX9_signedBy 52 = .ok (.lmul, 1) := by decide +kernel
theorem dX9_signedBy_53 : decode cX9_signedBy 53 = .ok (.lload 6, 2) := by decide +kernel
theorem dX9_signedBy_55 : decode cX9_signedBy 55 = .ok (.lsub, 1) := by decide +kernel
theorem dX9_signedBy_56 : decode cX9_signedBy 56 = .ok (.lconst 1, 1) := by decide +kernel
theorem dX9_signedBy_57 : decode cX9_signedBy 57 = .ok (.ladd, 1) := by decide +kernel
theorem dX9_signedBy_58 : decode cX9_signedBy 58 = .ok (.lstore 6, 2) := by decide +kernel
theorem dX9_signedBy_60 : decode cX9_signedBy 60 = .ok (.lload 4, 2) := by decide +kernel
theorem dX9_signedBy_62 : decode cX9_signedBy 62 = .ok (.iload_n 2, 1) := by decide +kernel
theorem dX9_signedBy_63 : decode cX9_signedBy 63 = .ok (.i2l, 1) := by decide +kernel
theorem dX9_signedBy_64 : decode cX9_signedBy 64 = .ok (.lcmp, 1) := by decide +kernel
theorem dX9_signedBy_65 : decode cX9_signedBy 65 = .ok (.ifCond .ne 14, 3) := by decide +kernel
theorem dX9_signedBy_68 : decode cX9_signedBy 68 = .ok (.lload 6, 2) := by decide +kernel
theorem dX9_signedBy_70 : decode cX9_signedBy 70 = .ok (.iload_n 3, 1) := by decide +kernel
theorem dX9_signedBy_71 : decode cX9_signedBy 71 = .ok (.i2l, 1) := by decide +kernel
theorem dX9_signedBy_72 : decode cX9_signedBy 72 = .ok (.lcmp, 1) := by decide +kernel
theorem dX9_signedBy_73 : decode cX9_signedBy 73 = .ok (.ifCond .ne 6, 3) := by decide +kernel
theorem dX9_signedBy_76 : decode cX9_signedBy 76 = .ok (.iload 8, 2) := by decide +kernel
theorem dX9_signedBy_78 : decode cX9_signedBy 78 = .ok (.ireturn, 1) := by decide +kernel
theorem dX9_signedBy_79 : decode cX9_signedBy 79 = .ok (.lload 4, 2) := by decide +kernel
theorem dX9_signedBy_81 : decode cX9_signedBy 81 = .ok (.lload 6, 2) := by decide +kernel
theorem dX9_signedBy_83 : decode cX9_signedBy 83 = .ok (.ladd, 1) := by decide +kernel
theorem dX9_signedBy_84 : decode cX9_signedBy 84 = .ok (.ldc2_w 328, 3) := by decide +kernel
theorem dX9_signedBy_87 : decode cX9_signedBy 87 = .ok (.lcmp, 1) := by decide +kernel
theorem dX9_signedBy_88 : decode cX9_signedBy 88 = .ok (.ifCond .le 6, 3) := by decide +kernel
theorem dX9_signedBy_91 : decode cX9_signedBy 91 = .ok (.bipush 25, 2) := by decide +kernel
theorem dX9_signedBy_93 : decode cX9_signedBy 93 = .ok (.ireturn, 1) := by decide +kernel
theorem dX9_signedBy_94 : decode cX9_signedBy 94 = .ok (.iinc 8 1, 3) := by decide +kernel
theorem dX9_signedBy_97 : decode cX9_signedBy 97 = .ok (.goto (-88), 3) := by decide +kernel
theorem dX9_signedBy_100 : decode cX9_signedBy 100 = .ok (.bipush 25, 2) := by decide +kernel
theorem dX9_signedBy_102 : decode cX9_signedBy 102 = .ok (.ireturn, 1) := by decide +kernel
theorem dX9_signed_0 : decode cX9_signed 0 = .ok (.iload_n 1, 1) := by decide +kernel
theorem dX9_signed_1 : decode cX9_signed 1 = .ok (.iload_n 2, 1) := by decide +kernel
theorem dX9_signed_2 : decode cX9_signed 2 = .ok (.iconst 0, 1) := by decide +kernel
theorem dX9_signed_3 : decode cX9_signed 3 = .ok (.invokestatic 315, 3) := by decide +kernel
theorem dX9_signed_6 : decode cX9_signed 6 = .ok (.ifCond .ne 6, 3) := by decide +kernel
theorem dX9_signed_9 : decode cX9_signed 9 = .ok (.bipush (-2), 2) := by decide +kernel
theorem dX9_signed_11 : decode cX9_signed 11 = .ok (.ireturn, 1) := by decide +kernel
theorem dX9_signed_12 : decode cX9_signed 12 = .ok (.iload_n 1, 1) := by decide +kernel
theorem dX9_signed_13 : decode cX9_signed 13 = .ok (.ifCond .ne 9, 3) := by decide +kernel
theorem dX9_signed_16 : decode cX9_signed 16 = .ok (.iload_n 2, 1) := by decide +kernel
theorem dX9_signed_17 : decode cX9_signed 17 = .ok (.ifCond .ne 5, 3) := by decide +kernel
theorem dX9_signed_20 : decode cX9_signed 20 = .ok (.iconst 2, 1) := by decide +kernel
theorem dX9_signed_21 : decode cX9_signed 21 = .ok (.ireturn, 1) := by decide +kernel
theorem dX9_signed_22 : decode cX9_signed 22 = .ok (.aload_n 0, 1) := by decide +kernel
theorem dX9_signed_23 : decode cX9_signed 23 = .ok (.iconst 0, 1) := by decide +kernel
theorem dX9_signed_24 : decode cX9_signed 24 = .ok (.iload_n 1, 1) := by decide +kernel
theorem dX9_signed_25 : decode cX9_signed 25 = .ok (.iload_n 2, 1) := by decide +kernel
theorem dX9_signed_26 : decode cX9_signed 26 = .ok (.invokevirtual 330, 3) := by decide +kernel
theorem dX9_signed_29 : decode cX9_signed 29 = .ok (.aload_n 0, 1) := by decide +kernel
theorem dX9_signed_30 : decode cX9_signed 30 = .ok (.iconst 1, 1) := by decide +kernel
theorem dX9_signed_31 : decode cX9_signed 31 = .ok (.iload_n 1, 1) := by decide +kernel
theorem dX9_signed_32 : decode cX9_signed 32 = .ok (.iload_n 2, 1) := by decide +kernel
theorem dX9_signed_33 : decode cX9_signed 33 = .ok (.invokevirtual 330, 3) := by decide +kernel
theorem dX9_signed_36 : decode cX9_signed 36 = .ok (.invokestatic 333, 3) := by decide +kernel
theorem dX9_signed_39 : decode cX9_signed 39 = .ok (.istore_n 3, 1) := by decide +kernel
theorem dX9_signed_40 : decode cX9_signed 40 = .ok (.iload_n 3, 1) := by decide +kernel
theorem dX9_signed_41 : decode cX9_signed 41 = .ok (.bipush 24, 2) := by decide +kernel
theorem dX9_signed_43 : decode cX9_signed 43 = .ok (.if_icmp .le 7, 3) := by decide +kernel
theorem dX9_signed_46 : decode cX9_signed 46 = .ok (.iconst 1, 1) := by decide +kernel
theorem dX9_signed_47 : decode cX9_signed 47 = .ok (.goto 14, 3) := by decide +kernel
theorem dX9_signed_50 : decode cX9_signed 50 = .ok (.iload_n 3, 1) := by decide +kernel
theorem dX9_signed_51 : decode cX9_signed 51 = .ok (.iconst 2, 1) := by decide +kernel
theorem dX9_signed_52 : decode cX9_signed 52 = .ok (.irem, 1) := by decide +kernel
theorem dX9_signed_53 : decode cX9_signed 53 = .ok (.ifCond .ne 7, 3) := by decide +kernel
theorem dX9_signed_56 : decode cX9_signed 56 = .ok (.iconst 2, 1) := by decide +kernel
theorem dX9_signed_57 : decode cX9_signed 57 = .ok (.goto 4, 3) := by decide +kernel
theorem dX9_signed_60 : decode cX9_signed 60 = .ok (.iconst 0, 1) := by decide +kernel
theorem dX9_signed_61 : decode cX9_signed 61 = .ok (.ireturn, 1) := by decide +kernel
theorem dX9_see_0 : decode cX9_see 0 = .ok (.iload_n 1, 1) := by decide +kernel
theorem dX9_see_1 : decode cX9_see 1 = .ok (.bipush (-100), 2) := by decide +kernel
theorem dX9_see_3 : decode cX9_see 3 = .ok (.if_icmp .ne 10, 3) := by decide +kernel
theorem dX9_see_6 : decode cX9_see 6 = .ok (.aload_n 0, 1) := by decide +kernel
theorem dX9_see_7 : decode cX9_see 7 = .ok (.iconst 0, 1) := by decide +kernel
theorem dX9_see_8 : decode cX9_see 8 = .ok (.putfield 336, 3) := by decide +kernel
theorem dX9_see_11 : decode cX9_see 11 = .ok (.iconst 0, 1) := by decide +kernel
theorem dX9_see_12 : decode cX9_see 12 = .ok (.ireturn, 1) := by decide +kernel
theorem dX9_see_13 : decode cX9_see 13 = .ok (.iload_n 1, 1) := by decide +kernel
theorem dX9_see_14 : decode cX9_see 14 = .ok (.i2l, 1) := by decide +kernel
theorem dX9_see_15 : decode cX9_see 15 = .ok (.ldc2_w 339, 3) := by decide +kernel
theorem dX9_see_18 : decode cX9_see 18 = .ok (.ldc2_w 194, 3) := by decide +kernel
theorem dX9_see_21 : decode cX9_see 21 = .ok (.invokestatic 104, 3) := by decide +kernel
theorem dX9_see_24 : decode cX9_see 24 = .ok (.ifCond .eq 29, 3) := by decide +kernel
theorem dX9_see_27 : decode cX9_see 27 = .ok (.iload_n 2, 1) := by decide +kernel
theorem dX9_see_28 : decode cX9_see 28 = .ok (.i2l, 1) := by decide +kernel
theorem dX9_see_29 : decode cX9_see 29 = .ok (.ldc2_w 339, 3) := by decide +kernel
theorem dX9_see_32 : decode cX9_see 32 = .ok (.ldc2_w 194, 3) := by decide +kernel
theorem dX9_see_35 : decode cX9_see 35 = .ok (.invokestatic 104, 3) := by decide +kernel
theorem dX9_see_38 : decode cX9_see 38 = .ok (.ifCond .eq 15, 3) := by decide +kernel
theorem dX9_see_41 : decode cX9_see 41 = .ok (.iload_n 3, 1) := by decide +kernel
theorem dX9_see_42 : decode cX9_see 42 = .ok (.i2l, 1) := by decide +kernel
theorem dX9_see_43 : decode cX9_see 43 = .ok (.lconst 0, 1) := by decide +kernel
theorem dX9_see_44 : decode cX9_see 44 = .ok (.ldc2_w 108, 3) := by decide +kernel
theorem dX9_see_47 : decode cX9_see 47 = .ok (.invokestatic 104, 3) := by decide +kernel
theorem dX9_see_50 : decode cX9_see 50 = .ok (.ifCond .ne 6, 3) := by decide +kernel
theorem dX9_see_53 : decode cX9_see 53 = .ok (.bipush (-2), 2) := by decide +kernel
theorem dX9_see_55 : decode cX9_see 55 = .ok (.ireturn, 1) := by decide +kernel
theorem dX9_see_56 : decode cX9_see 56 = .ok (.aload_n 0, 1) := by decide +kernel
theorem dX9_see_57 : decode cX9_see 57 = .ok (.getfield 336, 3) := by decide +kernel
theorem dX9_see_60 : decode cX9_see 60 = .ok (.iconst 4, 1) := by decide +kernel
theorem dX9_see_61 : decode cX9_see 61 = .ok (.if_icmp .ne 6, 3) := by decide +kernel
theorem dX9_see_64 : decode cX9_see 64 = .ok (.bipush (-4), 2) := by decide +kernel
theorem dX9_see_66 : decode cX9_see 66 = .ok (.ireturn, 1) := by decide +kernel
theorem dX9_see_67 : decode cX9_see 67 = .ok (.aload_n 0, 1) := by decide +kernel
theorem dX9_see_68 : decode cX9_see 68 = .ok (.getfield 57, 3) := by decide +kernel
theorem dX9_see_71 : decode cX9_see 71 = .ok (.aload_n 0, 1) := by decide +kernel
theorem dX9_see_72 : decode cX9_see 72 = .ok (.getfield 336, 3) := by decide +kernel
theorem dX9_see_75 : decode cX9_see 75 = .ok (.iload_n 1, 1) := by decide +kernel
theorem dX9_see_76 : decode cX9_see 76 = .ok (.iastore, 1) := by decide +kernel
theorem dX9_see_77 : decode cX9_see 77 = .ok (.aload_n 0, 1) := by decide +kernel
theorem dX9_see_78 : decode cX9_see 78 = .ok (.getfield 60, 3) := by decide +kernel
theorem dX9_see_81 : decode cX9_see 81 = .ok (.aload_n 0, 1) := by decide +kernel
theorem dX9_see_82 : decode cX9_see 82 = .ok (.getfield 336, 3) := by decide +kernel
theorem dX9_see_85 : decode cX9_see 85 = .ok (.iload_n 2, 1) := by decide +kernel
theorem dX9_see_86 : decode cX9_see 86 = .ok (.iastore, 1) := by decide +kernel
theorem dX9_see_87 : decode cX9_see 87 = .ok (.aload_n 0, 1) := by decide +kernel
theorem dX9_see_88 : decode cX9_see 88 = .ok (.getfield 63, 3) := by decide +kernel
theorem dX9_see_91 : decode cX9_see 91 = .ok (.aload_n 0, 1) := by decide +kernel
theorem dX9_see_92 : decode cX9_see 92 = .ok (.getfield 336, 3) := by decide +kernel
theorem dX9_see_95 : decode cX9_see 95 = .ok (.iload_n 3, 1) := by decide +kernel
theorem dX9_see_96 : decode cX9_see 96 = .ok (.iastore, 1) := by decide +kernel
theorem dX9_see_97 : decode cX9_see 97 = .ok (.aload_n 0, 1) := by decide +kernel
theorem dX9_see_98 : decode cX9_see 98 = .ok (.dup, 1) := by decide +kernel
theorem dX9_see_99 : decode cX9_see 99 = .ok (.getfield 336, 3) := by decide +kernel
theorem dX9_see_102 : decode cX9_see 102 = .ok (.iconst 1, 1) := by decide +kernel
theorem dX9_see_103 : decode cX9_see 103 = .ok (.iadd, 1) := by decide +kernel
theorem dX9_see_104 : decode cX9_see 104 = .ok (.putfield 336, 3) := by decide +kernel
theorem dX9_see_107 : decode cX9_see 107 = .ok (.aload_n 0, 1) := by decide +kernel
theorem dX9_see_108 : decode cX9_see 108 = .ok (.getfield 336, 3) := by decide +kernel
theorem dX9_see_111 : decode cX9_see 111 = .ok (.ireturn, 1) := by decide +kernel
theorem dX9_isSo_0 : decode cX9_isSo 0 = .ok (.iconst 0, 1) := by decide +kernel
theorem dX9_isSo_1 : decode cX9_isSo 1 = .ok (.istore_n 1, 1) := by decide +kernel
theorem dX9_isSo_2 : decode cX9_isSo 2 = .ok (.iload_n 1, 1) := by decide +kernel
theorem dX9_isSo_3 : decode cX9_isSo 3 = .ok (.aload_n 0, 1) := by decide +kernel
theorem dX9_isSo_4 : decode cX9_isSo 4 = .ok (.getfield 336, 3) := by decide +kernel
theorem dX9_isSo_7 : decode cX9_isSo 7 = .ok (.if_icmp .ge 36, 3) := by decide +kernel
theorem dX9_isSo_10 : decode cX9_isSo 10 = .ok (.aload_n 0, 1) := by decide +kernel
theorem dX9_isSo_11 : decode cX9_isSo 11 = .ok (.aload_n 0, 1) := by decide +kernel
theorem dX9_isSo_12 : decode cX9_isSo 12 = .ok (.getfield 57, 3) := by decide +kernel
theorem dX9_isSo_15 : decode cX9_isSo 15 = .ok (.iload_n 1, 1) := by decide +kernel
theorem dX9_isSo_16 : decode cX9_isSo 16 = .ok (.iaload, 1) := by decide +kernel
theorem dX9_isSo_17 : decode cX9_isSo 17 = .ok (.aload_n 0, 1) := by decide +kernel
theorem dX9_isSo_18 : decode cX9_isSo 18 = .ok (.getfield 60, 3) := by decide +kernel
theorem dX9_isSo_21 : decode cX9_isSo 21 = .ok (.iload_n 1, 1) := by decide +kernel
theorem dX9_isSo_22 : decode cX9_isSo 22 = .ok (.iaload, 1) := by decide +kernel
theorem dX9_isSo_23 : decode cX9_isSo 23 = .ok (.invokevirtual 173, 3) := by decide +kernel
theorem dX9_isSo_26 : decode cX9_isSo 26 = .ok (.aload_n 0, 1) := by decide +kernel
theorem dX9_isSo_27 : decode cX9_isSo 27 = .ok (.getfield 63, 3) := by decide +kernel
theorem dX9_isSo_30 : decode cX9_isSo 30 = .ok (.iload_n 1, 1) := by decide +kernel
theorem dX9_isSo_31 : decode cX9_isSo 31 = .ok (.iaload, 1) := by decide +kernel
theorem dX9_isSo_32 : decode cX9_isSo 32 = .ok (.if_icmp .eq 5, 3) := by decide +kernel
theorem dX9_isSo_35 : decode cX9_isSo 35 = .ok (.iconst 0, 1) := by decide +kernel
theorem dX9_isSo_36 : decode cX9_isSo 36 = .ok (.ireturn, 1) := by decide +kernel
theorem dX9_isSo_37 : decode cX9_isSo 37 = .ok (.iinc 1 1, 3) := by decide +kernel
theorem dX9_isSo_40 : decode cX9_isSo 40 = .ok (.goto (-38), 3) := by decide +kernel
theorem dX9_isSo_43 : decode cX9_isSo 43 = .ok (.iconst 1, 1) := by decide +kernel
theorem dX9_isSo_44 : decode cX9_isSo 44 = .ok (.ireturn, 1) := by decide +kernel
theorem dX9_fits_0 : decode cX9_fits 0 = .ok (.aload_n 0, 1) := by decide +kernel
theorem dX9_fits_1 : decode cX9_fits 1 = .ok (.getfield 9, 3) := by decide +kernel
theorem dX9_fits_4 : decode cX9_fits 4 = .ok (.istore_n 1, 1) := by decide +kernel
theorem dX9_fits_5 : decode cX9_fits 5 = .ok (.iconst 0, 1) := by decide +kernel
theorem dX9_fits_6 : decode cX9_fits 6 = .ok (.istore_n 2, 1) := by decide +kernel
theorem dX9_fits_7 : decode cX9_fits 7 = .ok (.aload_n 0, 1) := by decide +kernel
theorem dX9_fits_8 : decode cX9_fits 8 = .ok (.iconst 1, 1) := by decide +kernel
theorem dX9_fits_9 : decode cX9_fits 9 = .ok (.putfield 9, 3) := by decide +kernel
theorem dX9_fits_12 : decode cX9_fits 12 = .ok (.aload_n 0, 1) := by decide +kernel
theorem dX9_fits_13 : decode cX9_fits 13 = .ok (.getfield 9, 3) := by decide +kernel
theorem dX9_fits_16 : decode cX9_fits 16 = .ok (.bipush 6, 2) := by decide +kernel
theorem dX9_fits_18 : decode cX9_fits 18 = .ok (.if_icmp .gt 34, 3) := by decide +kernel
theorem dX9_fits_21 : decode cX9_fits 21 = .ok (.aload_n 0, 1) := by decide +kernel
theorem dX9_fits_22 : decode cX9_fits 22 = .ok (.invokevirtual 341, 3) := by decide +kernel
theorem dX9_fits_25 : decode cX9_fits 25 = .ok (.ifCond .eq 14, 3) := by decide +kernel
theorem dX9_fits_28 : decode cX9_fits 28 = .ok (.iload_n 2, 1) := by decide +kernel
theorem dX9_fits_29 : decode cX9_fits 29 = .ok (.iconst 1, 1) := by decide +kernel
theorem dX9_fits_30 : decode cX9_fits 30 = .ok (.aload_n 0, 1) := by decide +kernel
theorem dX9_fits_31 : decode cX9_fits 31 = .ok (.getfield 9, 3) := by decide +kernel
theorem dX9_fits_34 : decode cX9_fits 34 = .ok (.iconst 1, 1) := by decide +kernel
theorem dX9_fits_35 : decode cX9_fits 35 = .ok (.isub, 1) := by decide +kernel
theorem dX9_fits_36 : decode cX9_fits 36 = .ok (.ishl, 1) := by decide +kernel
theorem dX9_fits_37 : decode cX9_fits 37 = .ok (.ior, 1) := by decide +kernel
theorem dX9_fits_38 : decode cX9_fits 38 = .ok (.istore_n 2, 1) := by decide +kernel
theorem dX9_fits_39 : decode cX9_fits 39 = .ok (.aload_n 0, 1) := by decide +kernel
theorem dX9_fits_40 : decode cX9_fits 40 = .ok (.dup, 1) := by decide +kernel
theorem dX9_fits_41 : decode cX9_fits 41 = .ok (.getfield 9, 3) := by decide +kernel
theorem dX9_fits_44 : decode cX9_fits 44 = .ok (.iconst 1, 1) := by decide +kernel
theorem dX9_fits_45 : decode cX9_fits 45 = .ok (.iadd, 1) := by decide +kernel
theorem dX9_fits_46 : decode cX9_fits 46 = .ok (.putfield 9, 3) := by decide +kernel
theorem dX9_fits_49 : decode cX9_fits 49 = .ok (.goto (-37), 3) := by decide +kernel
theorem dX9_fits_52 : decode cX9_fits 52 = .ok (.aload_n 0, 1) := by decide +kernel
theorem dX9_fits_53 : decode cX9_fits 53 = .ok (.iload_n 1, 1) := by decide +kernel
theorem dX9_fits_54 : decode cX9_fits 54 = .ok (.putfield 9, 3) := by decide +kernel
theorem dX9_fits_57 : decode cX9_fits 57 = .ok (.iload_n 2, 1) := by decide +kernel
theorem dX9_fits_58 : decode cX9_fits 58 = .ok (.ireturn, 1) := by decide +kernel
theorem dX9_lowest_0 : decode cX9_lowest 0 = .ok (.aload_n 0, 1) := by decide +kernel
theorem dX9_lowest_1 : decode cX9_lowest 1 = .ok (.iload_n 1, 1) := by decide +kernel
theorem dX9_lowest_2 : decode cX9_lowest 2 = .ok (.i2l, 1) := by decide +kernel
theorem dX9_lowest_3 : decode cX9_lowest 3 = .ok (.iload_n 2, 1) := by decide +kernel
theorem dX9_lowest_4 : decode cX9_lowest 4 = .ok (.i2l, 1) := by decide +kernel
theorem dX9_lowest_5 : decode cX9_lowest 5 = .ok (.invokevirtual 155, 3) := by decide +kernel
theorem dX9_lowest_8 : decode cX9_lowest 8 = .ok (.iload_n 3, 1) := by decide +kernel
theorem dX9_lowest_9 : decode cX9_lowest 9 = .ok (.ifCond .ne 10, 3) := by decide +kernel
theorem dX9_lowest_12 : decode cX9_lowest 12 = .ok (.aload_n 0, 1) := by decide +kernel
theorem dX9_lowest_13 : decode cX9_lowest 13 = .ok (.getfield 148, 3) := by decide +kernel
theorem dX9_lowest_16 : decode cX9_lowest 16 = .ok (.goto 7, 3) := by decide +kernel
theorem dX9_lowest_19 : decode cX9_lowest 19 = .ok (.aload_n 0, 1) := by decide +kernel
theorem dX9_lowest_20 : decode cX9_lowest 20 = .ok (.getfield 152, 3) := by decide +kernel
theorem dX9_lowest_23 : decode cX9_lowest 23 = .ok (.lreturn, 1) := by decide +kernel
theorem dX9_odds_0 : decode cX9_odds 0 = .ok (.iload_n 1, 1) := by decide +kernel
theorem dX9_odds_1 : decode cX9_odds 1 = .ok (.i2l, 1) := by decide +kernel
theorem dX9_odds_2 : decode cX9_odds 2 = .ok (.lconst 1, 1) := by decide +kernel
theorem dX9_odds_3 : decode cX9_odds 3 = .ok (.ldc2_w 194, 3) := by decide +kernel
theorem dX9_odds_6 : decode cX9_odds 6 = .ok (.invokestatic 104, 3) := by decide +kernel
theorem dX9_odds_9 : decode cX9_odds 9 = .ok (.ifCond .eq 30, 3) := by decide +kernel
theorem dX9_odds_12 : decode cX9_odds 12 = .ok (.iload_n 2, 1) := by decide +kernel
theorem dX9_odds_13 : decode cX9_odds 13 = .ok (.i2l, 1) := by decide +kernel
theorem dX9_odds_14 : decode cX9_odds 14 = .ok (.lconst 0, 1) := by decide +kernel
theorem dX9_odds_15 : decode cX9_odds 15 = .ok (.lconst 1, 1) := by decide +kernel
theorem dX9_odds_16 : decode cX9_odds 16 = .ok (.invokestatic 104, 3) := by decide +kernel
theorem dX9_odds_19 : decode cX9_odds 19 = .ok (.ifCond .eq 20, 3) := by decide +kernel
theorem dX9_odds_22 : decode cX9_odds 22 = .ok (.aload_n 0, 1) := by decide +kernel
theorem dX9_odds_23 : decode cX9_odds 23 = .ok (.aload_n 0, 1) := by decide +kernel
theorem dX9_odds_24 : decode cX9_odds 24 = .ok (.iload_n 1, 1) := by decide +kernel
theorem dX9_odds_25 : decode cX9_odds 25 = .ok (.iconst 0, 1) := by decide +kernel
theorem dX9_odds_26 : decode cX9_odds 26 = .ok (.invokevirtual 321, 3) := by decide +kernel
theorem dX9_odds_29 : decode cX9_odds 29 = .ok (.iload_n 1, 1) := by decide +kernel
theorem dX9_odds_30 : decode cX9_odds 30 = .ok (.iconst 1, 1) := by decide +kernel
theorem dX9_odds_31 : decode cX9_odds 31 = .ok (.iadd, 1) := by decide +kernel
theorem dX9_odds_32 : decode cX9_odds 32 = .ok (.iload_n 2, 1) := by decide +kernel
theorem dX9_odds_33 : decode cX9_odds 33 = .ok (.invokevirtual 344, 3) := by decide +kernel
theorem dX9_odds_36 : decode cX9_odds 36 = .ok (.goto 6, 3) := by decide +kernel
theorem dX9_odds_39 : decode cX9_odds 39 = .ok (.ldc2_w 301, 3) := by decide +kernel
theorem dX9_odds_42 : decode cX9_odds 42 = .ok (.lreturn, 1) := by decide +kernel
theorem dX9_mean_0 : decode cX9_mean 0 = .ok (.iload_n 1, 1) := by decide +kernel
theorem dX9_mean_1 : decode cX9_mean 1 = .ok (.i2l, 1) := by decide +kernel
theorem dX9_mean_2 : decode cX9_mean 2 = .ok (.lconst 1, 1) := by decide +kernel
theorem dX9_mean_3 : decode cX9_mean 3 = .ok (.ldc2_w 194, 3) := by decide +kernel
theorem dX9_mean_6 : decode cX9_mean 6 = .ok (.invokestatic 104, 3) := by decide +kernel
theorem dX9_mean_9 : decode cX9_mean 9 = .ok (.ifCond .eq 30, 3) := by decide +kernel
theorem dX9_mean_12 : decode cX9_mean 12 = .ok (.iload_n 2, 1) := by decide +kernel
theorem dX9_mean_13 : decode cX9_mean 13 = .ok (.i2l, 1) := by decide +kernel
theorem dX9_mean_14 : decode cX9_mean 14 = .ok (.lconst 0, 1) := by decide +kernel
theorem dX9_mean_15 : decode cX9_mean 15 = .ok (.lconst 1, 1) := by decide +kernel
theorem dX9_mean_16 : decode cX9_mean 16 = .ok (.invokestatic 104, 3) := by decide +kernel
theorem dX9_mean_19 : decode cX9_mean 19 = .ok (.ifCond .eq 20, 3) := by decide +kernel
theorem dX9_mean_22 : decode cX9_mean 22 = .ok (.aload_n 0, 1) := by decide +kernel
theorem dX9_mean_23 : decode cX9_mean 23 = .ok (.aload_n 0, 1) := by decide +kernel
theorem dX9_mean_24 : decode cX9_mean 24 = .ok (.iload_n 1, 1) := by decide +kernel
theorem dX9_mean_25 : decode cX9_mean 25 = .ok (.iconst 1, 1) := by decide +kernel
theorem dX9_mean_26 : decode cX9_mean 26 = .ok (.invokevirtual 321, 3) := by decide +kernel
theorem dX9_mean_29 : decode cX9_mean 29 = .ok (.iload_n 1, 1) := by decide +kernel
theorem dX9_mean_30 : decode cX9_mean 30 = .ok (.iconst 1, 1) := by decide +kernel
theorem dX9_mean_31 : decode cX9_mean 31 = .ok (.iadd, 1) := by decide +kernel
theorem dX9_mean_32 : decode cX9_mean 32 = .ok (.iload_n 2, 1) := by decide +kernel
theorem dX9_mean_33 : decode cX9_mean 33 = .ok (.invokevirtual 344, 3) := by decide +kernel
theorem dX9_mean_36 : decode cX9_mean 36 = .ok (.goto 6, 3) := by decide +kernel
theorem dX9_mean_39 : decode cX9_mean 39 = .ok (.ldc2_w 301, 3) := by decide +kernel
theorem dX9_mean_42 : decode cX9_mean 42 = .ok (.lreturn, 1) := by decide +kernel
theorem dX9_event_0 : decode cX9_event 0 = .ok (.iload_n 1, 1) := by decide +kernel
theorem dX9_event_1 : decode cX9_event 1 = .ok (.iconst (-1), 1) := by decide +kernel
theorem dX9_event_2 : decode cX9_event 2 = .ok (.if_icmp .ne 10, 3) := by decide +kernel
theorem dX9_event_5 : decode cX9_event 5 = .ok (.aload_n 0, 1) := by decide +kernel
theorem dX9_event_6 : decode cX9_event 6 = .ok (.iconst 0, 1) := by decide +kernel
theorem dX9_event_7 : decode cX9_event 7 = .ok (.putfield 348, 3) := by decide +kernel
theorem dX9_event_10 : decode cX9_event 10 = .ok (.iconst 0, 1) := by decide +kernel
theorem dX9_event_11 : decode cX9_event 11 = .ok (.ireturn, 1) := by decide +kernel
theorem dX9_event_12 : decode cX9_event 12 = .ok (.iload_n 1, 1) := by decide +kernel
theorem dX9_event_13 : decode cX9_event 13 = .ok (.i2l, 1) := by decide +kernel
theorem dX9_event_14 : decode cX9_event 14 = .ok (.lconst 0, 1) := by decide +kernel
theorem dX9_event_15 : decode cX9_event 15 = .ok (.ldc2_w 108, 3) := by decide +kernel
theorem dX9_event_18 : decode cX9_event 18 = .ok (.invokestatic 104, 3) := by decide +kernel
theorem dX9_event_21 : decode cX9_event 21 = .ok (.ifCond .ne 5, 3) := by decide +kernel
theorem dX9_event_24 : decode cX9_event 24 = .ok (.iconst (-1), 1) := by decide +kernel
theorem dX9_event_25 : decode cX9_event 25 = .ok (.ireturn, 1) := by decide +kernel
theorem dX9_event_26 : decode cX9_event 26 = .ok (.iload_n 1, 1) := by decide +kernel
theorem dX9_event_27 : decode cX9_event 27 = .ok (.ifCond .ne 13, 3) := by decide +kernel
theorem dX9_event_30 : decode cX9_event 30 = .ok (.iload_n 2, 1) := by decide +kernel
theorem dX9_event_31 : decode cX9_event 31 = .ok (.invokestatic 206, 3) := by decide +kernel
theorem dX9_event_34 : decode cX9_event 34 = .ok (.ifCond .ne 33, 3) := by decide +kernel
theorem dX9_event_37 : decode cX9_event 37 = .ok (.goto 27, 3) := by decide +kernel
theorem dX9_event_40 : decode cX9_event 40 = .ok (.iload_n 1, 1) := by decide +kernel
theorem dX9_event_41 : decode cX9_event 41 = .ok (.iconst 1, 1) := by decide +kernel
theorem dX9_event_42 : decode cX9_event 42 = .ok (.if_icmp .ne 18, 3) := by decide +kernel
theorem dX9_event_45 : decode cX9_event 45 = .ok (.iload_n 2, 1) := by decide +kernel
theorem dX9_event_46 : decode cX9_event 46 = .ok (.i2l, 1) := by decide +kernel
theorem dX9_event_47 : decode cX9_event 47 = .ok (.lconst 1, 1) := by decide +kernel
theorem dX9_event_48 : decode cX9_event 48 = .ok (.ldc2_w 196, 3) := by decide +kernel
theorem dX9_event_51 : decode cX9_event 51 = .ok (.invokestatic 104, 3) := by decide +kernel
theorem dX9_event_54 : decode cX9_event 54 = .ok (.ifCond .ne 13, 3) := by decide +kernel
theorem dX9_event_57 : decode cX9_event 57 = .ok (.goto 7, 3) := by decide +kernel
theorem dX9_event_60 : decode cX9_event 60 = .ok (.iload_n 2, 1) := by decide +kernel
theorem dX9_event_61 : decode cX9_event 61 = .ok (.ifCond .eq 6, 3) := by decide +kernel
theorem dX9_event_64 : decode cX9_event 64 = .ok (.bipush (-2), 2) := by decide +kernel
theorem dX9_event_66 : decode cX9_event 66 = .ok (.ireturn, 1) := by decide +kernel
theorem dX9_event_67 : decode cX9_event 67 = .ok (.aload_n 0, 1) := by decide +kernel
theorem dX9_event_68 : decode cX9_event 68 = .ok (.getfield 348, 3) := by decide +kernel
theorem dX9_event_71 : decode cX9_event 71 = .ok (.bipush 8, 2) := by decide +kernel
theorem dX9_event_73 : decode cX9_event 73 = .ok (.if_icmp .ne 6, 3) := by decide +kernel
theorem dX9_event_76 : decode cX9_event 76 = .ok (.bipush (-4), 2) := by decide +kernel
theorem dX9_event_78 : decode cX9_event 78 = .ok (.ireturn, 1) := by decide +kernel
theorem dX9_event_79 : decode cX9_event 79 = .ok (.aload_n 0, 1) := by decide +kernel
theorem dX9_event_80 : decode cX9_event 80 = .ok (.getfield 66, 3) := by decide +kernel
theorem dX9_event_83 : decode cX9_event 83 = .ok (.aload_n 0, 1) := by decide +kernel
theorem dX9_event_84 : decode cX9_event 84 = .ok (.getfield 348, 3) := by decide +kernel
theorem dX9_event_87 : decode cX9_event 87 = .ok (.iload_n 1, 1) := by decide +kernel
theorem dX9_event_88 : decode cX9_event 88 = .ok (.iastore, 1) := by decide +kernel
theorem dX9_event_89 : decode cX9_event 89 = .ok (.aload_n 0, 1) := by decide +kernel
theorem dX9_event_90 : decode cX9_event 90 = .ok (.getfield 69, 3) := by decide +kernel
theorem dX9_event_93 : decode cX9_event 93 = .ok (.aload_n 0, 1) := by decide +kernel
theorem dX9_event_94 : decode cX9_event 94 = .ok (.getfield 348, 3) := by decide +kernel
theorem dX9_event_97 : decode cX9_event 97 = .ok (.iload_n 2, 1) := by decide +kernel
theorem dX9_event_98 : decode cX9_event 98 = .ok (.iastore, 1) := by decide +kernel
theorem dX9_event_99 : decode cX9_event 99 = .ok (.aload_n 0, 1) := by decide +kernel
theorem dX9_event_100 : decode cX9_event 100 = .ok (.dup, 1) := by decide +kernel
theorem dX9_event_101 : decode cX9_event 101 = .ok (.getfield 348, 3) := by decide +kernel
theorem dX9_event_104 : decode cX9_event 104 = .ok (.iconst 1, 1) := by decide +kernel
theorem dX9_event_105 : decode cX9_event 105 = .ok (.iadd, 1) := by decide +kernel
theorem dX9_event_106 : decode cX9_event 106 = .ok (.putfield 348, 3) := by decide +kernel
theorem dX9_event_109 : decode cX9_event 109 = .ok (.aload_n 0, 1) := by decide +kernel
theorem dX9_event_110 : decode cX9_event 110 = .ok (.getfield 348, 3) := by decide +kernel
theorem dX9_event_113 : decode cX9_event 113 = .ok (.ireturn, 1) := by decide +kernel
theorem dX9_happens_0 : decode cX9_happens 0 = .ok (.iload_n 1, 1) := by decide +kernel
theorem dX9_happens_1 : decode cX9_happens 1 = .ok (.ifCond .ne 12, 3) := by decide +kernel
theorem dX9_happens_4 : decode cX9_happens 4 = .ok (.aload_n 0, 1) := by decide +kernel
theorem dX9_happens_5 : decode cX9_happens 5 = .ok (.iload_n 2, 1) := by decide +kernel
theorem dX9_happens_6 : decode cX9_happens 6 = .ok (.invokevirtual 210, 3) := by decide +kernel
theorem dX9_happens_9 : decode cX9_happens 9 = .ok (.istore_n 3, 1) := by decide +kernel
theorem dX9_happens_10 : decode cX9_happens 10 = .ok (.goto 52, 3) := by decide +kernel
theorem dX9_happens_13 : decode cX9_happens 13 = .ok (.iload_n 1, 1) := by decide +kernel
theorem dX9_happens_14 : decode cX9_happens 14 = .ok (.iconst 1, 1) := by decide +kernel
theorem dX9_happens_15 : decode cX9_happens 15 = .ok (.if_icmp .ne 11, 3) := by decide +kernel
theorem dX9_happens_18 : decode cX9_happens 18 = .ok (.aload_n 0, 1) := by decide +kernel
theorem dX9_happens_19 : decode cX9_happens 19 = .ok (.iload_n 2, 1) := by decide +kernel
theorem dX9_happens_20 : decode cX9_happens 20 = .ok (.putfield 9, 3) := by decide +kernel
theorem dX9_happens_23 : decode cX9_happens 23 = .ok (.goto 39, 3) := by decide +kernel
theorem dX9_happens_26 : decode cX9_happens 26 = .ok (.aload_n 0, 1) := by decide +kernel
theorem dX9_happens_27 : decode cX9_happens 27 = .ok (.getfield 9, 3) := by decide +kernel
theorem dX9_happens_30 : decode cX9_happens 30 = .ok (.istore_n 3, 1) := by decide +kernel
theorem dX9_happens_31 : decode cX9_happens 31 = .ok (.aload_n 0, 1) := by decide +kernel
theorem dX9_happens_32 : decode cX9_happens 32 = .ok (.aload_n 0, 1) := by decide +kernel
theorem dX9_happens_33 : decode cX9_happens 33 = .ok (.getfield 15, 3) := by decide +kernel
theorem dX9_happens_36 : decode cX9_happens 36 = .ok (.putfield 9, 3) := by decide +kernel
theorem dX9_happens_39 : decode cX9_happens 39 = .ok (.aload_n 0, 1) := by decide +kernel
theorem dX9_happens_40 : decode cX9_happens 40 = .ok (.iload_n 3, 1) := by decide +kernel
theorem dX9_happens_41 : decode cX9_happens 41 = .ok (.putfield 15, 3) := by decide +kernel
theorem dX9_happens_44 : decode cX9_happens 44 = .ok (.aload_n 0, 1) := by decide +kernel
theorem dX9_happens_45 : decode cX9_happens 45 = .ok (.getfield 18, 3) := by decide +kernel
theorem dX9_happens_48 : decode cX9_happens 48 = .ok (.istore_n 3, 1) := by decide +kernel
theorem dX9_happens_49 : decode cX9_happens 49 = .ok (.aload_n 0, 1) := by decide +kernel
theorem dX9_happens_50 : decode cX9_happens 50 = .ok (.aload_n 0, 1) := by decide +kernel
theorem dX9_happens_51 : decode cX9_happens 51 = .ok (.getfield 21, 3) := by decide +kernel
theorem dX9_happens_54 : decode cX9_happens 54 = .ok (.putfield 18, 3) := by decide +kernel
theorem dX9_happens_57 : decode cX9_happens 57 = .ok (.aload_n 0, 1) := by decide +kernel
theorem dX9_happens_58 : decode cX9_happens 58 = .ok (.iload_n 3, 1) := by decide +kernel
theorem dX9_happens_59 : decode cX9_happens 59 = .ok (.putfield 21, 3) := by decide +kernel
theorem dX9_happens_62 : decode cX9_happens 62 = .ok (.return_, 1) := by decide +kernel
theorem dX9_after_0 : decode cX9_after 0 = .ok (.iload_n 1, 1) := by decide +kernel
theorem dX9_after_1 : decode cX9_after 1 = .ok (.i2l, 1) := by decide +kernel
theorem dX9_after_2 : decode cX9_after 2 = .ok (.lconst 0, 1) := by decide +kernel
theorem dX9_after_3 : decode cX9_after 3 = .ok (.ldc2_w 108, 3) := by decide +kernel
theorem dX9_after_6 : decode cX9_after 6 = .ok (.invokestatic 104, 3) := by decide +kernel
theorem dX9_after_9 : decode cX9_after 9 = .ok (.ifCond .ne 7, 3) := by decide +kernel
theorem dX9_after_12 : decode cX9_after 12 = .ok (.ldc2_w 301, 3) := by decide +kernel
theorem dX9_after_15 : decode cX9_after 15 = .ok (.lreturn, 1) := by decide +kernel
theorem dX9_after_16 : decode cX9_after 16 = .ok (.aload_n 0, 1) := by decide +kernel
theorem dX9_after_17 : decode cX9_after 17 = .ok (.getfield 9, 3) := by decide +kernel
theorem dX9_after_20 : decode cX9_after 20 = .ok (.istore_n 2, 1) := by decide +kernel
theorem dX9_after_21 : decode cX9_after 21 = .ok (.aload_n 0, 1) := by decide +kernel
theorem dX9_after_22 : decode cX9_after 22 = .ok (.getfield 15, 3) := by decide +kernel
theorem dX9_after_25 : decode cX9_after 25 = .ok (.istore_n 3, 1) := by decide +kernel
theorem dX9_after_26 : decode cX9_after 26 = .ok (.aload_n 0, 1) := by decide +kernel
theorem dX9_after_27 : decode cX9_after 27 = .ok (.getfield 18, 3) := by decide +kernel
theorem dX9_after_30 : decode cX9_after 30 = .ok (.istore 4, 2) := by decide +kernel
theorem dX9_after_32 : decode cX9_after 32 = .ok (.aload_n 0, 1) := by decide +kernel
theorem dX9_after_33 : decode cX9_after 33 = .ok (.getfield 21, 3) := by decide +kernel
theorem dX9_after_36 : decode cX9_after 36 = .ok (.istore 5, 2) := by decide +kernel
theorem dX9_after_38 : decode cX9_after 38 = .ok (.iconst 0, 1) := by decide +kernel
theorem dX9_after_39 : decode cX9_after 39 = .ok (.istore 6, 2) := by decide +kernel
theorem dX9_after_41 : decode cX9_after 41 = .ok (.iload 6, 2) := by decide +kernel
theorem dX9_after_43 : decode cX9_after 43 = .ok (.aload_n 0, 1) := by decide +kernel
theorem dX9_after_44 : decode cX9_after 44 = .ok (.getfield 348, 3) := by decide +kernel
theorem dX9_after_47 : decode cX9_after 47 = .ok (.if_icmp .ge 27, 3) := by decide +kernel
theorem dX9_after_50 : decode cX9_after 50 = .ok (.aload_n 0, 1) := by decide +kernel
theorem dX9_after_51 : decode cX9_after 51 = .ok (.aload_n 0, 1) := by decide +kernel
theorem dX9_after_52 : decode cX9_after 52 = .ok (.getfield 66, 3) := by decide +kernel
theorem dX9_after_55 : decode cX9_after 55 = .ok (.iload 6, 2) := by decide +kernel
theorem dX9_after_57 : decode cX9_after 57 = .ok (.iaload, 1) := by decide +kernel
theorem dX9_after_58 : decode cX9_after 58 = .ok (.aload_n 0, 1) := by decide +kernel
theorem dX9_after_59 : decode cX9_after 59 = .ok (.getfield 69, 3) := by decide +kernel
theorem dX9_after_62 : decode cX9_after 62 = .ok (.iload 6, 2) := by decide +kernel
theorem dX9_after_64 : decode cX9_after 64 = .ok (.iaload, 1) := by decide +kernel
theorem dX9_after_65 : decode cX9_after 65 = .ok (.invokevirtual 351, 3) := by decide +kernel
theorem dX9_after_68 : decode cX9_after 68 = .ok (.iinc 6 1, 3) := by decide +kernel
theorem dX9_after_71 : decode cX9_after 71 = .ok (.goto (-30), 3) := by decide +kernel
theorem dX9_after_74 : decode cX9_after 74 = .ok (.iload_n 1, 1) := by decide +kernel
theorem dX9_after_75 : decode cX9_after 75 = .ok (.ifCond .ne 19, 3) := by decide +kernel
theorem dX9_after_78 : decode cX9_after 78 = .ok (.aload_n 0, 1) := by decide +kernel
theorem dX9_after_79 : decode cX9_after 79 = .ok (.aload_n 0, 1) := by decide +kernel
theorem dX9_after_80 : decode cX9_after 80 = .ok (.getfield 18, 3) := by decide +kernel
theorem dX9_after_83 : decode cX9_after 83 = .ok (.aload_n 0, 1) := by decide +kernel
theorem dX9_after_84 : decode cX9_after 84 = .ok (.getfield 21, 3) := by decide +kernel
theorem dX9_after_87 : decode cX9_after 87 = .ok (.invokevirtual 173, 3) := by decide +kernel
theorem dX9_after_90 : decode cX9_after 90 = .ok (.i2l, 1) := by decide +kernel
theorem dX9_after_91 : decode cX9_after 91 = .ok (.goto 30, 3) := by decide +kernel
theorem dX9_after_94 : decode cX9_after 94 = .ok (.iload_n 1, 1) := by decide +kernel
theorem dX9_after_95 : decode cX9_after 95 = .ok (.iconst 1, 1) := by decide +kernel
theorem dX9_after_96 : decode cX9_after 96 = .ok (.if_icmp .ne 11, 3) := by decide +kernel
theorem dX9_after_99 : decode cX9_after 99 = .ok (.aload_n 0, 1) := by decide +kernel
theorem dX9_after_100 : decode cX9_after 100 = .ok (.invokevirtual 298, 3) := by decide +kernel
theorem dX9_after_103 : decode cX9_after 103 = .ok (.i2l, 1) := by decide +kernel
theorem dX9_after_104 : decode cX9_after 104 = .ok (.goto 17, 3) := by decide +kernel
theorem dX9_after_107 : decode cX9_after 107 = .ok (.aload_n 0, 1) := by decide +kernel
theorem dX9_after_108 : decode cX9_after 108 = .ok (.aload_n 0, 1) := by decide +kernel
theorem dX9_after_109 : decode cX9_after 109 = .ok (.getfield 18, 3) := by decide +kernel
theorem dX9_after_112 : decode cX9_after 112 = .ok (.i2l, 1) := by decide +kernel
theorem dX9_after_113 : decode cX9_after 113 = .ok (.aload_n 0, 1) := by decide +kernel
theorem dX9_after_114 : decode cX9_after 114 = .ok (.getfield 21, 3) := by decide +kernel
theorem dX9_after_117 : decode cX9_after 117 = .ok (.i2l, 1) := by decide +kernel
theorem dX9_after_118 : decode cX9_after 118 = .ok (.invokevirtual 170, 3) := by decide +kernel
theorem dX9_after_121 : decode cX9_after 121 = .ok (.lstore 6, 2) := by decide +kernel
theorem dX9_after_123 : decode cX9_after 123 = .ok (.aload_n 0, 1) := by decide +kernel
theorem dX9_after_124 : decode cX9_after 124 = .ok (.iload_n 2, 1) := by decide +kernel
theorem dX9_after_125 : decode cX9_after 125 = .ok (.putfield 9, 3) := by decide +kernel
theorem dX9_after_128 : decode cX9_after 128 = .ok (.aload_n 0, 1) := by decide +kernel
theorem dX9_after_129 : decode cX9_after 129 = .ok (.iload_n 3, 1) := by decide +kernel
theorem dX9_after_130 : decode cX9_after 130 = .ok (.putfield 15, 3) := by decide +kernel
theorem dX9_after_133 : decode cX9_after 133 = .ok (.aload_n 0, 1) := by decide +kernel
theorem dX9_after_134 : decode cX9_after 134 = .ok (.iload 4, 2) := by decide +kernel
theorem dX9_after_136 : decode cX9_after 136 = .ok (.putfield 18, 3) := by decide +kernel
theorem dX9_after_139 : decode cX9_after 139 = .ok (.aload_n 0, 1) := by decide +kernel
theorem dX9_after_140 : decode cX9_after 140 = .ok (.iload 5, 2) := by decide +kernel
theorem dX9_after_142 : decode cX9_after 142 = .ok (.putfield 21, 3) := by decide +kernel
theorem dX9_after_145 : decode cX9_after 145 = .ok (.lload 6, 2) := by decide +kernel
theorem dX9_after_147 : decode cX9_after 147 = .ok (.lreturn, 1) := by decide +kernel
theorem dX9_book_0 : decode cX9_book 0 = .ok (.iload_n 1, 1) := by decide +kernel
theorem dX9_book_1 : decode cX9_book 1 = .ok (.iconst (-1), 1) := by decide +kernel
theorem dX9_book_2 : decode cX9_book 2 = .ok (.if_icmp .ne 10, 3) := by decide +kernel
theorem dX9_book_5 : decode cX9_book 5 = .ok (.aload_n 0, 1) := by decide +kernel
theorem dX9_book_6 : decode cX9_book 6 = .ok (.iconst 0, 1) := by decide +kernel
theorem dX9_book_7 : decode cX9_book 7 = .ok (.putfield 354, 3) := by decide +kernel
theorem dX9_book_10 : decode cX9_book 10 = .ok (.iconst 0, 1) := by decide +kernel
theorem dX9_book_11 : decode cX9_book 11 = .ok (.ireturn, 1) := by decide +kernel
theorem dX9_book_12 : decode cX9_book 12 = .ok (.iload_n 1, 1) := by decide +kernel
theorem dX9_book_13 : decode cX9_book 13 = .ok (.iload_n 2, 1) := by decide +kernel
theorem dX9_book_14 : decode cX9_book 14 = .ok (.iconst 1, 1) := by decide +kernel
theorem dX9_book_15 : decode cX9_book 15 = .ok (.invokestatic 315, 3) := by decide +kernel
theorem dX9_book_18 : decode cX9_book 18 = .ok (.ifCond .eq 15, 3) := by decide +kernel
theorem dX9_book_21 : decode cX9_book 21 = .ok (.iload_n 3, 1) := by decide +kernel
theorem dX9_book_22 : decode cX9_book 22 = .ok (.i2l, 1) := by decide +kernel
theorem dX9_book_23 : decode cX9_book 23 = .ok (.lconst 0, 1) := by decide +kernel
theorem dX9_book_24 : decode cX9_book 24 = .ok (.ldc2_w 102, 3) := by decide +kernel
theorem dX9_book_27 : decode cX9_book 27 = .ok (.invokestatic 104, 3) := by decide +kernel
theorem dX9_book_30 : decode cX9_book 30 = .ok (.ifCond .ne 6, 3) := by decide +kernel
theorem dX9_book_33 : decode cX9_book 33 = .ok (.bipush (-2), 2) := by decide +kernel
theorem dX9_book_35 : decode cX9_book 35 = .ok (.ireturn, 1) := by decide +kernel
theorem dX9_book_36 : decode cX9_book 36 = .ok (.aload_n 0, 1) := by decide +kernel
theorem dX9_book_37 : decode cX9_book 37 = .ok (.getfield 354, 3) := by decide +kernel
theorem dX9_book_40 : decode cX9_book 40 = .ok (.bipush 8, 2) := by decide +kernel
theorem dX9_book_42 : decode cX9_book 42 = .ok (.if_icmp .ne 6, 3) := by decide +kernel
theorem dX9_book_45 : decode cX9_book 45 = .ok (.bipush (-4), 2) := by decide +kernel
theorem dX9_book_47 : decode cX9_book 47 = .ok (.ireturn, 1) := by decide +kernel
theorem dX9_book_48 : decode cX9_book 48 = .ok (.aload_n 0, 1) := by decide +kernel
theorem dX9_book_49 : decode cX9_book 49 = .ok (.getfield 72, 3) := by decide +kernel
theorem dX9_book_52 : decode cX9_book 52 = .ok (.aload_n 0, 1) := by decide +kernel
theorem dX9_book_53 : decode cX9_book 53 = .ok (.getfield 354, 3) := by decide +kernel
theorem dX9_book_56 : decode cX9_book 56 = .ok (.iload_n 1, 1) := by decide +kernel
theorem dX9_book_57 : decode cX9_book 57 = .ok (.iastore, 1) := by decide +kernel
theorem dX9_book_58 : decode cX9_book 58 = .ok (.aload_n 0, 1) := by decide +kernel
theorem dX9_book_59 : decode cX9_book 59 = .ok (.getfield 75, 3) := by decide +kernel
theorem dX9_book_62 : decode cX9_book 62 = .ok (.aload_n 0, 1) := by decide +kernel
theorem dX9_book_63 : decode cX9_book 63 = .ok (.getfield 354, 3) := by decide +kernel
theorem dX9_book_66 : decode cX9_book 66 = .ok (.iload_n 2, 1) := by decide +kernel
theorem dX9_book_67 : decode cX9_book 67 = .ok (.iastore, 1) := by decide +kernel
theorem dX9_book_68 : decode cX9_book 68 = .ok (.aload_n 0, 1) := by decide +kernel
theorem dX9_book_69 : decode cX9_book 69 = .ok (.getfield 78, 3) := by decide +kernel
theorem dX9_book_72 : decode cX9_book 72 = .ok (.aload_n 0, 1) := by decide +kernel
theorem dX9_book_73 : decode cX9_book 73 = .ok (.getfield 354, 3) := by decide +kernel
theorem dX9_book_76 : decode cX9_book 76 = .ok (.iload_n 3, 1) := by decide +kernel
theorem dX9_book_77 : decode cX9_book 77 = .ok (.iastore, 1) := by decide +kernel
theorem dX9_book_78 : decode cX9_book 78 = .ok (.aload_n 0, 1) := by decide +kernel
theorem dX9_book_79 : decode cX9_book 79 = .ok (.dup, 1) := by decide +kernel
theorem dX9_book_80 : decode cX9_book 80 = .ok (.getfield 354, 3) := by decide +kernel
theorem dX9_book_83 : decode cX9_book 83 = .ok (.iconst 1, 1) := by decide +kernel
theorem dX9_book_84 : decode cX9_book 84 = .ok (.iadd, 1) := by decide +kernel
theorem dX9_book_85 : decode cX9_book 85 = .ok (.putfield 354, 3) := by decide +kernel
theorem dX9_book_88 : decode cX9_book 88 = .ok (.aload_n 0, 1) := by decide +kernel
theorem dX9_book_89 : decode cX9_book 89 = .ok (.getfield 354, 3) := by decide +kernel
theorem dX9_book_92 : decode cX9_book 92 = .ok (.ireturn, 1) := by decide +kernel
theorem dX9_looked_0 : decode cX9_looked 0 = .ok (.iconst 0, 1) := by decide +kernel
theorem dX9_looked_1 : decode cX9_looked 1 = .ok (.istore_n 1, 1) := by decide +kernel
theorem dX9_looked_2 : decode cX9_looked 2 = .ok (.iload_n 1, 1) := by decide +kernel
theorem dX9_looked_3 : decode cX9_looked 3 = .ok (.aload_n 0, 1) := by decide +kernel
theorem dX9_looked_4 : decode cX9_looked 4 = .ok (.getfield 354, 3) := by decide +kernel
theorem dX9_looked_7 : decode cX9_looked 7 = .ok (.if_icmp .ge 36, 3) := by decide +kernel
theorem dX9_looked_10 : decode cX9_looked 10 = .ok (.aload_n 0, 1) := by decide +kernel
theorem dX9_looked_11 : decode cX9_looked 11 = .ok (.aload_n 0, 1) := by decide +kernel
theorem dX9_looked_12 : decode cX9_looked 12 = .ok (.getfield 72, 3) := by decide +kernel
theorem dX9_looked_15 : decode cX9_looked 15 = .ok (.iload_n 1, 1) := by decide +kernel
theorem dX9_looked_16 : decode cX9_looked 16 = .ok (.iaload, 1) := by decide +kernel
theorem dX9_looked_17 : decode cX9_looked 17 = .ok (.aload_n 0, 1) := by decide +kernel
theorem dX9_looked_18 : decode cX9_looked 18 = .ok (.getfield 75, 3) := by decide +kernel
theorem dX9_looked_21 : decode cX9_looked 21 = .ok (.iload_n 1, 1) := by decide +kernel
theorem dX9_looked_22 : decode cX9_looked 22 = .ok (.iaload, 1) := by decide +kernel
theorem dX9_looked_23 : decode cX9_looked 23 = .ok (.invokevirtual 318, 3) := by decide +kernel
theorem dX9_looked_26 : decode cX9_looked 26 = .ok (.aload_n 0, 1) := by decide +kernel
theorem dX9_looked_27 : decode cX9_looked 27 = .ok (.getfield 78, 3) := by decide +kernel
theorem dX9_looked_30 : decode cX9_looked 30 = .ok (.iload_n 1, 1) := by decide +kernel
theorem dX9_looked_31 : decode cX9_looked 31 = .ok (.iaload, 1) := by decide +kernel
theorem dX9_looked_32 : decode cX9_looked 32 = .ok (.if_icmp .eq 5, 3) := by decide +kernel
theorem dX9_looked_35 : decode cX9_looked 35 = .ok (.iload_n 1, 1) := by decide +kernel
theorem dX9_looked_36 : decode cX9_looked 36 = .ok (.ireturn, 1) := by decide +kernel
theorem dX9_looked_37 : decode cX9_looked 37 = .ok (.iinc 1 1, 3) := by decide +kernel
theorem dX9_looked_40 : decode cX9_looked 40 = .ok (.goto (-38), 3) := by decide +kernel
theorem dX9_looked_43 : decode cX9_looked 43 = .ok (.bipush (-5), 2) := by decide +kernel
theorem dX9_looked_45 : decode cX9_looked 45 = .ok (.ireturn, 1) := by decide +kernel
theorem dX9_judge_0 : decode cX9_judge 0 = .ok (.iload_n 1, 1) := by decide +kernel
theorem dX9_judge_1 : decode cX9_judge 1 = .ok (.invokestatic 357, 3) := by decide +kernel
theorem dX9_judge_4 : decode cX9_judge 4 = .ok (.ifCond .ne 5, 3) := by decide +kernel
theorem dX9_judge_7 : decode cX9_judge 7 = .ok (.iconst (-1), 1) := by decide +kernel
theorem dX9_judge_8 : decode cX9_judge 8 = .ok (.ireturn, 1) := by decide +kernel
theorem dX9_judge_9 : decode cX9_judge 9 = .ok (.aload_n 0, 1) := by decide +kernel
theorem dX9_judge_10 : decode cX9_judge 10 = .ok (.getfield 89, 3) := by decide +kernel
theorem dX9_judge_13 : decode cX9_judge 13 = .ok (.iload_n 1, 1) := by decide +kernel
theorem dX9_judge_14 : decode cX9_judge 14 = .ok (.iaload, 1) := by decide +kernel
theorem dX9_judge_15 : decode cX9_judge 15 = .ok (.ifCond .lt 16, 3) := by decide +kernel
theorem dX9_judge_18 : decode cX9_judge 18 = .ok (.aload_n 0, 1) := by decide +kernel
theorem dX9_judge_19 : decode cX9_judge 19 = .ok (.getfield 89, 3) := by decide +kernel
theorem dX9_judge_22 : decode cX9_judge 22 = .ok (.iload_n 1, 1) := by decide +kernel
theorem dX9_judge_23 : decode cX9_judge 23 = .ok (.iaload, 1) := by decide +kernel
theorem dX9_judge_24 : decode cX9_judge 24 = .ok (.iconst 2, 1) := by decide +kernel
theorem dX9_judge_25 : decode cX9_judge 25 = .ok (.if_icmp .eq 6, 3) := by decide +kernel
theorem dX9_judge_28 : decode cX9_judge 28 = .ok (.bipush (-12), 2) := by decide +kernel
theorem dX9_judge_30 : decode cX9_judge 30 = .ok (.ireturn, 1) := by decide +kernel
theorem dX9_judge_31 : decode cX9_judge 31 = .ok (.iconst 1, 1) := by decide +kernel
theorem dX9_judge_32 : decode cX9_judge 32 = .ok (.istore_n 3, 1) := by decide +kernel
theorem dX9_judge_33 : decode cX9_judge 33 = .ok (.iload_n 3, 1) := by decide +kernel
theorem dX9_judge_34 : decode cX9_judge 34 = .ok (.bipush 12, 2) := by decide +kernel
theorem dX9_judge_36 : decode cX9_judge 36 = .ok (.if_icmp .gt 66, 3) := by decide +kernel
theorem dX9_judge_39 : decode cX9_judge 39 = .ok (.aload_n 0, 1) := by decide +kernel
theorem dX9_judge_40 : decode cX9_judge 40 = .ok (.getfield 89, 3) := by decide +kernel
theorem dX9_judge_43 : decode cX9_judge 43 = .ok (.iload_n 1, 1) := by decide +kernel
theorem dX9_judge_44 : decode cX9_judge 44 = .ok (.iaload, 1) := by decide +kernel
theorem dX9_judge_45 : decode cX9_judge 45 = .ok (.ifCond .lt 21, 3) := by decide +kernel
theorem dX9_judge_48 : decode cX9_judge 48 = .ok (.iload_n 2, 1) := by decide +kernel
theorem dX9_judge_49 : decode cX9_judge 49 = .ok (.ifCond .lt 17, 3) := by decide +kernel
theorem dX9_judge_52 : decode cX9_judge 52 = .ok (.iload_n 3, 1) := by decide +kernel
theorem dX9_judge_53 : decode cX9_judge 53 = .ok (.iconst 1, 1) := by decide +kernel
theorem dX9_judge_54 : decode cX9_judge 54 = .ok (.isub, 1) := by decide +kernel
theorem dX9_judge_55 : decode cX9_judge 55 = .ok (.aload_n 0, 1) := by decide +kernel
theorem dX9_judge_56 : decode cX9_judge 56 = .ok (.getfield 92, 3) := by decide +kernel
theorem dX9_judge_59 : decode cX9_judge 59 = .ok (.iload_n 1, 1) := by decide +kernel
theorem dX9_judge_60 : decode cX9_judge 60 = .ok (.iaload, 1) := by decide +kernel
theorem dX9_judge_61 : decode cX9_judge 61 = .ok (.iload_n 2, 1) := by decide +kernel
theorem dX9_judge_62 : decode cX9_judge 62 = .ok (.isub, 1) := by decide +kernel
theorem dX9_judge_63 : decode cX9_judge 63 = .ok (.if_icmp .lt 8, 3) := by decide +kernel
theorem dX9_judge_66 : decode cX9_judge 66 = .ok (.bipush 99, 2) := by decide +kernel
theorem dX9_judge_68 : decode cX9_judge 68 = .ok (.iload_n 3, 1) := by decide +kernel
theorem dX9_judge_69 : decode cX9_judge 69 = .ok (.iadd, 1) := by decide +kernel
theorem dX9_judge_70 : decode cX9_judge 70 = .ok (.ireturn, 1) := by decide +kernel
theorem dX9_judge_71 : decode cX9_judge 71 = .ok (.aload_n 0, 1) := by decide +kernel
theorem dX9_judge_72 : decode cX9_judge 72 = .ok (.getfield 97, 3) := by decide +kernel
theorem dX9_judge_75 : decode cX9_judge 75 = .ok (.iload_n 1, 1) := by decide +kernel
theorem dX9_judge_76 : decode cX9_judge 76 = .ok (.aaload, 1) := by decide +kernel
theorem dX9_judge_77 : decode cX9_judge 77 = .ok (.iload_n 2, 1) := by decide +kernel
theorem dX9_judge_78 : decode cX9_judge 78 = .ok (.iload_n 3, 1) := by decide +kernel
theorem dX9_judge_79 : decode cX9_judge 79 = .ok (.iadd, 1) := by decide +kernel
theorem dX9_judge_80 : decode cX9_judge 80 = .ok (.iconst 1, 1) := by decide +kernel
theorem dX9_judge_81 : decode cX9_judge 81 = .ok (.isub, 1) := by decide +kernel
theorem dX9_judge_82 : decode cX9_judge 82 = .ok (.laload, 1) := by decide +kernel
theorem dX9_judge_83 : decode cX9_judge 83 = .ok (.aload_n 0, 1) := by decide +kernel
theorem dX9_judge_84 : decode cX9_judge 84 = .ok (.iload_n 3, 1) := by decide +kernel
theorem dX9_judge_85 : decode cX9_judge 85 = .ok (.iconst 1, 1) := by decide +kernel
theorem dX9_judge_86 : decode cX9_judge 86 = .ok (.invokevirtual 321, 3) := by decide +kernel
theorem dX9_judge_89 : decode cX9_judge 89 = .ok (.i2l, 1) := by decide +kernel
theorem dX9_judge_90 : decode cX9_judge 90 = .ok (.lcmp, 1) := by decide +kernel
theorem dX9_judge_91 : decode cX9_judge 91 = .ok (.ifCond .eq 5, 3) := by decide +kernel
theorem dX9_judge_94 : decode cX9_judge 94 = .ok (.iload_n 3, 1) := by decide +kernel
theorem dX9_judge_95 : decode cX9_judge 95 = .ok (.ireturn, 1) := by decide +kernel
theorem dX9_judge_96 : decode cX9_judge 96 = .ok (.iinc 3 1, 3) := by decide +kernel
theorem dX9_judge_99 : decode cX9_judge 99 = .ok (.goto (-66), 3) := by decide +kernel
theorem dX9_judge_102 : decode cX9_judge 102 = .ok (.bipush (-5), 2) := by decide +kernel
theorem dX9_judge_104 : decode cX9_judge 104 = .ok (.ireturn, 1) := by decide +kernel
