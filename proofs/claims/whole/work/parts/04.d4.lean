theorem dX9_rowOf_0 : decode cX9_rowOf 0 = .ok (.iload_n 1, 1) := by decide +kernel
theorem dX9_rowOf_1 : decode cX9_rowOf 1 = .ok (.tableswitch 96 0 8 #[51, 56, 61, 66, 71, 76, 81, 86, 91], 51) := by decide +kernel
theorem dX9_rowOf_52 : decode cX9_rowOf 52 = .ok (.aload_n 0, 1) := by decide +kernel
theorem dX9_rowOf_53 : decode cX9_rowOf 53 = .ok (.getfield 35, 3) := by decide +kernel
theorem dX9_rowOf_56 : decode cX9_rowOf 56 = .ok (.areturn, 1) := by decide +kernel
theorem dX9_rowOf_57 : decode cX9_rowOf 57 = .ok (.aload_n 0, 1) := by decide +kernel
theorem dX9_rowOf_58 : decode cX9_rowOf 58 = .ok (.getfield 38, 3) := by decide +kernel
theorem dX9_rowOf_61 : decode cX9_rowOf 61 = .ok (.areturn, 1) := by decide +kernel
theorem dX9_rowOf_62 : decode cX9_rowOf 62 = .ok (.aload_n 0, 1) := by decide +kernel
theorem dX9_rowOf_63 : decode cX9_rowOf 63 = .ok (.getfield 57, 3) := by decide +kernel
theorem dX9_rowOf_66 : decode cX9_rowOf 66 = .ok (.areturn, 1) := by decide +kernel
theorem dX9_rowOf_67 : decode cX9_rowOf 67 = .ok (.aload_n 0, 1) := by decide +kernel
theorem dX9_rowOf_68 : decode cX9_rowOf 68 = .ok (.getfield 60, 3) := by decide +kernel
theorem dX9_rowOf_71 : decode cX9_rowOf 71 = .ok (.areturn, 1) := by decide +kernel
theorem dX9_rowOf_72 : decode cX9_rowOf 72 = .ok (.aload_n 0, 1) := by decide +kernel
theorem dX9_rowOf_73 : decode cX9_rowOf 73 = .ok (.getfield 63, 3) := by decide +kernel
theorem dX9_rowOf_76 : decode cX9_rowOf 76 = .ok (.areturn, 1) := by decide +kernel
theorem dX9_rowOf_77 : decode cX9_rowOf 77 = .ok (.aload_n 0, 1) := by decide +kernel
theorem dX9_rowOf_78 : decode cX9_rowOf 78 = .ok (.getfield 66, 3) := by decide +kernel
theorem dX9_rowOf_81 : decode cX9_rowOf 81 = .ok (.areturn, 1) := by decide +kernel
theorem dX9_rowOf_82 : decode cX9_rowOf 82 = .ok (.aload_n 0, 1) := by decide +kernel
theorem dX9_rowOf_83 : decode cX9_rowOf 83 = .ok (.getfield 69, 3) := by decide +kernel
theorem dX9_rowOf_86 : decode cX9_rowOf 86 = .ok (.areturn, 1) := by decide +kernel
theorem dX9_rowOf_87 : decode cX9_rowOf 87 = .ok (.aload_n 0, 1) := by decide +kernel
theorem dX9_rowOf_88 : decode cX9_rowOf 88 = .ok (.getfield 72, 3) := by decide +kernel
theorem dX9_rowOf_91 : decode cX9_rowOf 91 = .ok (.areturn, 1) := by decide +kernel
theorem dX9_rowOf_92 : decode cX9_rowOf 92 = .ok (.aload_n 0, 1) := by decide +kernel
theorem dX9_rowOf_93 : decode cX9_rowOf 93 = .ok (.getfield 75, 3) := by decide +kernel
theorem dX9_rowOf_96 : decode cX9_rowOf 96 = .ok (.areturn, 1) := by decide +kernel
theorem dX9_rowOf_97 : decode cX9_rowOf 97 = .ok (.aload_n 0, 1) := by decide +kernel
theorem dX9_rowOf_98 : decode cX9_rowOf 98 = .ok (.getfield 78, 3) := by decide +kernel
theorem dX9_rowOf_101 : decode cX9_rowOf 101 = .ok (.areturn, 1) := by decide +kernel
theorem dX9_image_0 : decode cX9_image 0 = .ok (.aload_n 0, 1) := by decide +kernel
theorem dX9_image_1 : decode cX9_image 1 = .ok (.iconst 1, 1) := by decide +kernel
theorem dX9_image_2 : decode cX9_image 2 = .ok (.putfield 360, 3) := by decide +kernel
theorem dX9_image_5 : decode cX9_image 5 = .ok (.aload_n 0, 1) := by decide +kernel
theorem dX9_image_6 : decode cX9_image 6 = .ok (.getfield 81, 3) := by decide +kernel
theorem dX9_image_9 : decode cX9_image 9 = .ok (.iconst 0, 1) := by decide +kernel
theorem dX9_image_10 : decode cX9_image 10 = .ok (.aload_n 0, 1) := by decide +kernel
theorem dX9_image_11 : decode cX9_image 11 = .ok (.getfield 9, 3) := by decide +kernel
theorem dX9_image_14 : decode cX9_image 14 = .ok (.iastore, 1) := by decide +kernel
theorem dX9_image_15 : decode cX9_image 15 = .ok (.aload_n 0, 1) := by decide +kernel
theorem dX9_image_16 : decode cX9_image 16 = .ok (.getfield 81, 3) := by decide +kernel
theorem dX9_image_19 : decode cX9_image 19 = .ok (.iconst 1, 1) := by decide +kernel
theorem dX9_image_20 : decode cX9_image 20 = .ok (.aload_n 0, 1) := by decide +kernel
theorem dX9_image_21 : decode cX9_image 21 = .ok (.getfield 15, 3) := by decide +kernel
theorem dX9_image_24 : decode cX9_image 24 = .ok (.iastore, 1) := by decide +kernel
theorem dX9_image_25 : decode cX9_image 25 = .ok (.aload_n 0, 1) := by decide +kernel
theorem dX9_image_26 : decode cX9_image 26 = .ok (.getfield 81, 3) := by decide +kernel
theorem dX9_image_29 : decode cX9_image 29 = .ok (.iconst 2, 1) := by decide +kernel
theorem dX9_image_30 : decode cX9_image 30 = .ok (.aload_n 0, 1) := by decide +kernel
theorem dX9_image_31 : decode cX9_image 31 = .ok (.getfield 18, 3) := by decide +kernel
theorem dX9_image_34 : decode cX9_image 34 = .ok (.iastore, 1) := by decide +kernel
theorem dX9_image_35 : decode cX9_image 35 = .ok (.aload_n 0, 1) := by decide +kernel
theorem dX9_image_36 : decode cX9_image 36 = .ok (.getfield 81, 3) := by decide +kernel
theorem dX9_image_39 : decode cX9_image 39 = .ok (.iconst 3, 1) := by decide +kernel
theorem dX9_image_40 : decode cX9_image 40 = .ok (.aload_n 0, 1) := by decide +kernel
theorem dX9_image_41 : decode cX9_image 41 = .ok (.getfield 21, 3) := by decide +kernel
theorem dX9_image_44 : decode cX9_image 44 = .ok (.iastore, 1) := by decide +kernel
theorem dX9_image_45 : decode cX9_image 45 = .ok (.aload_n 0, 1) := by decide +kernel
theorem dX9_image_46 : decode cX9_image 46 = .ok (.getfield 81, 3) := by decide +kernel
theorem dX9_image_49 : decode cX9_image 49 = .ok (.iconst 4, 1) := by decide +kernel
theorem dX9_image_50 : decode cX9_image 50 = .ok (.aload_n 0, 1) := by decide +kernel
theorem dX9_image_51 : decode cX9_image 51 = .ok (.getfield 213, 3) := by decide +kernel
theorem dX9_image_54 : decode cX9_image 54 = .ok (.iastore, 1) := by decide +kernel
theorem dX9_image_55 : decode cX9_image 55 = .ok (.aload_n 0, 1) := by decide +kernel
theorem dX9_image_56 : decode cX9_image 56 = .ok (.getfield 81, 3) := by decide +kernel
theorem dX9_image_59 : decode cX9_image 59 = .ok (.iconst 5, 1) := by decide +kernel
theorem dX9_image_60 : decode cX9_image 60 = .ok (.aload_n 0, 1) := by decide +kernel
theorem dX9_image_61 : decode cX9_image 61 = .ok (.getfield 336, 3) := by decide +kernel
theorem dX9_image_64 : decode cX9_image 64 = .ok (.iastore, 1) := by decide +kernel
theorem dX9_image_65 : decode cX9_image 65 = .ok (.aload_n 0, 1) := by decide +kernel
theorem dX9_image_66 : decode cX9_image 66 = .ok (.getfield 81, 3) := by decide +kernel
theorem dX9_image_69 : decode cX9_image 69 = .ok (.bipush 6, 2) := by decide +kernel
theorem dX9_image_71 : decode cX9_image 71 = .ok (.aload_n 0, 1) := by decide +kernel
theorem dX9_image_72 : decode cX9_image 72 = .ok (.getfield 348, 3) := by decide +kernel
theorem dX9_image_75 : decode cX9_image 75 = .ok (.iastore, 1) := by decide +kernel
theorem dX9_image_76 : decode cX9_image 76 = .ok (.aload_n 0, 1) := by decide +kernel
theorem dX9_image_77 : decode cX9_image 77 = .ok (.getfield 81, 3) := by decide +kernel
theorem dX9_image_80 : decode cX9_image 80 = .ok (.bipush 7, 2) := by decide +kernel
theorem dX9_image_82 : decode cX9_image 82 = .ok (.aload_n 0, 1) := by decide +kernel
theorem dX9_image_83 : decode cX9_image 83 = .ok (.getfield 354, 3) := by decide +kernel
theorem dX9_image_86 : decode cX9_image 86 = .ok (.iastore, 1) := by decide +kernel
theorem dX9_image_87 : decode cX9_image 87 = .ok (.iconst 0, 1) := by decide +kernel
theorem dX9_image_88 : decode cX9_image 88 = .ok (.istore_n 1, 1) := by decide +kernel
theorem dX9_image_89 : decode cX9_image 89 = .ok (.iload_n 1, 1) := by decide +kernel
theorem dX9_image_90 : decode cX9_image 90 = .ok (.bipush 10, 2) := by decide +kernel
theorem dX9_image_92 : decode cX9_image 92 = .ok (.if_icmp .ge 31, 3) := by decide +kernel
theorem dX9_image_95 : decode cX9_image 95 = .ok (.aload_n 0, 1) := by decide +kernel
theorem dX9_image_96 : decode cX9_image 96 = .ok (.iload_n 1, 1) := by decide +kernel
theorem dX9_image_97 : decode cX9_image 97 = .ok (.invokevirtual 363, 3) := by decide +kernel
theorem dX9_image_100 : decode cX9_image 100 = .ok (.iconst 0, 1) := by decide +kernel
theorem dX9_image_101 : decode cX9_image 101 = .ok (.aload_n 0, 1) := by decide +kernel
theorem dX9_image_102 : decode cX9_image 102 = .ok (.getfield 86, 3) := by decide +kernel
theorem dX9_image_105 : decode cX9_image 105 = .ok (.iload_n 1, 1) := by decide +kernel
theorem dX9_image_106 : decode cX9_image 106 = .ok (.aaload, 1) := by decide +kernel
theorem dX9_image_107 : decode cX9_image 107 = .ok (.iconst 0, 1) := by decide +kernel
theorem dX9_image_108 : decode cX9_image 108 = .ok (.aload_n 0, 1) := by decide +kernel
theorem dX9_image_109 : decode cX9_image 109 = .ok (.iload_n 1, 1) := by decide +kernel
theorem dX9_image_110 : decode cX9_image 110 = .ok (.invokevirtual 363, 3) := by decide +kernel
theorem dX9_image_113 : decode cX9_image 113 = .ok (.arraylength, 1) := by decide +kernel
theorem dX9_image_114 : decode cX9_image 114 = .ok (.invokestatic 367, 3) := by decide +kernel
theorem dX9_image_117 : decode cX9_image 117 = .ok (.iinc 1 1, 3) := by decide +kernel
theorem dX9_image_120 : decode cX9_image 120 = .ok (.goto (-31), 3) := by decide +kernel
theorem dX9_image_123 : decode cX9_image 123 = .ok (.aload_n 0, 1) := by decide +kernel
theorem dX9_image_124 : decode cX9_image 124 = .ok (.invokevirtual 198, 3) := by decide +kernel
theorem dX9_image_127 : decode cX9_image 127 = .ok (.ireturn, 1) := by decide +kernel
theorem dX9_undo_0 : decode cX9_undo 0 = .ok (.aload_n 0, 1) := by decide +kernel
theorem dX9_undo_1 : decode cX9_undo 1 = .ok (.getfield 360, 3) := by decide +kernel
theorem dX9_undo_4 : decode cX9_undo 4 = .ok (.ifCond .ne 6, 3) := by decide +kernel
theorem dX9_undo_7 : decode cX9_undo 7 = .ok (.bipush (-3), 2) := by decide +kernel
theorem dX9_undo_9 : decode cX9_undo 9 = .ok (.ireturn, 1) := by decide +kernel
theorem dX9_undo_10 : decode cX9_undo 10 = .ok (.aload_n 0, 1) := by decide +kernel
theorem dX9_undo_11 : decode cX9_undo 11 = .ok (.aload_n 0, 1) := by decide +kernel
theorem dX9_undo_12 : decode cX9_undo 12 = .ok (.getfield 81, 3) := by decide +kernel
theorem dX9_undo_15 : decode cX9_undo 15 = .ok (.iconst 0, 1) := by decide +kernel
theorem dX9_undo_16 : decode cX9_undo 16 = .ok (.iaload, 1) := by decide +kernel
theorem dX9_undo_17 : decode cX9_undo 17 = .ok (.putfield 9, 3) := by decide +kernel
theorem dX9_undo_20 : decode cX9_undo 20 = .ok (.aload_n 0, 1) := by decide +kernel
theorem dX9_undo_21 : decode cX9_undo 21 = .ok (.aload_n 0, 1) := by decide +kernel
theorem dX9_undo_22 : decode cX9_undo 22 = .ok (.getfield 81, 3) := by decide +kernel
theorem dX9_undo_25 : decode cX9_undo 25 = .ok (.iconst 1, 1) := by decide +kernel
theorem dX9_undo_26 : decode cX9_undo 26 = .ok (.iaload, 1) := by decide +kernel
theorem dX9_undo_27 : decode cX9_undo 27 = .ok (.putfield 15, 3) := by decide +kernel
theorem dX9_undo_30 : decode cX9_undo 30 = .ok (.aload_n 0, 1) := by decide +kernel
theorem dX9_undo_31 : decode cX9_undo 31 = .ok (.aload_n 0, 1) := by decide +kernel
theorem dX9_undo_32 : decode cX9_undo 32 = .ok (.getfield 81, 3) := by decide +kernel
theorem dX9_undo_35 : decode cX9_undo 35 = .ok (.iconst 2, 1) := by decide +kernel
theorem dX9_undo_36 : decode cX9_undo 36 = .ok (.iaload, 1) := by decide +kernel
theorem dX9_undo_37 : decode cX9_undo 37 = .ok (.putfield 18, 3) := by decide +kernel
theorem dX9_undo_40 : decode cX9_undo 40 = .ok (.aload_n 0, 1) := by decide +kernel
theorem dX9_undo_41 : decode cX9_undo 41 = .ok (.aload_n 0, 1) := by decide +kernel
theorem dX9_undo_42 : decode cX9_undo 42 = .ok (.getfield 81, 3) := by decide +kernel
theorem dX9_undo_45 : decode cX9_undo 45 = .ok (.iconst 3, 1) := by decide +kernel
theorem dX9_undo_46 : decode cX9_undo 46 = .ok (.iaload, 1) := by decide +kernel
theorem dX9_undo_47 : decode cX9_undo 47 = .ok (.putfield 21, 3) := by decide +kernel
theorem dX9_undo_50 : decode cX9_undo 50 = .ok (.aload_n 0, 1) := by decide +kernel
theorem dX9_undo_51 : decode cX9_undo 51 = .ok (.aload_n 0, 1) := by decide +kernel
theorem dX9_undo_52 : decode cX9_undo 52 = .ok (.getfield 81, 3) := by decide +kernel
theorem dX9_undo_55 : decode cX9_undo 55 = .ok (.iconst 4, 1) := by decide +kernel
theorem dX9_undo_56 : decode cX9_undo 56 = .ok (.iaload, 1) := by decide +kernel
theorem dX9_undo_57 : decode cX9_undo 57 = .ok (.putfield 213, 3) := by decide +kernel
theorem dX9_undo_60 : decode cX9_undo 60 = .ok (.aload_n 0, 1) := by decide +kernel
theorem dX9_undo_61 : decode cX9_undo 61 = .ok (.aload_n 0, 1) := by decide +kernel
theorem dX9_undo_62 : decode cX9_undo 62 = .ok (.getfield 81, 3) := by decide +kernel
theorem dX9_undo_65 : decode cX9_undo 65 = .ok (.iconst 5, 1) := by decide +kernel
theorem dX9_undo_66 : decode cX9_undo 66 = .ok (.iaload, 1) := by decide +kernel
theorem dX9_undo_67 : decode cX9_undo 67 = .ok (.putfield 336, 3) := by decide +kernel
theorem dX9_undo_70 : decode cX9_undo 70 = .ok (.aload_n 0, 1) := by decide +kernel
theorem dX9_undo_71 : decode cX9_undo 71 = .ok (.aload_n 0, 1) := by decide +kernel
theorem dX9_undo_72 : decode cX9_undo 72 = .ok (.getfield 81, 3) := by decide +kernel
theorem dX9_undo_75 : decode cX9_undo 75 = .ok (.bipush 6, 2) := by decide +kernel
theorem dX9_undo_77 : decode cX9_undo 77 = .ok (.iaload, 1) := by decide +kernel
theorem dX9_undo_78 : decode cX9_undo 78 = .ok (.putfield 348, 3) := by decide +kernel
theorem dX9_undo_81 : decode cX9_undo 81 = .ok (.aload_n 0, 1) := by decide +kernel
theorem dX9_undo_82 : decode cX9_undo 82 = .ok (.aload_n 0, 1) := by decide +kernel
theorem dX9_undo_83 : decode cX9_undo 83 = .ok (.getfield 81, 3) := by decide +kernel
theorem dX9_undo_86 : decode cX9_undo 86 = .ok (.bipush 7, 2) := by decide +kernel
theorem dX9_undo_88 : decode cX9_undo 88 = .ok (.iaload, 1) := by decide +kernel
theorem dX9_undo_89 : decode cX9_undo 89 = .ok (.putfield 354, 3) := by decide +kernel
theorem dX9_undo_92 : decode cX9_undo 92 = .ok (.iconst 0, 1) := by decide +kernel
theorem dX9_undo_93 : decode cX9_undo 93 = .ok (.istore_n 1, 1) := by decide +kernel
theorem dX9_undo_94 : decode cX9_undo 94 = .ok (.iload_n 1, 1) := by decide +kernel
theorem dX9_undo_95 : decode cX9_undo 95 = .ok (.bipush 10, 2) := by decide +kernel
theorem dX9_undo_97 : decode cX9_undo 97 = .ok (.if_icmp .ge 31, 3) := by decide +kernel
theorem dX9_undo_100 : decode cX9_undo 100 = .ok (.aload_n 0, 1) := by decide +kernel
theorem dX9_undo_101 : decode cX9_undo 101 = .ok (.getfield 86, 3) := by decide +kernel
theorem dX9_undo_104 : decode cX9_undo 104 = .ok (.iload_n 1, 1) := by decide +kernel
theorem dX9_undo_105 : decode cX9_undo 105 = .ok (.aaload, 1) := by decide +kernel
theorem dX9_undo_106 : decode cX9_undo 106 = .ok (.iconst 0, 1) := by decide +kernel
theorem dX9_undo_107 : decode cX9_undo 107 = .ok (.aload_n 0, 1) := by decide +kernel
theorem dX9_undo_108 : decode cX9_undo 108 = .ok (.iload_n 1, 1) := by decide +kernel
theorem dX9_undo_109 : decode cX9_undo 109 = .ok (.invokevirtual 363, 3) := by decide +kernel
theorem dX9_undo_112 : decode cX9_undo 112 = .ok (.iconst 0, 1) := by decide +kernel
theorem dX9_undo_113 : decode cX9_undo 113 = .ok (.aload_n 0, 1) := by decide +kernel
theorem dX9_undo_114 : decode cX9_undo 114 = .ok (.iload_n 1, 1) := by decide +kernel
theorem dX9_undo_115 : decode cX9_undo 115 = .ok (.invokevirtual 363, 3) := by decide +kernel
theorem dX9_undo_118 : decode cX9_undo 118 = .ok (.arraylength, 1) := by decide +kernel
theorem dX9_undo_119 : decode cX9_undo 119 = .ok (.invokestatic 367, 3) := by decide +kernel
theorem dX9_undo_122 : decode cX9_undo 122 = .ok (.iinc 1 1, 3) := by decide +kernel
theorem dX9_undo_125 : decode cX9_undo 125 = .ok (.goto (-31), 3) := by decide +kernel
theorem dX9_undo_128 : decode cX9_undo 128 = .ok (.aload_n 0, 1) := by decide +kernel
theorem dX9_undo_129 : decode cX9_undo 129 = .ok (.invokevirtual 198, 3) := by decide +kernel
theorem dX9_undo_132 : decode cX9_undo 132 = .ok (.ireturn, 1) := by decide +kernel
theorem dX9_count_0 : decode cX9_count 0 = .ok (.iload_n 1, 1) := by decide +kernel
theorem dX9_count_1 : decode cX9_count 1 = .ok (.ifCond .ne 10, 3) := by decide +kernel
theorem dX9_count_4 : decode cX9_count 4 = .ok (.aload_n 0, 1) := by decide +kernel
theorem dX9_count_5 : decode cX9_count 5 = .ok (.getfield 336, 3) := by decide +kernel
theorem dX9_count_8 : decode cX9_count 8 = .ok (.goto 41, 3) := by decide +kernel
theorem dX9_count_11 : decode cX9_count 11 = .ok (.iload_n 1, 1) := by decide +kernel
theorem dX9_count_12 : decode cX9_count 12 = .ok (.iconst 1, 1) := by decide +kernel
theorem dX9_count_13 : decode cX9_count 13 = .ok (.if_icmp .ne 10, 3) := by decide +kernel
theorem dX9_count_16 : decode cX9_count 16 = .ok (.aload_n 0, 1) := by decide +kernel
theorem dX9_count_17 : decode cX9_count 17 = .ok (.getfield 348, 3) := by decide +kernel
theorem dX9_count_20 : decode cX9_count 20 = .ok (.goto 29, 3) := by decide +kernel
theorem dX9_count_23 : decode cX9_count 23 = .ok (.iload_n 1, 1) := by decide +kernel
theorem dX9_count_24 : decode cX9_count 24 = .ok (.iconst 2, 1) := by decide +kernel
theorem dX9_count_25 : decode cX9_count 25 = .ok (.if_icmp .ne 10, 3) := by decide +kernel
theorem dX9_count_28 : decode cX9_count 28 = .ok (.aload_n 0, 1) := by decide +kernel
theorem dX9_count_29 : decode cX9_count 29 = .ok (.getfield 354, 3) := by decide +kernel
theorem dX9_count_32 : decode cX9_count 32 = .ok (.goto 17, 3) := by decide +kernel
theorem dX9_count_35 : decode cX9_count 35 = .ok (.iload_n 1, 1) := by decide +kernel
theorem dX9_count_36 : decode cX9_count 36 = .ok (.iconst 3, 1) := by decide +kernel
theorem dX9_count_37 : decode cX9_count 37 = .ok (.if_icmp .ne 10, 3) := by decide +kernel
theorem dX9_count_40 : decode cX9_count 40 = .ok (.aload_n 0, 1) := by decide +kernel
theorem dX9_count_41 : decode cX9_count 41 = .ok (.getfield 218, 3) := by decide +kernel
theorem dX9_count_44 : decode cX9_count 44 = .ok (.goto 5, 3) := by decide +kernel
theorem dX9_count_47 : decode cX9_count 47 = .ok (.bipush (-2), 2) := by decide +kernel
theorem dX9_count_49 : decode cX9_count 49 = .ok (.ireturn, 1) := by decide +kernel
theorem dX9_isTape_0 : decode cX9_isTape 0 = .ok (.iload_n 0, 1) := by decide +kernel
theorem dX9_isTape_1 : decode cX9_isTape 1 = .ok (.i2l, 1) := by decide +kernel
theorem dX9_isTape_2 : decode cX9_isTape 2 = .ok (.lconst 0, 1) := by decide +kernel
theorem dX9_isTape_3 : decode cX9_isTape 3 = .ok (.ldc2_w 373, 3) := by decide +kernel
theorem dX9_isTape_6 : decode cX9_isTape 6 = .ok (.invokestatic 104, 3) := by decide +kernel
theorem dX9_isTape_9 : decode cX9_isTape 9 = .ok (.ireturn, 1) := by decide +kernel
theorem dX9_tape_0 : decode cX9_tape 0 = .ok (.iload_n 1, 1) := by decide +kernel
theorem dX9_tape_1 : decode cX9_tape 1 = .ok (.invokestatic 357, 3) := by decide +kernel
theorem dX9_tape_4 : decode cX9_tape 4 = .ok (.ifCond .ne 5, 3) := by decide +kernel
theorem dX9_tape_7 : decode cX9_tape 7 = .ok (.iconst (-1), 1) := by decide +kernel
theorem dX9_tape_8 : decode cX9_tape 8 = .ok (.ireturn, 1) := by decide +kernel
theorem dX9_tape_9 : decode cX9_tape 9 = .ok (.iload_n 2, 1) := by decide +kernel
theorem dX9_tape_10 : decode cX9_tape 10 = .ok (.i2l, 1) := by decide +kernel
theorem dX9_tape_11 : decode cX9_tape 11 = .ok (.ldc2_w 375, 3) := by decide +kernel
theorem dX9_tape_14 : decode cX9_tape 14 = .ok (.ldc2_w 377, 3) := by decide +kernel
theorem dX9_tape_17 : decode cX9_tape 17 = .ok (.invokestatic 104, 3) := by decide +kernel
theorem dX9_tape_20 : decode cX9_tape 20 = .ok (.ifCond .eq 13, 3) := by decide +kernel
theorem dX9_tape_23 : decode cX9_tape 23 = .ok (.iload_n 2, 1) := by decide +kernel
theorem dX9_tape_24 : decode cX9_tape 24 = .ok (.ifCond .lt 12, 3) := by decide +kernel
theorem dX9_tape_27 : decode cX9_tape 27 = .ok (.iload_n 3, 1) := by decide +kernel
theorem dX9_tape_28 : decode cX9_tape 28 = .ok (.bipush 60, 2) := by decide +kernel
theorem dX9_tape_30 : decode cX9_tape 30 = .ok (.if_icmp .le 6, 3) := by decide +kernel
theorem dX9_tape_33 : decode cX9_tape 33 = .ok (.bipush (-2), 2) := by decide +kernel
theorem dX9_tape_35 : decode cX9_tape 35 = .ok (.ireturn, 1) := by decide +kernel
theorem dX9_tape_36 : decode cX9_tape 36 = .ok (.iload_n 2, 1) := by decide +kernel
theorem dX9_tape_37 : decode cX9_tape 37 = .ok (.ifCond .lt 10, 3) := by decide +kernel
theorem dX9_tape_40 : decode cX9_tape 40 = .ok (.iload_n 3, 1) := by decide +kernel
theorem dX9_tape_41 : decode cX9_tape 41 = .ok (.ifCond .ge 6, 3) := by decide +kernel
theorem dX9_tape_44 : decode cX9_tape 44 = .ok (.bipush (-14), 2) := by decide +kernel
theorem dX9_tape_46 : decode cX9_tape 46 = .ok (.ireturn, 1) := by decide +kernel
theorem dX9_tape_47 : decode cX9_tape 47 = .ok (.aload_n 0, 1) := by decide +kernel
theorem dX9_tape_48 : decode cX9_tape 48 = .ok (.getfield 89, 3) := by decide +kernel
theorem dX9_tape_51 : decode cX9_tape 51 = .ok (.iload_n 1, 1) := by decide +kernel
theorem dX9_tape_52 : decode cX9_tape 52 = .ok (.iload_n 2, 1) := by decide +kernel
theorem dX9_tape_53 : decode cX9_tape 53 = .ok (.iastore, 1) := by decide +kernel
theorem dX9_tape_54 : decode cX9_tape 54 = .ok (.aload_n 0, 1) := by decide +kernel
theorem dX9_tape_55 : decode cX9_tape 55 = .ok (.getfield 92, 3) := by decide +kernel
theorem dX9_tape_58 : decode cX9_tape 58 = .ok (.iload_n 1, 1) := by decide +kernel
theorem dX9_tape_59 : decode cX9_tape 59 = .ok (.iload_n 2, 1) := by decide +kernel
theorem dX9_tape_60 : decode cX9_tape 60 = .ok (.ifCond .ge 7, 3) := by decide +kernel
theorem dX9_tape_63 : decode cX9_tape 63 = .ok (.iconst 0, 1) := by decide +kernel
theorem dX9_tape_64 : decode cX9_tape 64 = .ok (.goto 4, 3) := by decide +kernel
theorem dX9_tape_67 : decode cX9_tape 67 = .ok (.iload_n 3, 1) := by decide +kernel
theorem dX9_tape_68 : decode cX9_tape 68 = .ok (.iastore, 1) := by decide +kernel
theorem dX9_tape_69 : decode cX9_tape 69 = .ok (.iconst 0, 1) := by decide +kernel
theorem dX9_tape_70 : decode cX9_tape 70 = .ok (.istore 4, 2) := by decide +kernel
theorem dX9_tape_72 : decode cX9_tape 72 = .ok (.iload 4, 2) := by decide +kernel
theorem dX9_tape_74 : decode cX9_tape 74 = .ok (.bipush 60, 2) := by decide +kernel
theorem dX9_tape_76 : decode cX9_tape 76 = .ok (.if_icmp .ge 19, 3) := by decide +kernel
theorem dX9_tape_79 : decode cX9_tape 79 = .ok (.aload_n 0, 1) := by decide +kernel
theorem dX9_tape_80 : decode cX9_tape 80 = .ok (.getfield 97, 3) := by decide +kernel
theorem dX9_tape_83 : decode cX9_tape 83 = .ok (.iload_n 1, 1) := by decide +kernel
theorem dX9_tape_84 : decode cX9_tape 84 = .ok (.aaload, 1) := by decide +kernel
theorem dX9_tape_85 : decode cX9_tape 85 = .ok (.iload 4, 2) := by decide +kernel
theorem dX9_tape_87 : decode cX9_tape 87 = .ok (.lconst 0, 1) := by decide +kernel
theorem dX9_tape_88 : decode cX9_tape 88 = .ok (.lastore, 1) := by decide +kernel
theorem dX9_tape_89 : decode cX9_tape 89 = .ok (.iinc 4 1, 3) := by decide +kernel
theorem dX9_tape_92 : decode cX9_tape 92 = .ok (.goto (-20), 3) := by decide +kernel
theorem dX9_tape_95 : decode cX9_tape 95 = .ok (.iconst 1, 1) := by decide +kernel
theorem dX9_tape_96 : decode cX9_tape 96 = .ok (.ireturn, 1) := by decide +kernel
theorem dX9_asItem_0 : decode cX9_asItem 0 = .ok (.iload_n 0, 1) := by decide +kernel
theorem dX9_asItem_1 : decode cX9_asItem 1 = .ok (.tableswitch 47 0 3 #[31, 36, 41, 45], 31) := by decide +kernel
theorem dX9_asItem_32 : decode cX9_asItem 32 = .ok (.lload_n 1, 1) := by decide +kernel
theorem dX9_asItem_33 : decode cX9_asItem 33 = .ok (.l2i, 1) := by decide +kernel
theorem dX9_asItem_34 : decode cX9_asItem 34 = .ok (.i2b, 1) := by decide +kernel
theorem dX9_asItem_35 : decode cX9_asItem 35 = .ok (.i2l, 1) := by decide +kernel
theorem dX9_asItem_36 : decode cX9_asItem 36 = .ok (.lreturn, 1) := by decide +kernel
theorem dX9_asItem_37 : decode cX9_asItem 37 = .ok (.lload_n 1, 1) := by decide +kernel
theorem dX9_asItem_38 : decode cX9_asItem 38 = .ok (.l2i, 1) := by decide +kernel
theorem dX9_asItem_39 : decode cX9_asItem 39 = .ok (.i2s, 1) := by decide +kernel
theorem dX9_asItem_40 : decode cX9_asItem 40 = .ok (.i2l, 1) := by decide +kernel
theorem dX9_asItem_41 : decode cX9_asItem 41 = .ok (.lreturn, 1) := by decide +kernel
theorem dX9_asItem_42 : decode cX9_asItem 42 = .ok (.lload_n 1, 1) := by decide +kernel
theorem dX9_asItem_43 : decode cX9_asItem 43 = .ok (.l2i, 1) := by decide +kernel
theorem dX9_asItem_44 : decode cX9_asItem 44 = .ok (.i2l, 1) := by decide +kernel
theorem dX9_asItem_45 : decode cX9_asItem 45 = .ok (.lreturn, 1) := by decide +kernel
theorem dX9_asItem_46 : decode cX9_asItem 46 = .ok (.lload_n 1, 1) := by decide +kernel
theorem dX9_asItem_47 : decode cX9_asItem 47 = .ok (.lreturn, 1) := by decide +kernel
theorem dX9_asItem_48 : decode cX9_asItem 48 = .ok (.lload_n 1, 1) := by decide +kernel
theorem dX9_asItem_49 : decode cX9_asItem 49 = .ok (.lconst 0, 1) := by decide +kernel
theorem dX9_asItem_50 : decode cX9_asItem 50 = .ok (.lcmp, 1) := by decide +kernel
theorem dX9_asItem_51 : decode cX9_asItem 51 = .ok (.ifCond .eq 7, 3) := by decide +kernel
theorem dX9_asItem_54 : decode cX9_asItem 54 = .ok (.lconst 1, 1) := by decide +kernel
theorem dX9_asItem_55 : decode cX9_asItem 55 = .ok (.goto 4, 3) := by decide +kernel
theorem dX9_asItem_58 : decode cX9_asItem 58 = .ok (.lconst 0, 1) := by decide +kernel
theorem dX9_asItem_59 : decode cX9_asItem 59 = .ok (.lreturn, 1) := by decide +kernel
theorem dX9_item_0 : decode cX9_item 0 = .ok (.iload_n 1, 1) := by decide +kernel
theorem dX9_item_1 : decode cX9_item 1 = .ok (.invokestatic 357, 3) := by decide +kernel
theorem dX9_item_4 : decode cX9_item 4 = .ok (.ifCond .ne 5, 3) := by decide +kernel
theorem dX9_item_7 : decode cX9_item 7 = .ok (.iconst (-1), 1) := by decide +kernel
theorem dX9_item_8 : decode cX9_item 8 = .ok (.ireturn, 1) := by decide +kernel
theorem dX9_item_9 : decode cX9_item 9 = .ok (.aload_n 0, 1) := by decide +kernel
theorem dX9_item_10 : decode cX9_item 10 = .ok (.getfield 89, 3) := by decide +kernel
theorem dX9_item_13 : decode cX9_item 13 = .ok (.iload_n 1, 1) := by decide +kernel
theorem dX9_item_14 : decode cX9_item 14 = .ok (.iaload, 1) := by decide +kernel
theorem dX9_item_15 : decode cX9_item 15 = .ok (.ifCond .ge 6, 3) := by decide +kernel
theorem dX9_item_18 : decode cX9_item 18 = .ok (.bipush (-11), 2) := by decide +kernel
theorem dX9_item_20 : decode cX9_item 20 = .ok (.ireturn, 1) := by decide +kernel
theorem dX9_item_21 : decode cX9_item 21 = .ok (.iload_n 2, 1) := by decide +kernel
theorem dX9_item_22 : decode cX9_item 22 = .ok (.i2l, 1) := by decide +kernel
theorem dX9_item_23 : decode cX9_item 23 = .ok (.lconst 0, 1) := by decide +kernel
theorem dX9_item_24 : decode cX9_item 24 = .ok (.aload_n 0, 1) := by decide +kernel
theorem dX9_item_25 : decode cX9_item 25 = .ok (.getfield 92, 3) := by decide +kernel
theorem dX9_item_28 : decode cX9_item 28 = .ok (.iload_n 1, 1) := by decide +kernel
theorem dX9_item_29 : decode cX9_item 29 = .ok (.iaload, 1) := by decide +kernel
theorem dX9_item_30 : decode cX9_item 30 = .ok (.iconst 1, 1) := by decide +kernel
theorem dX9_item_31 : decode cX9_item 31 = .ok (.isub, 1) := by decide +kernel
theorem dX9_item_32 : decode cX9_item 32 = .ok (.i2l, 1) := by decide +kernel
theorem dX9_item_33 : decode cX9_item 33 = .ok (.invokestatic 104, 3) := by decide +kernel
theorem dX9_item_36 : decode cX9_item 36 = .ok (.ifCond .ne 6, 3) := by decide +kernel
theorem dX9_item_39 : decode cX9_item 39 = .ok (.bipush (-13), 2) := by decide +kernel
theorem dX9_item_41 : decode cX9_item 41 = .ok (.ireturn, 1) := by decide +kernel
theorem dX9_item_42 : decode cX9_item 42 = .ok (.aload_n 0, 1) := by decide +kernel
theorem dX9_item_43 : decode cX9_item 43 = .ok (.getfield 97, 3) := by decide +kernel
theorem dX9_item_46 : decode cX9_item 46 = .ok (.iload_n 1, 1) := by decide +kernel
theorem dX9_item_47 : decode cX9_item 47 = .ok (.aaload, 1) := by decide +kernel
theorem dX9_item_48 : decode cX9_item 48 = .ok (.iload_n 2, 1) := by decide +kernel
theorem dX9_item_49 : decode cX9_item 49 = .ok (.aload_n 0, 1) := by decide +kernel
theorem dX9_item_50 : decode cX9_item 50 = .ok (.getfield 89, 3) := by decide +kernel
theorem dX9_item_53 : decode cX9_item 53 = .ok (.iload_n 1, 1) := by decide +kernel
theorem dX9_item_54 : decode cX9_item 54 = .ok (.iaload, 1) := by decide +kernel
theorem dX9_item_55 : decode cX9_item 55 = .ok (.lload_n 3, 1) := by decide +kernel
theorem dX9_item_56 : decode cX9_item 56 = .ok (.invokestatic 379, 3) := by decide +kernel
theorem dX9_item_59 : decode cX9_item 59 = .ok (.lastore, 1) := by decide +kernel
theorem dX9_item_60 : decode cX9_item 60 = .ok (.iconst 1, 1) := by decide +kernel
theorem dX9_item_61 : decode cX9_item 61 = .ok (.ireturn, 1) := by decide +kernel
theorem dX9_peek_0 : decode cX9_peek 0 = .ok (.iload_n 1, 1) := by decide +kernel
theorem dX9_peek_1 : decode cX9_peek 1 = .ok (.invokestatic 357, 3) := by decide +kernel
theorem dX9_peek_4 : decode cX9_peek 4 = .ok (.ifCond .eq 41, 3) := by decide +kernel
theorem dX9_peek_7 : decode cX9_peek 7 = .ok (.aload_n 0, 1) := by decide +kernel
theorem dX9_peek_8 : decode cX9_peek 8 = .ok (.getfield 89, 3) := by decide +kernel
theorem dX9_peek_11 : decode cX9_peek 11 = .ok (.iload_n 1, 1) := by decide +kernel
theorem dX9_peek_12 : decode cX9_peek 12 = .ok (.iaload, 1) := by decide +kernel
theorem dX9_peek_13 : decode cX9_peek 13 = .ok (.ifCond .lt 32, 3) := by decide +kernel
theorem dX9_peek_16 : decode cX9_peek 16 = .ok (.iload_n 2, 1) := by decide +kernel
theorem dX9_peek_17 : decode cX9_peek 17 = .ok (.i2l, 1) := by decide +kernel
theorem dX9_peek_18 : decode cX9_peek 18 = .ok (.lconst 0, 1) := by decide +kernel
theorem dX9_peek_19 : decode cX9_peek 19 = .ok (.aload_n 0, 1) := by decide +kernel
theorem dX9_peek_20 : decode cX9_peek 20 = .ok (.getfield 92, 3) := by decide +kernel
theorem dX9_peek_23 : decode cX9_peek 23 = .ok (.iload_n 1, 1) := by decide +kernel
theorem dX9_peek_24 : decode cX9_peek 24 = .ok (.iaload, 1) := by decide +kernel
theorem dX9_peek_25 : decode cX9_peek 25 = .ok (.iconst 1, 1) := by decide +kernel
theorem dX9_peek_26 : decode cX9_peek 26 = .ok (.isub, 1) := by decide +kernel
theorem dX9_peek_27 : decode cX9_peek 27 = .ok (.i2l, 1) := by decide +kernel
theorem dX9_peek_28 : decode cX9_peek 28 = .ok (.invokestatic 104, 3) := by decide +kernel
theorem dX9_peek_31 : decode cX9_peek 31 = .ok (.ifCond .eq 14, 3) := by decide +kernel
theorem dX9_peek_34 : decode cX9_peek 34 = .ok (.aload_n 0, 1) := by decide +kernel
theorem dX9_peek_35 : decode cX9_peek 35 = .ok (.getfield 97, 3) := by decide +kernel
theorem dX9_peek_38 : decode cX9_peek 38 = .ok (.iload_n 1, 1) := by decide +kernel
theorem dX9_peek_39 : decode cX9_peek 39 = .ok (.aaload, 1) := by decide +kernel
theorem dX9_peek_40 : decode cX9_peek 40 = .ok (.iload_n 2, 1) := by decide +kernel
theorem dX9_peek_41 : decode cX9_peek 41 = .ok (.laload, 1) := by decide +kernel
theorem dX9_peek_42 : decode cX9_peek 42 = .ok (.goto 6, 3) := by decide +kernel
theorem dX9_peek_45 : decode cX9_peek 45 = .ok (.ldc2_w 301, 3) := by decide +kernel
theorem dX9_peek_48 : decode cX9_peek 48 = .ok (.lreturn, 1) := by decide +kernel
theorem dX9_isWithin_0 : decode cX9_isWithin 0 = .ok (.iload_n 2, 1) := by decide +kernel
theorem dX9_isWithin_1 : decode cX9_isWithin 1 = .ok (.ifCond .lt 19, 3) := by decide +kernel
theorem dX9_isWithin_4 : decode cX9_isWithin 4 = .ok (.iload_n 2, 1) := by decide +kernel
theorem dX9_isWithin_5 : decode cX9_isWithin 5 = .ok (.aload_n 0, 1) := by decide +kernel
theorem dX9_isWithin_6 : decode cX9_isWithin 6 = .ok (.getfield 92, 3) := by decide +kernel
theorem dX9_isWithin_9 : decode cX9_isWithin 9 = .ok (.iload_n 1, 1) := by decide +kernel
theorem dX9_isWithin_10 : decode cX9_isWithin 10 = .ok (.iaload, 1) := by decide +kernel
theorem dX9_isWithin_11 : decode cX9_isWithin 11 = .ok (.iload_n 3, 1) := by decide +kernel
theorem dX9_isWithin_12 : decode cX9_isWithin 12 = .ok (.isub, 1) := by decide +kernel
theorem dX9_isWithin_13 : decode cX9_isWithin 13 = .ok (.if_icmp .gt 7, 3) := by decide +kernel
theorem dX9_isWithin_16 : decode cX9_isWithin 16 = .ok (.iconst 1, 1) := by decide +kernel
theorem dX9_isWithin_17 : decode cX9_isWithin 17 = .ok (.goto 4, 3) := by decide +kernel
theorem dX9_isWithin_20 : decode cX9_isWithin 20 = .ok (.iconst 0, 1) := by decide +kernel
theorem dX9_isWithin_21 : decode cX9_isWithin 21 = .ok (.ireturn, 1) := by decide +kernel
theorem dX9_shift_0 : decode cX9_shift 0 = .ok (.iload_n 1, 1) := by decide +kernel
theorem dX9_shift_1 : decode cX9_shift 1 = .ok (.invokestatic 357, 3) := by decide +kernel
theorem dX9_shift_4 : decode cX9_shift 4 = .ok (.ifCond .eq 10, 3) := by decide +kernel
theorem dX9_shift_7 : decode cX9_shift 7 = .ok (.iload_n 3, 1) := by decide +kernel
theorem dX9_shift_8 : decode cX9_shift 8 = .ok (.invokestatic 357, 3) := by decide +kernel
theorem dX9_shift_11 : decode cX9_shift 11 = .ok (.ifCond .ne 5, 3) := by decide +kernel
theorem dX9_shift_14 : decode cX9_shift 14 = .ok (.iconst (-1), 1) := by decide +kernel
theorem dX9_shift_15 : decode cX9_shift 15 = .ok (.ireturn, 1) := by decide +kernel
theorem dX9_shift_16 : decode cX9_shift 16 = .ok (.aload_n 0, 1) := by decide +kernel
theorem dX9_shift_17 : decode cX9_shift 17 = .ok (.getfield 89, 3) := by decide +kernel
theorem dX9_shift_20 : decode cX9_shift 20 = .ok (.iload_n 1, 1) := by decide +kernel
theorem dX9_shift_21 : decode cX9_shift 21 = .ok (.iaload, 1) := by decide +kernel
theorem dX9_shift_22 : decode cX9_shift 22 = .ok (.ifCond .lt 12, 3) := by decide +kernel
theorem dX9_shift_25 : decode cX9_shift 25 = .ok (.aload_n 0, 1) := by decide +kernel
theorem dX9_shift_26 : decode cX9_shift 26 = .ok (.getfield 89, 3) := by decide +kernel
theorem dX9_shift_29 : decode cX9_shift 29 = .ok (.iload_n 3, 1) := by decide +kernel
theorem dX9_shift_30 : decode cX9_shift 30 = .ok (.iaload, 1) := by decide +kernel
theorem dX9_shift_31 : decode cX9_shift 31 = .ok (.ifCond .ge 6, 3) := by decide +kernel
theorem dX9_shift_34 : decode cX9_shift 34 = .ok (.bipush (-11), 2) := by decide +kernel
theorem dX9_shift_36 : decode cX9_shift 36 = .ok (.ireturn, 1) := by decide +kernel
theorem dX9_shift_37 : decode cX9_shift 37 = .ok (.aload_n 0, 1) := by decide +kernel
theorem dX9_shift_38 : decode cX9_shift 38 = .ok (.getfield 89, 3) := by decide +kernel
theorem dX9_shift_41 : decode cX9_shift 41 = .ok (.iload_n 1, 1) := by decide +kernel
theorem dX9_shift_42 : decode cX9_shift 42 = .ok (.iaload, 1) := by decide +kernel
theorem dX9_shift_43 : decode cX9_shift 43 = .ok (.aload_n 0, 1) := by decide +kernel
theorem dX9_shift_44 : decode cX9_shift 44 = .ok (.getfield 89, 3) := by decide +kernel
theorem dX9_shift_47 : decode cX9_shift 47 = .ok (.iload_n 3, 1) := by decide +kernel
theorem dX9_shift_48 : decode cX9_shift 48 = .ok (.iaload, 1) := by decide +kernel
theorem dX9_shift_49 : decode cX9_shift 49 = .ok (.if_icmp .eq 6, 3) := by decide +kernel
theorem dX9_shift_52 : decode cX9_shift 52 = .ok (.bipush (-12), 2) := by decide +kernel
theorem dX9_shift_54 : decode cX9_shift 54 = .ok (.ireturn, 1) := by decide +kernel
theorem dX9_shift_55 : decode cX9_shift 55 = .ok (.iload 5, 2) := by decide +kernel
theorem dX9_shift_57 : decode cX9_shift 57 = .ok (.ifCond .lt 26, 3) := by decide +kernel
theorem dX9_shift_60 : decode cX9_shift 60 = .ok (.aload_n 0, 1) := by decide +kernel
theorem dX9_shift_61 : decode cX9_shift 61 = .ok (.iload_n 1, 1) := by decide +kernel
theorem dX9_shift_62 : decode cX9_shift 62 = .ok (.iload_n 2, 1) := by decide +kernel
theorem dX9_shift_63 : decode cX9_shift 63 = .ok (.iload 5, 2) := by decide +kernel
theorem dX9_shift_65 : decode cX9_shift 65 = .ok (.invokevirtual 383, 3) := by decide +kernel
theorem dX9_shift_68 : decode cX9_shift 68 = .ok (.ifCond .eq 15, 3) := by decide +kernel
theorem dX9_shift_71 : decode cX9_shift 71 = .ok (.aload_n 0, 1) := by decide +kernel
theorem dX9_shift_72 : decode cX9_shift 72 = .ok (.iload_n 3, 1) := by decide +kernel
theorem dX9_shift_73 : decode cX9_shift 73 = .ok (.iload 4, 2) := by decide +kernel
theorem dX9_shift_75 : decode cX9_shift 75 = .ok (.iload 5, 2) := by decide +kernel
theorem dX9_shift_77 : decode cX9_shift 77 = .ok (.invokevirtual 383, 3) := by decide +kernel
theorem dX9_shift_80 : decode cX9_shift 80 = .ok (.ifCond .ne 6, 3) := by decide +kernel
theorem dX9_shift_83 : decode cX9_shift 83 = .ok (.bipush (-13), 2) := by decide +kernel
theorem dX9_shift_85 : decode cX9_shift 85 = .ok (.ireturn, 1) := by decide +kernel
theorem dX9_shift_86 : decode cX9_shift 86 = .ok (.aload_n 0, 1) := by decide +kernel
theorem dX9_shift_87 : decode cX9_shift 87 = .ok (.getfield 97, 3) := by decide +kernel
theorem dX9_shift_90 : decode cX9_shift 90 = .ok (.iload_n 1, 1) := by decide +kernel
theorem dX9_shift_91 : decode cX9_shift 91 = .ok (.aaload, 1) := by decide +kernel
theorem dX9_shift_92 : decode cX9_shift 92 = .ok (.iload_n 2, 1) := by decide +kernel
theorem dX9_shift_93 : decode cX9_shift 93 = .ok (.aload_n 0, 1) := by decide +kernel
theorem dX9_shift_94 : decode cX9_shift 94 = .ok (.getfield 97, 3) := by decide +kernel
theorem dX9_shift_97 : decode cX9_shift 97 = .ok (.iload_n 3, 1) := by decide +kernel
theorem dX9_shift_98 : decode cX9_shift 98 = .ok (.aaload, 1) := by decide +kernel
theorem dX9_shift_99 : decode cX9_shift 99 = .ok (.iload 4, 2) := by decide +kernel
theorem dX9_shift_101 : decode cX9_shift 101 = .ok (.iload 5, 2) := by decide +kernel
theorem dX9_shift_103 : decode cX9_shift 103 = .ok (.invokestatic 367, 3) := by decide +kernel
theorem dX9_shift_106 : decode cX9_shift 106 = .ok (.iload 5, 2) := by decide +kernel
theorem dX9_shift_108 : decode cX9_shift 108 = .ok (.ireturn, 1) := by decide +kernel
theorem dL_law_0 : decode cL_law 0 = .ok (.new 7, 3) := by decide +kernel
theorem dL_law_3 : decode cL_law 3 = .ok (.dup, 1) := by decide +kernel
theorem dL_law_4 : decode cL_law 4 = .ok (.invokespecial 9, 3) := by decide +kernel
theorem dL_law_7 : decode cL_law 7 = .ok (.astore_n 1, 1) := by decide +kernel
theorem dL_law_8 : decode cL_law 8 = .ok (.new 10, 3) := by decide +kernel
theorem dL_law_11 : decode cL_law 11 = .ok (.dup, 1) := by decide +kernel
theorem dL_law_12 : decode cL_law 12 = .ok (.invokespecial 12, 3) := by decide +kernel
theorem dL_law_15 : decode cL_law 15 = .ok (.astore_n 2, 1) := by decide +kernel
theorem dL_law_16 : decode cL_law 16 = .ok (.iconst 0, 1) := by decide +kernel
theorem dL_law_17 : decode cL_law 17 = .ok (.istore_n 3, 1) := by decide +kernel
theorem dL_law_18 : decode cL_law 18 = .ok (.iload_n 3, 1) := by decide +kernel
theorem dL_law_19 : decode cL_law 19 = .ok (.aload_n 0, 1) := by decide +kernel
theorem dL_law_20 : decode cL_law 20 = .ok (.arraylength, 1) := by decide +kernel
theorem dL_law_21 : decode cL_law 21 = .ok (.bipush 6, 2) := by decide +kernel
theorem dL_law_23 : decode cL_law 23 = .ok (.isub, 1) := by decide +kernel
theorem dL_law_24 : decode cL_law 24 = .ok (.if_icmp .gt 1350, 3) := by decide +kernel
theorem dL_law_27 : decode cL_law 27 = .ok (.aload_n 0, 1) := by decide +kernel
theorem dL_law_28 : decode cL_law 28 = .ok (.iload_n 3, 1) := by decide +kernel
theorem dL_law_29 : decode cL_law 29 = .ok (.iaload, 1) := by decide +kernel
theorem dL_law_30 : decode cL_law 30 = .ok (.bipush 63, 2) := by decide +kernel
theorem dL_law_32 : decode cL_law 32 = .ok (.iand, 1) := by decide +kernel
theorem dL_law_33 : decode cL_law 33 = .ok (.tableswitch 1335 0 35 #[159, 192, 225, 248, 261, 274, 297, 310, 333, 366, 400, 454, 497, 530, 573, 626, 659, 703, 736, 770, 803, 846, 859, 893, 927, 960, 984, 1027, 1040, 1073, 1086, 1099, 1122, 1165, 1238, 1272], 159) := by decide +kernel
theorem dL_law_192 : decode cL_law 192 = .ok (.aload_n 1, 1) := by decide +kernel
theorem dL_law_193 : decode cL_law 193 = .ok (.aload_n 0, 1) := by decide +kernel
theorem dL_law_194 : decode cL_law 194 = .ok (.iload_n 3, 1) := by decide +kernel
theorem dL_law_195 : decode cL_law 195 = .ok (.iconst 1, 1) := by decide +kernel
theorem dL_law_196 : decode cL_law 196 = .ok (.iadd, 1) := by decide +kernel
theorem dL_law_197 : decode cL_law 197 = .ok (.iaload, 1) := by decide +kernel
theorem dL_law_198 : decode cL_law 198 = .ok (.aload_n 0, 1) := by decide +kernel
theorem dL_law_199 : decode cL_law 199 = .ok (.iload_n 3, 1) := by decide +kernel
theorem dL_law_200 : decode cL_law 200 = .ok (.iconst 2, 1) := by decide +kernel
theorem dL_law_201 : decode cL_law 201 = .ok (.iadd, 1) := by decide +kernel
theorem dL_law_202 : decode cL_law 202 = .ok (.iaload, 1) := by decide +kernel
theorem dL_law_203 : decode cL_law 203 = .ok (.invokevirtual 13, 3) := by decide +kernel
theorem dL_law_206 : decode cL_law 206 = .ok (.aload_n 2, 1) := by decide +kernel
theorem dL_law_207 : decode cL_law 207 = .ok (.aload_n 0, 1) := by decide +kernel
theorem dL_law_208 : decode cL_law 208 = .ok (.iload_n 3, 1) := by decide +kernel
theorem dL_law_209 : decode cL_law 209 = .ok (.iconst 1, 1) := by decide +kernel
theorem dL_law_210 : decode cL_law 210 = .ok (.iadd, 1) := by decide +kernel
theorem dL_law_211 : decode cL_law 211 = .ok (.iaload, 1) := by decide +kernel
theorem dL_law_212 : decode cL_law 212 = .ok (.aload_n 0, 1) := by decide +kernel
theorem dL_law_213 : decode cL_law 213 = .ok (.iload_n 3, 1) := by decide +kernel
theorem dL_law_214 : decode cL_law 214 = .ok (.iconst 2, 1) := by decide +kernel
theorem dL_law_215 : decode cL_law 215 = .ok (.iadd, 1) := by decide +kernel
theorem dL_law_216 : decode cL_law 216 = .ok (.iaload, 1) := by decide +kernel
theorem dL_law_217 : decode cL_law 217 = .ok (.invokevirtual 17, 3) := by decide +kernel
theorem dL_law_220 : decode cL_law 220 = .ok (.if_icmp .eq 1148, 3) := by decide +kernel
theorem dL_law_223 : decode cL_law 223 = .ok (.iconst 0, 1) := by decide +kernel
theorem dL_law_224 : decode cL_law 224 = .ok (.ireturn, 1) := by decide +kernel
theorem dL_law_225 : decode cL_law 225 = .ok (.aload_n 1, 1) := by decide +kernel
theorem dL_law_226 : decode cL_law 226 = .ok (.aload_n 0, 1) := by decide +kernel
theorem dL_law_227 : decode cL_law 227 = .ok (.iload_n 3, 1) := by decide +kernel
theorem dL_law_228 : decode cL_law 228 = .ok (.iconst 1, 1) := by decide +kernel
theorem dL_law_229 : decode cL_law 229 = .ok (.iadd, 1) := by decide +kernel
theorem dL_law_230 : decode cL_law 230 = .ok (.iaload, 1) := by decide +kernel
theorem dL_law_231 : decode cL_law 231 = .ok (.aload_n 0, 1) := by decide +kernel
theorem dL_law_232 : decode cL_law 232 = .ok (.iload_n 3, 1) := by decide +kernel
theorem dL_law_233 : decode cL_law 233 = .ok (.iconst 2, 1) := by decide +kernel
theorem dL_law_234 : decode cL_law 234 = .ok (.iadd, 1) := by decide +kernel
theorem dL_law_235 : decode cL_law 235 = .ok (.iaload, 1) := by decide +kernel
theorem dL_law_236 : decode cL_law 236 = .ok (.invokevirtual 18, 3) := by decide +kernel
theorem dL_law_239 : decode cL_law 239 = .ok (.aload_n 2, 1) := by decide +kernel
theorem dL_law_240 : decode cL_law 240 = .ok (.aload_n 0, 1) := by decide +kernel
theorem dL_law_241 : decode cL_law 241 = .ok (.iload_n 3, 1) := by decide +kernel
theorem dL_law_242 : decode cL_law 242 = .ok (.iconst 1, 1) := by decide +kernel
theorem dL_law_243 : decode cL_law 243 = .ok (.iadd, 1) := by decide +kernel
theorem dL_law_244 : decode cL_law 244 = .ok (.iaload, 1) := by decide +kernel
theorem dL_law_245 : decode cL_law 245 = .ok (.aload_n 0, 1) := by decide +kernel
theorem dL_law_246 : decode cL_law 246 = .ok (.iload_n 3, 1) := by decide +kernel
theorem dL_law_247 : decode cL_law 247 = .ok (.iconst 2, 1) := by decide +kernel
theorem dL_law_248 : decode cL_law 248 = .ok (.iadd, 1) := by decide +kernel
theorem dL_law_249 : decode cL_law 249 = .ok (.iaload, 1) := by decide +kernel
theorem dL_law_250 : decode cL_law 250 = .ok (.invokevirtual 21, 3) := by decide +kernel
theorem dL_law_253 : decode cL_law 253 = .ok (.if_icmp .eq 1115, 3) := by decide +kernel
theorem dL_law_256 : decode cL_law 256 = .ok (.iconst 0, 1) := by decide +kernel
theorem dL_law_257 : decode cL_law 257 = .ok (.ireturn, 1) := by decide +kernel
theorem dL_law_258 : decode cL_law 258 = .ok (.aload_n 1, 1) := by decide +kernel
theorem dL_law_259 : decode cL_law 259 = .ok (.aload_n 0, 1) := by decide +kernel
theorem dL_law_260 : decode cL_law 260 = .ok (.iload_n 3, 1) := by decide +kernel
theorem dL_law_261 : decode cL_law 261 = .ok (.iconst 1, 1) := by decide +kernel
theorem dL_law_262 : decode cL_law 262 = .ok (.iadd, 1) := by decide +kernel
theorem dL_law_263 : decode cL_law 263 = .ok (.iaload, 1) := by decide +kernel
theorem dL_law_264 : decode cL_law 264 = .ok (.invokevirtual 22, 3) := by decide +kernel
theorem dL_law_267 : decode cL_law 267 = .ok (.aload_n 2, 1) := by decide +kernel
theorem dL_law_268 : decode cL_law 268 = .ok (.aload_n 0, 1) := by decide +kernel
theorem dL_law_269 : decode cL_law 269 = .ok (.iload_n 3, 1) := by decide +kernel
theorem dL_law_270 : decode cL_law 270 = .ok (.iconst 1, 1) := by decide +kernel
theorem dL_law_271 : decode cL_law 271 = .ok (.iadd, 1) := by decide +kernel
theorem dL_law_272 : decode cL_law 272 = .ok (.iaload, 1) := by decide +kernel
theorem dL_law_273 : decode cL_law 273 = .ok (.invokevirtual 26, 3) := by decide +kernel
theorem dL_law_276 : decode cL_law 276 = .ok (.if_icmp .eq 1092, 3) := by decide +kernel
theorem dL_law_279 : decode cL_law 279 = .ok (.iconst 0, 1) := by decide +kernel
theorem dL_law_280 : decode cL_law 280 = .ok (.ireturn, 1) := by decide +kernel
theorem dL_law_281 : decode cL_law 281 = .ok (.aload_n 1, 1) := by decide +kernel
theorem dL_law_282 : decode cL_law 282 = .ok (.invokevirtual 27, 3) := by decide +kernel
theorem dL_law_285 : decode cL_law 285 = .ok (.aload_n 2, 1) := by decide +kernel
theorem dL_law_286 : decode cL_law 286 = .ok (.invokevirtual 31, 3) := by decide +kernel
theorem dL_law_289 : decode cL_law 289 = .ok (.if_icmp .eq 1079, 3) := by decide +kernel
theorem dL_law_292 : decode cL_law 292 = .ok (.iconst 0, 1) := by decide +kernel
theorem dL_law_293 : decode cL_law 293 = .ok (.ireturn, 1) := by decide +kernel
theorem dL_law_294 : decode cL_law 294 = .ok (.aload_n 1, 1) := by decide +kernel
theorem dL_law_295 : decode cL_law 295 = .ok (.invokevirtual 32, 3) := by decide +kernel
theorem dL_law_298 : decode cL_law 298 = .ok (.aload_n 2, 1) := by decide +kernel
theorem dL_law_299 : decode cL_law 299 = .ok (.invokevirtual 35, 3) := by decide +kernel
theorem dL_law_302 : decode cL_law 302 = .ok (.if_icmp .eq 1066, 3) := by decide +kernel
theorem dL_law_305 : decode cL_law 305 = .ok (.iconst 0, 1) := by decide +kernel
theorem dL_law_306 : decode cL_law 306 = .ok (.ireturn, 1) := by decide +kernel
theorem dL_law_307 : decode cL_law 307 = .ok (.aload_n 1, 1) := by decide +kernel
theorem dL_law_308 : decode cL_law 308 = .ok (.aload_n 0, 1) := by decide +kernel
theorem dL_law_309 : decode cL_law 309 = .ok (.iload_n 3, 1) := by decide +kernel
theorem dL_law_310 : decode cL_law 310 = .ok (.iconst 1, 1) := by decide +kernel
theorem dL_law_311 : decode cL_law 311 = .ok (.iadd, 1) := by decide +kernel
theorem dL_law_312 : decode cL_law 312 = .ok (.iaload, 1) := by decide +kernel
theorem dL_law_313 : decode cL_law 313 = .ok (.invokevirtual 36, 3) := by decide +kernel
theorem dL_law_316 : decode cL_law 316 = .ok (.aload_n 2, 1) := by decide +kernel
theorem dL_law_317 : decode cL_law 317 = .ok (.aload_n 0, 1) := by decide +kernel
theorem dL_law_318 : decode cL_law 318 = .ok (.iload_n 3, 1) := by decide +kernel
theorem dL_law_319 : decode cL_law 319 = .ok (.iconst 1, 1) := by decide +kernel
theorem dL_law_320 : decode cL_law 320 = .ok (.iadd, 1) := by decide +kernel
theorem dL_law_321 : decode cL_law 321 = .ok (.iaload, 1) := by decide +kernel
theorem dL_law_322 : decode cL_law 322 = .ok (.invokevirtual 39, 3) := by decide +kernel
theorem dL_law_325 : decode cL_law 325 = .ok (.if_icmp .eq 1043, 3) := by decide +kernel
theorem dL_law_328 : decode cL_law 328 = .ok (.iconst 0, 1) := by decide +kernel
theorem dL_law_329 : decode cL_law 329 = .ok (.ireturn, 1) := by decide +kernel
theorem dL_law_330 : decode cL_law 330 = .ok (.aload_n 1, 1) := by decide +kernel
theorem dL_law_331 : decode cL_law 331 = .ok (.invokevirtual 40, 3) := by decide +kernel
theorem dL_law_334 : decode cL_law 334 = .ok (.aload_n 2, 1) := by decide +kernel
theorem dL_law_335 : decode cL_law 335 = .ok (.invokevirtual 43, 3) := by decide +kernel
theorem dL_law_338 : decode cL_law 338 = .ok (.if_icmp .eq 1030, 3) := by decide +kernel
theorem dL_law_341 : decode cL_law 341 = .ok (.iconst 0, 1) := by decide +kernel
theorem dL_law_342 : decode cL_law 342 = .ok (.ireturn, 1) := by decide +kernel
theorem dL_law_343 : decode cL_law 343 = .ok (.aload_n 1, 1) := by decide +kernel
theorem dL_law_344 : decode cL_law 344 = .ok (.aload_n 0, 1) := by decide +kernel
theorem dL_law_345 : decode cL_law 345 = .ok (.iload_n 3, 1) := by decide +kernel
theorem dL_law_346 : decode cL_law 346 = .ok (.iconst 1, 1) := by decide +kernel
theorem dL_law_347 : decode cL_law 347 = .ok (.iadd, 1) := by decide +kernel
theorem dL_law_348 : decode cL_law 348 = .ok (.iaload, 1) := by decide +kernel
theorem dL_law_349 : decode cL_law 349 = .ok (.invokevirtual 44, 3) := by decide +kernel
theorem dL_law_352 : decode cL_law 352 = .ok (.aload_n 2, 1) := by decide +kernel
theorem dL_law_353 : decode cL_law 353 = .ok (.aload_n 0, 1) := by decide +kernel
theorem dL_law_354 : decode cL_law 354 = .ok (.iload_n 3, 1) := by decide +kernel
theorem dL_law_355 : decode cL_law 355 = .ok (.iconst 1, 1) := by decide +kernel
theorem dL_law_356 : decode cL_law 356 = .ok (.iadd, 1) := by decide +kernel
theorem dL_law_357 : decode cL_law 357 = .ok (.iaload, 1) := by decide +kernel
theorem dL_law_358 : decode cL_law 358 = .ok (.invokevirtual 47, 3) := by decide +kernel
theorem dL_law_361 : decode cL_law 361 = .ok (.if_icmp .eq 1007, 3) := by decide +kernel
theorem dL_law_364 : decode cL_law 364 = .ok (.iconst 0, 1) := by decide +kernel
theorem dL_law_365 : decode cL_law 365 = .ok (.ireturn, 1) := by decide +kernel
theorem dL_law_366 : decode cL_law 366 = .ok (.aload_n 1, 1) := by decide +kernel
theorem dL_law_367 : decode cL_law 367 = .ok (.aload_n 0, 1) := by decide +kernel
theorem dL_law_368 : decode cL_law 368 = .ok (.iload_n 3, 1) := by decide +kernel
theorem dL_law_369 : decode cL_law 369 = .ok (.iconst 1, 1) := by decide +kernel
theorem dL_law_370 : decode cL_law 370 = .ok (.iadd, 1) := by decide +kernel
theorem dL_law_371 : decode cL_law 371 = .ok (.iaload, 1) := by decide +kernel
theorem dL_law_372 : decode cL_law 372 = .ok (.aload_n 0, 1) := by decide +kernel
theorem dL_law_373 : decode cL_law 373 = .ok (.iload_n 3, 1) := by decide +kernel
theorem dL_law_374 : decode cL_law 374 = .ok (.iconst 2, 1) := by decide +kernel
theorem dL_law_375 : decode cL_law 375 = .ok (.iadd, 1) := by decide +kernel
theorem dL_law_376 : decode cL_law 376 = .ok (.iaload, 1) := by decide +kernel
theorem dL_law_377 : decode cL_law 377 = .ok (.invokevirtual 48, 3) := by decide +kernel
theorem dL_law_380 : decode cL_law 380 = .ok (.aload_n 2, 1) := by decide +kernel
theorem dL_law_381 : decode cL_law 381 = .ok (.aload_n 0, 1) := by decide +kernel
theorem dL_law_382 : decode cL_law 382 = .ok (.iload_n 3, 1) := by decide +kernel
theorem dL_law_383 : decode cL_law 383 = .ok (.iconst 1, 1) := by decide +kernel
theorem dL_law_384 : decode cL_law 384 = .ok (.iadd, 1) := by decide +kernel
theorem dL_law_385 : decode cL_law 385 = .ok (.iaload, 1) := by decide +kernel
theorem dL_law_386 : decode cL_law 386 = .ok (.aload_n 0, 1) := by decide +kernel
theorem dL_law_387 : decode cL_law 387 = .ok (.iload_n 3, 1) := by decide +kernel
theorem dL_law_388 : decode cL_law 388 = .ok (.iconst 2, 1) := by decide +kernel
theorem dL_law_389 : decode cL_law 389 = .ok (.iadd, 1) := by decide +kernel
theorem dL_law_390 : decode cL_law 390 = .ok (.iaload, 1) := by decide +kernel
theorem dL_law_391 : decode cL_law 391 = .ok (.invokevirtual 51, 3) := by decide +kernel
theorem dL_law_394 : decode cL_law 394 = .ok (.if_icmp .eq 974, 3) := by decide +kernel
theorem dL_law_397 : decode cL_law 397 = .ok (.iconst 0, 1) := by decide +kernel
theorem dL_law_398 : decode cL_law 398 = .ok (.ireturn, 1) := by decide +kernel
theorem dL_law_399 : decode cL_law 399 = .ok (.aload_n 1, 1) := by decide +kernel
theorem dL_law_400 : decode cL_law 400 = .ok (.aload_n 0, 1) := by decide +kernel
theorem dL_law_401 : decode cL_law 401 = .ok (.iload_n 3, 1) := by decide +kernel
theorem dL_law_402 : decode cL_law 402 = .ok (.iconst 1, 1) := by decide +kernel
theorem dL_law_403 : decode cL_law 403 = .ok (.iadd, 1) := by decide +kernel
theorem dL_law_404 : decode cL_law 404 = .ok (.iaload, 1) := by decide +kernel
theorem dL_law_405 : decode cL_law 405 = .ok (.aload_n 0, 1) := by decide +kernel
theorem dL_law_406 : decode cL_law 406 = .ok (.iload_n 3, 1) := by decide +kernel
theorem dL_law_407 : decode cL_law 407 = .ok (.iconst 2, 1) := by decide +kernel
theorem dL_law_408 : decode cL_law 408 = .ok (.iadd, 1) := by decide +kernel
theorem dL_law_409 : decode cL_law 409 = .ok (.iaload, 1) := by decide +kernel
theorem dL_law_410 : decode cL_law 410 = .ok (.invokevirtual 52, 3) := by decide +kernel
theorem dL_law_413 : decode cL_law 413 = .ok (.aload_n 2, 1) := by decide +kernel
theorem dL_law_414 : decode cL_law 414 = .ok (.aload_n 0, 1) := by decide +kernel
theorem dL_law_415 : decode cL_law 415 = .ok (.iload_n 3, 1) := by decide +kernel
theorem dL_law_416 : decode cL_law 416 = .ok (.iconst 1, 1) := by decide +kernel
theorem dL_law_417 : decode cL_law 417 = .ok (.iadd, 1) := by decide +kernel
theorem dL_law_418 : decode cL_law 418 = .ok (.iaload, 1) := by decide +kernel
theorem dL_law_419 : decode cL_law 419 = .ok (.aload_n 0, 1) := by decide +kernel
theorem dL_law_420 : decode cL_law 420 = .ok (.iload_n 3, 1) := by decide +kernel
theorem dL_law_421 : decode cL_law 421 = .ok (.iconst 2, 1) := by decide +kernel
theorem dL_law_422 : decode cL_law 422 = .ok (.iadd, 1) := by decide +kernel
theorem dL_law_423 : decode cL_law 423 = .ok (.iaload, 1) := by decide +kernel
theorem dL_law_424 : decode cL_law 424 = .ok (.invokevirtual 56, 3) := by decide +kernel
theorem dL_law_427 : decode cL_law 427 = .ok (.lcmp, 1) := by decide +kernel
theorem dL_law_428 : decode cL_law 428 = .ok (.ifCond .eq 940, 3) := by decide +kernel
theorem dL_law_431 : decode cL_law 431 = .ok (.iconst 0, 1) := by decide +kernel
theorem dL_law_432 : decode cL_law 432 = .ok (.ireturn, 1) := by decide +kernel
theorem dL_law_433 : decode cL_law 433 = .ok (.aload_n 1, 1) := by decide +kernel
theorem dL_law_434 : decode cL_law 434 = .ok (.aload_n 0, 1) := by decide +kernel
theorem dL_law_435 : decode cL_law 435 = .ok (.iload_n 3, 1) := by decide +kernel
theorem dL_law_436 : decode cL_law 436 = .ok (.iconst 1, 1) := by decide +kernel
theorem dL_law_437 : decode cL_law 437 = .ok (.iadd, 1) := by decide +kernel
theorem dL_law_438 : decode cL_law 438 = .ok (.iaload, 1) := by decide +kernel
theorem dL_law_439 : decode cL_law 439 = .ok (.aload_n 0, 1) := by decide +kernel
theorem dL_law_440 : decode cL_law 440 = .ok (.iload_n 3, 1) := by decide +kernel
theorem dL_law_441 : decode cL_law 441 = .ok (.iconst 2, 1) := by decide +kernel
theorem dL_law_442 : decode cL_law 442 = .ok (.iadd, 1) := by decide +kernel
theorem dL_law_443 : decode cL_law 443 = .ok (.iaload, 1) := by decide +kernel
theorem dL_law_444 : decode cL_law 444 = .ok (.aload_n 0, 1) := by decide +kernel
theorem dL_law_445 : decode cL_law 445 = .ok (.iload_n 3, 1) := by decide +kernel
theorem dL_law_446 : decode cL_law 446 = .ok (.iconst 3, 1) := by decide +kernel
theorem dL_law_447 : decode cL_law 447 = .ok (.iadd, 1) := by decide +kernel
theorem dL_law_448 : decode cL_law 448 = .ok (.iaload, 1) := by decide +kernel
theorem dL_law_449 : decode cL_law 449 = .ok (.aload_n 0, 1) := by decide +kernel
theorem dL_law_450 : decode cL_law 450 = .ok (.iload_n 3, 1) := by decide +kernel
theorem dL_law_451 : decode cL_law 451 = .ok (.iconst 4, 1) := by decide +kernel
theorem dL_law_452 : decode cL_law 452 = .ok (.iadd, 1) := by decide +kernel
theorem dL_law_453 : decode cL_law 453 = .ok (.iaload, 1) := by decide +kernel
theorem dL_law_454 : decode cL_law 454 = .ok (.invokevirtual 57, 3) := by decide +kernel
theorem dL_law_457 : decode cL_law 457 = .ok (.aload_n 2, 1) := by decide +kernel
theorem dL_law_458 : decode cL_law 458 = .ok (.aload_n 0, 1) := by decide +kernel
theorem dL_law_459 : decode cL_law 459 = .ok (.iload_n 3, 1) := by decide +kernel
theorem dL_law_460 : decode cL_law 460 = .ok (.iconst 1, 1) := by decide +kernel
theorem dL_law_461 : decode cL_law 461 = .ok (.iadd, 1) := by decide +kernel
theorem dL_law_462 : decode cL_law 462 = .ok (.iaload, 1) := by decide +kernel
theorem dL_law_463 : decode cL_law 463 = .ok (.aload_n 0, 1) := by decide +kernel
theorem dL_law_464 : decode cL_law 464 = .ok (.iload_n 3, 1) := by decide +kernel
theorem dL_law_465 : decode cL_law 465 = .ok (.iconst 2, 1) := by decide +kernel
theorem dL_law_466 : decode cL_law 466 = .ok (.iadd, 1) := by decide +kernel
theorem dL_law_467 : decode cL_law 467 = .ok (.iaload, 1) := by decide +kernel
theorem dL_law_468 : decode cL_law 468 = .ok (.aload_n 0, 1) := by decide +kernel
theorem dL_law_469 : decode cL_law 469 = .ok (.iload_n 3, 1) := by decide +kernel
theorem dL_law_470 : decode cL_law 470 = .ok (.iconst 3, 1) := by decide +kernel
theorem dL_law_471 : decode cL_law 471 = .ok (.iadd, 1) := by decide +kernel
theorem dL_law_472 : decode cL_law 472 = .ok (.iaload, 1) := by decide +kernel
theorem dL_law_473 : decode cL_law 473 = .ok (.aload_n 0, 1) := by decide +kernel
theorem dL_law_474 : decode cL_law 474 = .ok (.iload_n 3, 1) := by decide +kernel
theorem dL_law_475 : decode cL_law 475 = .ok (.iconst 4, 1) := by decide +kernel
theorem dL_law_476 : decode cL_law 476 = .ok (.iadd, 1) := by decide +kernel
theorem dL_law_477 : decode cL_law 477 = .ok (.iaload, 1) := by decide +kernel
theorem dL_law_478 : decode cL_law 478 = .ok (.invokevirtual 61, 3) := by decide +kernel
theorem dL_law_481 : decode cL_law 481 = .ok (.lcmp, 1) := by decide +kernel
theorem dL_law_482 : decode cL_law 482 = .ok (.ifCond .eq 886, 3) := by decide +kernel
theorem dL_law_485 : decode cL_law 485 = .ok (.iconst 0, 1) := by decide +kernel
theorem dL_law_486 : decode cL_law 486 = .ok (.ireturn, 1) := by decide +kernel
theorem dL_law_487 : decode cL_law 487 = .ok (.aload_n 1, 1) := by decide +kernel
theorem dL_law_488 : decode cL_law 488 = .ok (.aload_n 0, 1) := by decide +kernel
theorem dL_law_489 : decode cL_law 489 = .ok (.iload_n 3, 1) := by decide +kernel
theorem dL_law_490 : decode cL_law 490 = .ok (.iconst 1, 1) := by decide +kernel
theorem dL_law_491 : decode cL_law 491 = .ok (.iadd, 1) := by decide +kernel
theorem dL_law_492 : decode cL_law 492 = .ok (.iaload, 1) := by decide +kernel
theorem dL_law_493 : decode cL_law 493 = .ok (.aload_n 0, 1) := by decide +kernel
theorem dL_law_494 : decode cL_law 494 = .ok (.iload_n 3, 1) := by decide +kernel
theorem dL_law_495 : decode cL_law 495 = .ok (.iconst 2, 1) := by decide +kernel
theorem dL_law_496 : decode cL_law 496 = .ok (.iadd, 1) := by decide +kernel
theorem dL_law_497 : decode cL_law 497 = .ok (.iaload, 1) := by decide +kernel
theorem dL_law_498 : decode cL_law 498 = .ok (.aload_n 0, 1) := by decide +kernel
theorem dL_law_499 : decode cL_law 499 = .ok (.iload_n 3, 1) := by decide +kernel
theorem dL_law_500 : decode cL_law 500 = .ok (.iconst 3, 1) := by decide +kernel
theorem dL_law_501 : decode cL_law 501 = .ok (.iadd, 1) := by decide +kernel
theorem dL_law_502 : decode cL_law 502 = .ok (.iaload, 1) := by decide +kernel
theorem dL_law_503 : decode cL_law 503 = .ok (.invokevirtual 62, 3) := by decide +kernel
theorem dL_law_506 : decode cL_law 506 = .ok (.aload_n 2, 1) := by decide +kernel
theorem dL_law_507 : decode cL_law 507 = .ok (.aload_n 0, 1) := by decide +kernel
theorem dL_law_508 : decode cL_law 508 = .ok (.iload_n 3, 1) := by decide +kernel
theorem dL_law_509 : decode cL_law 509 = .ok (.iconst 1, 1) := by decide +kernel
theorem dL_law_510 : decode cL_law 510 = .ok (.iadd, 1) := by decide +kernel
theorem dL_law_511 : decode cL_law 511 = .ok (.iaload, 1) := by decide +kernel
theorem dL_law_512 : decode cL_law 512 = .ok (.aload_n 0, 1) := by decide +kernel
theorem dL_law_513 : decode cL_law 513 = .ok (.iload_n 3, 1) := by decide +kernel
theorem dL_law_514 : decode cL_law 514 = .ok (.iconst 2, 1) := by decide +kernel
theorem dL_law_515 : decode cL_law 515 = .ok (.iadd, 1) := by decide +kernel
theorem dL_law_516 : decode cL_law 516 = .ok (.iaload, 1) := by decide +kernel
theorem dL_law_517 : decode cL_law 517 = .ok (.aload_n 0, 1) := by decide +kernel
theorem dL_law_518 : decode cL_law 518 = .ok (.iload_n 3, 1) := by decide +kernel
theorem dL_law_519 : decode cL_law 519 = .ok (.iconst 3, 1) := by decide +kernel
theorem dL_law_520 : decode cL_law 520 = .ok (.iadd, 1) := by decide +kernel
theorem dL_law_521 : decode cL_law 521 = .ok (.iaload, 1) := by decide +kernel
theorem dL_law_522 : decode cL_law 522 = .ok (.invokevirtual 66, 3) := by decide +kernel
theorem dL_law_525 : decode cL_law 525 = .ok (.if_icmp .eq 843, 3) := by decide +kernel
theorem dL_law_528 : decode cL_law 528 = .ok (.iconst 0, 1) := by decide +kernel
theorem dL_law_529 : decode cL_law 529 = .ok (.ireturn, 1) := by decide +kernel
theorem dL_law_530 : decode cL_law 530 = .ok (.aload_n 1, 1) := by decide +kernel
theorem dL_law_531 : decode cL_law 531 = .ok (.aload_n 0, 1) := by decide +kernel
theorem dL_law_532 : decode cL_law 532 = .ok (.iload_n 3, 1) := by decide +kernel
theorem dL_law_533 : decode cL_law 533 = .ok (.iconst 1, 1) := by decide +kernel
theorem dL_law_534 : decode cL_law 534 = .ok (.iadd, 1) := by decide +kernel
theorem dL_law_535 : decode cL_law 535 = .ok (.iaload, 1) := by decide +kernel
theorem dL_law_536 : decode cL_law 536 = .ok (.aload_n 0, 1) := by decide +kernel
theorem dL_law_537 : decode cL_law 537 = .ok (.iload_n 3, 1) := by decide +kernel
theorem dL_law_538 : decode cL_law 538 = .ok (.iconst 2, 1) := by decide +kernel
theorem dL_law_539 : decode cL_law 539 = .ok (.iadd, 1) := by decide +kernel
theorem dL_law_540 : decode cL_law 540 = .ok (.iaload, 1) := by decide +kernel
theorem dL_law_541 : decode cL_law 541 = .ok (.invokevirtual 67, 3) := by decide +kernel
theorem dL_law_544 : decode cL_law 544 = .ok (.aload_n 2, 1) := by decide +kernel
theorem dL_law_545 : decode cL_law 545 = .ok (.aload_n 0, 1) := by decide +kernel
theorem dL_law_546 : decode cL_law 546 = .ok (.iload_n 3, 1) := by decide +kernel
theorem dL_law_547 : decode cL_law 547 = .ok (.iconst 1, 1) := by decide +kernel
theorem dL_law_548 : decode cL_law 548 = .ok (.iadd, 1) := by decide +kernel
theorem dL_law_549 : decode cL_law 549 = .ok (.iaload, 1) := by decide +kernel
theorem dL_law_550 : decode cL_law 550 = .ok (.aload_n 0, 1) := by decide +kernel
theorem dL_law_551 : decode cL_law 551 = .ok (.iload_n 3, 1) := by decide +kernel
theorem dL_law_552 : decode cL_law 552 = .ok (.iconst 2, 1) := by decide +kernel
theorem dL_law_553 : decode cL_law 553 = .ok (.iadd, 1) := by decide +kernel
theorem dL_law_554 : decode cL_law 554 = .ok (.iaload, 1) := by decide +kernel
theorem dL_law_555 : decode cL_law 555 = .ok (.invokevirtual 70, 3) := by decide +kernel
theorem dL_law_558 : decode cL_law 558 = .ok (.if_icmp .eq 810, 3) := by decide +kernel
theorem dL_law_561 : decode cL_law 561 = .ok (.iconst 0, 1) := by decide +kernel
theorem dL_law_562 : decode cL_law 562 = .ok (.ireturn, 1) := by decide +kernel
theorem dL_law_563 : decode cL_law 563 = .ok (.aload_n 1, 1) := by decide +kernel
theorem dL_law_564 : decode cL_law 564 = .ok (.aload_n 0, 1) := by decide +kernel
theorem dL_law_565 : decode cL_law 565 = .ok (.iload_n 3, 1) := by decide +kernel
theorem dL_law_566 : decode cL_law 566 = .ok (.iconst 1, 1) := by decide +kernel
theorem dL_law_567 : decode cL_law 567 = .ok (.iadd, 1) := by decide +kernel
theorem dL_law_568 : decode cL_law 568 = .ok (.iaload, 1) := by decide +kernel
theorem dL_law_569 : decode cL_law 569 = .ok (.aload_n 0, 1) := by decide +kernel
theorem dL_law_570 : decode cL_law 570 = .ok (.iload_n 3, 1) := by decide +kernel
theorem dL_law_571 : decode cL_law 571 = .ok (.iconst 2, 1) := by decide +kernel
theorem dL_law_572 : decode cL_law 572 = .ok (.iadd, 1) := by decide +kernel
theorem dL_law_573 : decode cL_law 573 = .ok (.iaload, 1) := by decide +kernel
theorem dL_law_574 : decode cL_law 574 = .ok (.aload_n 0, 1) := by decide +kernel
theorem dL_law_575 : decode cL_law 575 = .ok (.iload_n 3, 1) := by decide +kernel
theorem dL_law_576 : decode cL_law 576 = .ok (.iconst 3, 1) := by decide +kernel
theorem dL_law_577 : decode cL_law 577 = .ok (.iadd, 1) := by decide +kernel
theorem dL_law_578 : decode cL_law 578 = .ok (.iaload, 1) := by decide +kernel
theorem dL_law_579 : decode cL_law 579 = .ok (.invokevirtual 71, 3) := by decide +kernel
theorem dL_law_582 : decode cL_law 582 = .ok (.aload_n 2, 1) := by decide +kernel
theorem dL_law_583 : decode cL_law 583 = .ok (.aload_n 0, 1) := by decide +kernel
theorem dL_law_584 : decode cL_law 584 = .ok (.iload_n 3, 1) := by decide +kernel
theorem dL_law_585 : decode cL_law 585 = .ok (.iconst 1, 1) := by decide +kernel
theorem dL_law_586 : decode cL_law 586 = .ok (.iadd, 1) := by decide +kernel
theorem dL_law_587 : decode cL_law 587 = .ok (.iaload, 1) := by decide +kernel
theorem dL_law_588 : decode cL_law 588 = .ok (.aload_n 0, 1) := by decide +kernel
theorem dL_law_589 : decode cL_law 589 = .ok (.iload_n 3, 1) := by decide +kernel
theorem dL_law_590 : decode cL_law 590 = .ok (.iconst 2, 1) := by decide +kernel
theorem dL_law_591 : decode cL_law 591 = .ok (.iadd, 1) := by decide +kernel
theorem dL_law_592 : decode cL_law 592 = .ok (.iaload, 1) := by decide +kernel
theorem dL_law_593 : decode cL_law 593 = .ok (.aload_n 0, 1) := by decide +kernel
theorem dL_law_594 : decode cL_law 594 = .ok (.iload_n 3, 1) := by decide +kernel
theorem dL_law_595 : decode cL_law 595 = .ok (.iconst 3, 1) := by decide +kernel
theorem dL_law_596 : decode cL_law 596 = .ok (.iadd, 1) := by decide +kernel
theorem dL_law_597 : decode cL_law 597 = .ok (.iaload, 1) := by decide +kernel
theorem dL_law_598 : decode cL_law 598 = .ok (.invokevirtual 74, 3) := by decide +kernel
theorem dL_law_601 : decode cL_law 601 = .ok (.if_icmp .eq 767, 3) := by decide +kernel
theorem dL_law_604 : decode cL_law 604 = .ok (.iconst 0, 1) := by decide +kernel
theorem dL_law_605 : decode cL_law 605 = .ok (.ireturn, 1) := by decide +kernel
theorem dL_law_606 : decode cL_law 606 = .ok (.aload_n 1, 1) := by decide +kernel
theorem dL_law_607 : decode cL_law 607 = .ok (.aload_n 0, 1) := by decide +kernel
theorem dL_law_608 : decode cL_law 608 = .ok (.iload_n 3, 1) := by decide +kernel
theorem dL_law_609 : decode cL_law 609 = .ok (.iconst 1, 1) := by decide +kernel
theorem dL_law_610 : decode cL_law 610 = .ok (.iadd, 1) := by decide +kernel
theorem dL_law_611 : decode cL_law 611 = .ok (.iaload, 1) := by decide +kernel
theorem dL_law_612 : decode cL_law 612 = .ok (.aload_n 0, 1) := by decide +kernel
theorem dL_law_613 : decode cL_law 613 = .ok (.iload_n 3, 1) := by decide +kernel
theorem dL_law_614 : decode cL_law 614 = .ok (.iconst 2, 1) := by decide +kernel
theorem dL_law_615 : decode cL_law 615 = .ok (.iadd, 1) := by decide +kernel
theorem dL_law_616 : decode cL_law 616 = .ok (.iaload, 1) := by decide +kernel
theorem dL_law_617 : decode cL_law 617 = .ok (.aload_n 0, 1) := by decide +kernel
theorem dL_law_618 : decode cL_law 618 = .ok (.iload_n 3, 1) := by decide +kernel
theorem dL_law_619 : decode cL_law 619 = .ok (.iconst 3, 1) := by decide +kernel
theorem dL_law_620 : decode cL_law 620 = .ok (.iadd, 1) := by decide +kernel
theorem dL_law_621 : decode cL_law 621 = .ok (.iaload, 1) := by decide +kernel
theorem dL_law_622 : decode cL_law 622 = .ok (.aload_n 0, 1) := by decide +kernel
theorem dL_law_623 : decode cL_law 623 = .ok (.iload_n 3, 1) := by decide +kernel
theorem dL_law_624 : decode cL_law 624 = .ok (.iconst 4, 1) := by decide +kernel
theorem dL_law_625 : decode cL_law 625 = .ok (.iadd, 1) := by decide +kernel
theorem dL_law_626 : decode cL_law 626 = .ok (.iaload, 1) := by decide +kernel
theorem dL_law_627 : decode cL_law 627 = .ok (.invokevirtual 75, 3) := by decide +kernel
theorem dL_law_630 : decode cL_law 630 = .ok (.aload_n 2, 1) := by decide +kernel
theorem dL_law_631 : decode cL_law 631 = .ok (.aload_n 0, 1) := by decide +kernel
theorem dL_law_632 : decode cL_law 632 = .ok (.iload_n 3, 1) := by decide +kernel
theorem dL_law_633 : decode cL_law 633 = .ok (.iconst 1, 1) := by decide +kernel
theorem dL_law_634 : decode cL_law 634 = .ok (.iadd, 1) := by decide +kernel
theorem dL_law_635 : decode cL_law 635 = .ok (.iaload, 1) := by decide +kernel
theorem dL_law_636 : decode cL_law 636 = .ok (.aload_n 0, 1) := by decide +kernel
theorem dL_law_637 : decode cL_law 637 = .ok (.iload_n 3, 1) := by decide +kernel
theorem dL_law_638 : decode cL_law 638 = .ok (.iconst 2, 1) := by decide +kernel
theorem dL_law_639 : decode cL_law 639 = .ok (.iadd, 1) := by decide +kernel
theorem dL_law_640 : decode cL_law 640 = .ok (.iaload, 1) := by decide +kernel
theorem dL_law_641 : decode cL_law 641 = .ok (.aload_n 0, 1) := by decide +kernel
theorem dL_law_642 : decode cL_law 642 = .ok (.iload_n 3, 1) := by decide +kernel
theorem dL_law_643 : decode cL_law 643 = .ok (.iconst 3, 1) := by decide +kernel
theorem dL_law_644 : decode cL_law 644 = .ok (.iadd, 1) := by decide +kernel
theorem dL_law_645 : decode cL_law 645 = .ok (.iaload, 1) := by decide +kernel
theorem dL_law_646 : decode cL_law 646 = .ok (.aload_n 0, 1) := by decide +kernel
theorem dL_law_647 : decode cL_law 647 = .ok (.iload_n 3, 1) := by decide +kernel
theorem dL_law_648 : decode cL_law 648 = .ok (.iconst 4, 1) := by decide +kernel
theorem dL_law_649 : decode cL_law 649 = .ok (.iadd, 1) := by decide +kernel
theorem dL_law_650 : decode cL_law 650 = .ok (.iaload, 1) := by decide +kernel
theorem dL_law_651 : decode cL_law 651 = .ok (.invokevirtual 79, 3) := by decide +kernel
theorem dL_law_654 : decode cL_law 654 = .ok (.if_icmp .eq 714, 3) := by decide +kernel
theorem dL_law_657 : decode cL_law 657 = .ok (.iconst 0, 1) := by decide +kernel
theorem dL_law_658 : decode cL_law 658 = .ok (.ireturn, 1) := by decide +kernel
theorem dL_law_659 : decode cL_law 659 = .ok (.aload_n 1, 1) := by decide +kernel
theorem dL_law_660 : decode cL_law 660 = .ok (.aload_n 0, 1) := by decide +kernel
theorem dL_law_661 : decode cL_law 661 = .ok (.iload_n 3, 1) := by decide +kernel
theorem dL_law_662 : decode cL_law 662 = .ok (.iconst 1, 1) := by decide +kernel
theorem dL_law_663 : decode cL_law 663 = .ok (.iadd, 1) := by decide +kernel
theorem dL_law_664 : decode cL_law 664 = .ok (.iaload, 1) := by decide +kernel
theorem dL_law_665 : decode cL_law 665 = .ok (.aload_n 0, 1) := by decide +kernel
theorem dL_law_666 : decode cL_law 666 = .ok (.iload_n 3, 1) := by decide +kernel
theorem dL_law_667 : decode cL_law 667 = .ok (.iconst 2, 1) := by decide +kernel
theorem dL_law_668 : decode cL_law 668 = .ok (.iadd, 1) := by decide +kernel
theorem dL_law_669 : decode cL_law 669 = .ok (.iaload, 1) := by decide +kernel
theorem dL_law_670 : decode cL_law 670 = .ok (.invokevirtual 80, 3) := by decide +kernel
theorem dL_law_673 : decode cL_law 673 = .ok (.aload_n 2, 1) := by decide +kernel
theorem dL_law_674 : decode cL_law 674 = .ok (.aload_n 0, 1) := by decide +kernel
theorem dL_law_675 : decode cL_law 675 = .ok (.iload_n 3, 1) := by decide +kernel
theorem dL_law_676 : decode cL_law 676 = .ok (.iconst 1, 1) := by decide +kernel
theorem dL_law_677 : decode cL_law 677 = .ok (.iadd, 1) := by decide +kernel
theorem dL_law_678 : decode cL_law 678 = .ok (.iaload, 1) := by decide +kernel
theorem dL_law_679 : decode cL_law 679 = .ok (.aload_n 0, 1) := by decide +kernel
theorem dL_law_680 : decode cL_law 680 = .ok (.iload_n 3, 1) := by decide +kernel
theorem dL_law_681 : decode cL_law 681 = .ok (.iconst 2, 1) := by decide +kernel
theorem dL_law_682 : decode cL_law 682 = .ok (.iadd, 1) := by decide +kernel
theorem dL_law_683 : decode cL_law 683 = .ok (.iaload, 1) := by decide +kernel
theorem dL_law_684 : decode cL_law 684 = .ok (.invokevirtual 83, 3) := by decide +kernel
theorem dL_law_687 : decode cL_law 687 = .ok (.if_icmp .eq 681, 3) := by decide +kernel
theorem dL_law_690 : decode cL_law 690 = .ok (.iconst 0, 1) := by decide +kernel
theorem dL_law_691 : decode cL_law 691 = .ok (.ireturn, 1) := by decide +kernel
theorem dL_law_692 : decode cL_law 692 = .ok (.aload_n 1, 1) := by decide +kernel
theorem dL_law_693 : decode cL_law 693 = .ok (.aload_n 0, 1) := by decide +kernel
theorem dL_law_694 : decode cL_law 694 = .ok (.iload_n 3, 1) := by decide +kernel
theorem dL_law_695 : decode cL_law 695 = .ok (.iconst 1, 1) := by decide +kernel
theorem dL_law_696 : decode cL_law 696 = .ok (.iadd, 1) := by decide +kernel
theorem dL_law_697 : decode cL_law 697 = .ok (.iaload, 1) := by decide +kernel
theorem dL_law_698 : decode cL_law 698 = .ok (.aload_n 0, 1) := by decide +kernel
theorem dL_law_699 : decode cL_law 699 = .ok (.iload_n 3, 1) := by decide +kernel
theorem dL_law_700 : decode cL_law 700 = .ok (.iconst 2, 1) := by decide +kernel
theorem dL_law_701 : decode cL_law 701 = .ok (.iadd, 1) := by decide +kernel
theorem dL_law_702 : decode cL_law 702 = .ok (.iaload, 1) := by decide +kernel
theorem dL_law_703 : decode cL_law 703 = .ok (.aload_n 0, 1) := by decide +kernel
theorem dL_law_704 : decode cL_law 704 = .ok (.iload_n 3, 1) := by decide +kernel
theorem dL_law_705 : decode cL_law 705 = .ok (.iconst 3, 1) := by decide +kernel
theorem dL_law_706 : decode cL_law 706 = .ok (.iadd, 1) := by decide +kernel
theorem dL_law_707 : decode cL_law 707 = .ok (.iaload, 1) := by decide +kernel
theorem dL_law_708 : decode cL_law 708 = .ok (.invokevirtual 84, 3) := by decide +kernel
theorem dL_law_711 : decode cL_law 711 = .ok (.aload_n 2, 1) := by decide +kernel
theorem dL_law_712 : decode cL_law 712 = .ok (.aload_n 0, 1) := by decide +kernel
theorem dL_law_713 : decode cL_law 713 = .ok (.iload_n 3, 1) := by decide +kernel
theorem dL_law_714 : decode cL_law 714 = .ok (.iconst 1, 1) := by decide +kernel
theorem dL_law_715 : decode cL_law 715 = .ok (.iadd, 1) := by decide +kernel
theorem dL_law_716 : decode cL_law 716 = .ok (.iaload, 1) := by decide +kernel
theorem dL_law_717 : decode cL_law 717 = .ok (.aload_n 0, 1) := by decide +kernel
theorem dL_law_718 : decode cL_law 718 = .ok (.iload_n 3, 1) := by decide +kernel
theorem dL_law_719 : decode cL_law 719 = .ok (.iconst 2, 1) := by decide +kernel
theorem dL_law_720 : decode cL_law 720 = .ok (.iadd, 1) := by decide +kernel
theorem dL_law_721 : decode cL_law 721 = .ok (.iaload, 1) := by decide +kernel
theorem dL_law_722 : decode cL_law 722 = .ok (.aload_n 0, 1) := by decide +kernel
theorem dL_law_723 : decode cL_law 723 = .ok (.iload_n 3, 1) := by decide +kernel
theorem dL_law_724 : decode cL_law 724 = .ok (.iconst 3, 1) := by decide +kernel
theorem dL_law_725 : decode cL_law 725 = .ok (.iadd, 1) := by decide +kernel
theorem dL_law_726 : decode cL_law 726 = .ok (.iaload, 1) := by decide +kernel
theorem dL_law_727 : decode cL_law 727 = .ok (.invokevirtual 88, 3) := by decide +kernel
theorem dL_law_730 : decode cL_law 730 = .ok (.lcmp, 1) := by decide +kernel
theorem dL_law_731 : decode cL_law 731 = .ok (.ifCond .eq 637, 3) := by decide +kernel
theorem dL_law_734 : decode cL_law 734 = .ok (.iconst 0, 1) := by decide +kernel
theorem dL_law_735 : decode cL_law 735 = .ok (.ireturn, 1) := by decide +kernel
theorem dL_law_736 : decode cL_law 736 = .ok (.aload_n 1, 1) := by decide +kernel
theorem dL_law_737 : decode cL_law 737 = .ok (.aload_n 0, 1) := by decide +kernel
theorem dL_law_738 : decode cL_law 738 = .ok (.iload_n 3, 1) := by decide +kernel
theorem dL_law_739 : decode cL_law 739 = .ok (.iconst 1, 1) := by decide +kernel
theorem dL_law_740 : decode cL_law 740 = .ok (.iadd, 1) := by decide +kernel
theorem dL_law_741 : decode cL_law 741 = .ok (.iaload, 1) := by decide +kernel
theorem dL_law_742 : decode cL_law 742 = .ok (.aload_n 0, 1) := by decide +kernel
theorem dL_law_743 : decode cL_law 743 = .ok (.iload_n 3, 1) := by decide +kernel
theorem dL_law_744 : decode cL_law 744 = .ok (.iconst 2, 1) := by decide +kernel
theorem dL_law_745 : decode cL_law 745 = .ok (.iadd, 1) := by decide +kernel
theorem dL_law_746 : decode cL_law 746 = .ok (.iaload, 1) := by decide +kernel
theorem dL_law_747 : decode cL_law 747 = .ok (.invokevirtual 89, 3) := by decide +kernel
theorem dL_law_750 : decode cL_law 750 = .ok (.aload_n 2, 1) := by decide +kernel
theorem dL_law_751 : decode cL_law 751 = .ok (.aload_n 0, 1) := by decide +kernel
theorem dL_law_752 : decode cL_law 752 = .ok (.iload_n 3, 1) := by decide +kernel
theorem dL_law_753 : decode cL_law 753 = .ok (.iconst 1, 1) := by decide +kernel
theorem dL_law_754 : decode cL_law 754 = .ok (.iadd, 1) := by decide +kernel
theorem dL_law_755 : decode cL_law 755 = .ok (.iaload, 1) := by decide +kernel
theorem dL_law_756 : decode cL_law 756 = .ok (.aload_n 0, 1) := by decide +kernel
theorem dL_law_757 : decode cL_law 757 = .ok (.iload_n 3, 1) := by decide +kernel
theorem dL_law_758 : decode cL_law 758 = .ok (.iconst 2, 1) := by decide +kernel
theorem dL_law_759 : decode cL_law 759 = .ok (.iadd, 1) := by decide +kernel
theorem dL_law_760 : decode cL_law 760 = .ok (.iaload, 1) := by decide +kernel
theorem dL_law_761 : decode cL_law 761 = .ok (.invokevirtual 92, 3) := by decide +kernel
theorem dL_law_764 : decode cL_law 764 = .ok (.if_icmp .eq 604, 3) := by decide +kernel
theorem dL_law_767 : decode cL_law 767 = .ok (.iconst 0, 1) := by decide +kernel
theorem dL_law_768 : decode cL_law 768 = .ok (.ireturn, 1) := by decide +kernel
theorem dL_law_769 : decode cL_law 769 = .ok (.aload_n 1, 1) := by decide +kernel
theorem dL_law_770 : decode cL_law 770 = .ok (.aload_n 0, 1) := by decide +kernel
theorem dL_law_771 : decode cL_law 771 = .ok (.iload_n 3, 1) := by decide +kernel
theorem dL_law_772 : decode cL_law 772 = .ok (.iconst 1, 1) := by decide +kernel
theorem dL_law_773 : decode cL_law 773 = .ok (.iadd, 1) := by decide +kernel
theorem dL_law_774 : decode cL_law 774 = .ok (.iaload, 1) := by decide +kernel
theorem dL_law_775 : decode cL_law 775 = .ok (.aload_n 0, 1) := by decide +kernel
theorem dL_law_776 : decode cL_law 776 = .ok (.iload_n 3, 1) := by decide +kernel
theorem dL_law_777 : decode cL_law 777 = .ok (.iconst 2, 1) := by decide +kernel
theorem dL_law_778 : decode cL_law 778 = .ok (.iadd, 1) := by decide +kernel
theorem dL_law_779 : decode cL_law 779 = .ok (.iaload, 1) := by decide +kernel
theorem dL_law_780 : decode cL_law 780 = .ok (.invokevirtual 93, 3) := by decide +kernel
theorem dL_law_783 : decode cL_law 783 = .ok (.aload_n 2, 1) := by decide +kernel
theorem dL_law_784 : decode cL_law 784 = .ok (.aload_n 0, 1) := by decide +kernel
theorem dL_law_785 : decode cL_law 785 = .ok (.iload_n 3, 1) := by decide +kernel
theorem dL_law_786 : decode cL_law 786 = .ok (.iconst 1, 1) := by decide +kernel
theorem dL_law_787 : decode cL_law 787 = .ok (.iadd, 1) := by decide +kernel
theorem dL_law_788 : decode cL_law 788 = .ok (.iaload, 1) := by decide +kernel
theorem dL_law_789 : decode cL_law 789 = .ok (.aload_n 0, 1) := by decide +kernel
theorem dL_law_790 : decode cL_law 790 = .ok (.iload_n 3, 1) := by decide +kernel
theorem dL_law_791 : decode cL_law 791 = .ok (.iconst 2, 1) := by decide +kernel
theorem dL_law_792 : decode cL_law 792 = .ok (.iadd, 1) := by decide +kernel
theorem dL_law_793 : decode cL_law 793 = .ok (.iaload, 1) := by decide +kernel
theorem dL_law_794 : decode cL_law 794 = .ok (.invokevirtual 96, 3) := by decide +kernel
theorem dL_law_797 : decode cL_law 797 = .ok (.lcmp, 1) := by decide +kernel
theorem dL_law_798 : decode cL_law 798 = .ok (.ifCond .eq 570, 3) := by decide +kernel
theorem dL_law_801 : decode cL_law 801 = .ok (.iconst 0, 1) := by decide +kernel
theorem dL_law_802 : decode cL_law 802 = .ok (.ireturn, 1) := by decide +kernel
theorem dL_law_803 : decode cL_law 803 = .ok (.aload_n 1, 1) := by decide +kernel
theorem dL_law_804 : decode cL_law 804 = .ok (.aload_n 0, 1) := by decide +kernel
theorem dL_law_805 : decode cL_law 805 = .ok (.iload_n 3, 1) := by decide +kernel
theorem dL_law_806 : decode cL_law 806 = .ok (.iconst 1, 1) := by decide +kernel
theorem dL_law_807 : decode cL_law 807 = .ok (.iadd, 1) := by decide +kernel
theorem dL_law_808 : decode cL_law 808 = .ok (.iaload, 1) := by decide +kernel
theorem dL_law_809 : decode cL_law 809 = .ok (.aload_n 0, 1) := by decide +kernel
theorem dL_law_810 : decode cL_law 810 = .ok (.iload_n 3, 1) := by decide +kernel
theorem dL_law_811 : decode cL_law 811 = .ok (.iconst 2, 1) := by decide +kernel
theorem dL_law_812 : decode cL_law 812 = .ok (.iadd, 1) := by decide +kernel
theorem dL_law_813 : decode cL_law 813 = .ok (.iaload, 1) := by decide +kernel
theorem dL_law_814 : decode cL_law 814 = .ok (.invokevirtual 97, 3) := by decide +kernel
theorem dL_law_817 : decode cL_law 817 = .ok (.aload_n 2, 1) := by decide +kernel
theorem dL_law_818 : decode cL_law 818 = .ok (.aload_n 0, 1) := by decide +kernel
theorem dL_law_819 : decode cL_law 819 = .ok (.iload_n 3, 1) := by decide +kernel
theorem dL_law_820 : decode cL_law 820 = .ok (.iconst 1, 1) := by decide +kernel
theorem dL_law_821 : decode cL_law 821 = .ok (.iadd, 1) := by decide +kernel
theorem dL_law_822 : decode cL_law 822 = .ok (.iaload, 1) := by decide +kernel
theorem dL_law_823 : decode cL_law 823 = .ok (.aload_n 0, 1) := by decide +kernel
theorem dL_law_824 : decode cL_law 824 = .ok (.iload_n 3, 1) := by decide +kernel
theorem dL_law_825 : decode cL_law 825 = .ok (.iconst 2, 1) := by decide +kernel
theorem dL_law_826 : decode cL_law 826 = .ok (.iadd, 1) := by decide +kernel
theorem dL_law_827 : decode cL_law 827 = .ok (.iaload, 1) := by decide +kernel
theorem dL_law_828 : decode cL_law 828 = .ok (.invokevirtual 100, 3) := by decide +kernel
theorem dL_law_831 : decode cL_law 831 = .ok (.if_icmp .eq 537, 3) := by decide +kernel
theorem dL_law_834 : decode cL_law 834 = .ok (.iconst 0, 1) := by decide +kernel
theorem dL_law_835 : decode cL_law 835 = .ok (.ireturn, 1) := by decide +kernel
theorem dL_law_836 : decode cL_law 836 = .ok (.aload_n 1, 1) := by decide +kernel
theorem dL_law_837 : decode cL_law 837 = .ok (.aload_n 0, 1) := by decide +kernel
theorem dL_law_838 : decode cL_law 838 = .ok (.iload_n 3, 1) := by decide +kernel
theorem dL_law_839 : decode cL_law 839 = .ok (.iconst 1, 1) := by decide +kernel
theorem dL_law_840 : decode cL_law 840 = .ok (.iadd, 1) := by decide +kernel
theorem dL_law_841 : decode cL_law 841 = .ok (.iaload, 1) := by decide +kernel
theorem dL_law_842 : decode cL_law 842 = .ok (.aload_n 0, 1) := by decide +kernel
theorem dL_law_843 : decode cL_law 843 = .ok (.iload_n 3, 1) := by decide +kernel
theorem dL_law_844 : decode cL_law 844 = .ok (.iconst 2, 1) := by decide +kernel
theorem dL_law_845 : decode cL_law 845 = .ok (.iadd, 1) := by decide +kernel
theorem dL_law_846 : decode cL_law 846 = .ok (.iaload, 1) := by decide +kernel
theorem dL_law_847 : decode cL_law 847 = .ok (.aload_n 0, 1) := by decide +kernel
theorem dL_law_848 : decode cL_law 848 = .ok (.iload_n 3, 1) := by decide +kernel
theorem dL_law_849 : decode cL_law 849 = .ok (.iconst 3, 1) := by decide +kernel
theorem dL_law_850 : decode cL_law 850 = .ok (.iadd, 1) := by decide +kernel
theorem dL_law_851 : decode cL_law 851 = .ok (.iaload, 1) := by decide +kernel
theorem dL_law_852 : decode cL_law 852 = .ok (.invokevirtual 101, 3) := by decide +kernel
theorem dL_law_855 : decode cL_law 855 = .ok (.aload_n 2, 1) := by decide +kernel
theorem dL_law_856 : decode cL_law 856 = .ok (.aload_n 0, 1) := by decide +kernel
theorem dL_law_857 : decode cL_law 857 = .ok (.iload_n 3, 1) := by decide +kernel
theorem dL_law_858 : decode cL_law 858 = .ok (.iconst 1, 1) := by decide +kernel
theorem dL_law_859 : decode cL_law 859 = .ok (.iadd, 1) := by decide +kernel
theorem dL_law_860 : decode cL_law 860 = .ok (.iaload, 1) := by decide +kernel
theorem dL_law_861 : decode cL_law 861 = .ok (.aload_n 0, 1) := by decide +kernel
theorem dL_law_862 : decode cL_law 862 = .ok (.iload_n 3, 1) := by decide +kernel
theorem dL_law_863 : decode cL_law 863 = .ok (.iconst 2, 1) := by decide +kernel
theorem dL_law_864 : decode cL_law 864 = .ok (.iadd, 1) := by decide +kernel
theorem dL_law_865 : decode cL_law 865 = .ok (.iaload, 1) := by decide +kernel
theorem dL_law_866 : decode cL_law 866 = .ok (.aload_n 0, 1) := by decide +kernel
theorem dL_law_867 : decode cL_law 867 = .ok (.iload_n 3, 1) := by decide +kernel
theorem dL_law_868 : decode cL_law 868 = .ok (.iconst 3, 1) := by decide +kernel
theorem dL_law_869 : decode cL_law 869 = .ok (.iadd, 1) := by decide +kernel
theorem dL_law_870 : decode cL_law 870 = .ok (.iaload, 1) := by decide +kernel
theorem dL_law_871 : decode cL_law 871 = .ok (.invokevirtual 104, 3) := by decide +kernel
theorem dL_law_874 : decode cL_law 874 = .ok (.if_icmp .eq 494, 3) := by decide +kernel
theorem dL_law_877 : decode cL_law 877 = .ok (.iconst 0, 1) := by decide +kernel
theorem dL_law_878 : decode cL_law 878 = .ok (.ireturn, 1) := by decide +kernel
theorem dL_law_879 : decode cL_law 879 = .ok (.aload_n 1, 1) := by decide +kernel
theorem dL_law_880 : decode cL_law 880 = .ok (.invokevirtual 105, 3) := by decide +kernel
theorem dL_law_883 : decode cL_law 883 = .ok (.aload_n 2, 1) := by decide +kernel
theorem dL_law_884 : decode cL_law 884 = .ok (.invokevirtual 108, 3) := by decide +kernel
theorem dL_law_887 : decode cL_law 887 = .ok (.if_icmp .eq 481, 3) := by decide +kernel
theorem dL_law_890 : decode cL_law 890 = .ok (.iconst 0, 1) := by decide +kernel
theorem dL_law_891 : decode cL_law 891 = .ok (.ireturn, 1) := by decide +kernel
theorem dL_law_892 : decode cL_law 892 = .ok (.aload_n 1, 1) := by decide +kernel
theorem dL_law_893 : decode cL_law 893 = .ok (.aload_n 0, 1) := by decide +kernel
theorem dL_law_894 : decode cL_law 894 = .ok (.iload_n 3, 1) := by decide +kernel
theorem dL_law_895 : decode cL_law 895 = .ok (.iconst 1, 1) := by decide +kernel
theorem dL_law_896 : decode cL_law 896 = .ok (.iadd, 1) := by decide +kernel
theorem dL_law_897 : decode cL_law 897 = .ok (.iaload, 1) := by decide +kernel
theorem dL_law_898 : decode cL_law 898 = .ok (.aload_n 0, 1) := by decide +kernel
theorem dL_law_899 : decode cL_law 899 = .ok (.iload_n 3, 1) := by decide +kernel
theorem dL_law_900 : decode cL_law 900 = .ok (.iconst 2, 1) := by decide +kernel
theorem dL_law_901 : decode cL_law 901 = .ok (.iadd, 1) := by decide +kernel
theorem dL_law_902 : decode cL_law 902 = .ok (.iaload, 1) := by decide +kernel
theorem dL_law_903 : decode cL_law 903 = .ok (.invokevirtual 109, 3) := by decide +kernel
theorem dL_law_906 : decode cL_law 906 = .ok (.aload_n 2, 1) := by decide +kernel
theorem dL_law_907 : decode cL_law 907 = .ok (.aload_n 0, 1) := by decide +kernel
theorem dL_law_908 : decode cL_law 908 = .ok (.iload_n 3, 1) := by decide +kernel
theorem dL_law_909 : decode cL_law 909 = .ok (.iconst 1, 1) := by decide +kernel
theorem dL_law_910 : decode cL_law 910 = .ok (.iadd, 1) := by decide +kernel
theorem dL_law_911 : decode cL_law 911 = .ok (.iaload, 1) := by decide +kernel
theorem dL_law_912 : decode cL_law 912 = .ok (.aload_n 0, 1) := by decide +kernel
theorem dL_law_913 : decode cL_law 913 = .ok (.iload_n 3, 1) := by decide +kernel
theorem dL_law_914 : decode cL_law 914 = .ok (.iconst 2, 1) := by decide +kernel
theorem dL_law_915 : decode cL_law 915 = .ok (.iadd, 1) := by decide +kernel
theorem dL_law_916 : decode cL_law 916 = .ok (.iaload, 1) := by decide +kernel
theorem dL_law_917 : decode cL_law 917 = .ok (.invokevirtual 112, 3) := by decide +kernel
theorem dL_law_920 : decode cL_law 920 = .ok (.lcmp, 1) := by decide +kernel
theorem dL_law_921 : decode cL_law 921 = .ok (.ifCond .eq 447, 3) := by decide +kernel
theorem dL_law_924 : decode cL_law 924 = .ok (.iconst 0, 1) := by decide +kernel
theorem dL_law_925 : decode cL_law 925 = .ok (.ireturn, 1) := by decide +kernel
theorem dL_law_926 : decode cL_law 926 = .ok (.aload_n 1, 1) := by decide +kernel
theorem dL_law_927 : decode cL_law 927 = .ok (.aload_n 0, 1) := by decide +kernel
theorem dL_law_928 : decode cL_law 928 = .ok (.iload_n 3, 1) := by decide +kernel
theorem dL_law_929 : decode cL_law 929 = .ok (.iconst 1, 1) := by decide +kernel
theorem dL_law_930 : decode cL_law 930 = .ok (.iadd, 1) := by decide +kernel
theorem dL_law_931 : decode cL_law 931 = .ok (.iaload, 1) := by decide +kernel
theorem dL_law_932 : decode cL_law 932 = .ok (.aload_n 0, 1) := by decide +kernel
theorem dL_law_933 : decode cL_law 933 = .ok (.iload_n 3, 1) := by decide +kernel
theorem dL_law_934 : decode cL_law 934 = .ok (.iconst 2, 1) := by decide +kernel
theorem dL_law_935 : decode cL_law 935 = .ok (.iadd, 1) := by decide +kernel
theorem dL_law_936 : decode cL_law 936 = .ok (.iaload, 1) := by decide +kernel
theorem dL_law_937 : decode cL_law 937 = .ok (.invokevirtual 113, 3) := by decide +kernel
theorem dL_law_940 : decode cL_law 940 = .ok (.aload_n 2, 1) := by decide +kernel
theorem dL_law_941 : decode cL_law 941 = .ok (.aload_n 0, 1) := by decide +kernel
theorem dL_law_942 : decode cL_law 942 = .ok (.iload_n 3, 1) := by decide +kernel
theorem dL_law_943 : decode cL_law 943 = .ok (.iconst 1, 1) := by decide +kernel
theorem dL_law_944 : decode cL_law 944 = .ok (.iadd, 1) := by decide +kernel
theorem dL_law_945 : decode cL_law 945 = .ok (.iaload, 1) := by decide +kernel
theorem dL_law_946 : decode cL_law 946 = .ok (.aload_n 0, 1) := by decide +kernel
theorem dL_law_947 : decode cL_law 947 = .ok (.iload_n 3, 1) := by decide +kernel
theorem dL_law_948 : decode cL_law 948 = .ok (.iconst 2, 1) := by decide +kernel
theorem dL_law_949 : decode cL_law 949 = .ok (.iadd, 1) := by decide +kernel
theorem dL_law_950 : decode cL_law 950 = .ok (.iaload, 1) := by decide +kernel
theorem dL_law_951 : decode cL_law 951 = .ok (.invokevirtual 116, 3) := by decide +kernel
theorem dL_law_954 : decode cL_law 954 = .ok (.lcmp, 1) := by decide +kernel
theorem dL_law_955 : decode cL_law 955 = .ok (.ifCond .eq 413, 3) := by decide +kernel
theorem dL_law_958 : decode cL_law 958 = .ok (.iconst 0, 1) := by decide +kernel
theorem dL_law_959 : decode cL_law 959 = .ok (.ireturn, 1) := by decide +kernel
theorem dL_law_960 : decode cL_law 960 = .ok (.aload_n 1, 1) := by decide +kernel
theorem dL_law_961 : decode cL_law 961 = .ok (.aload_n 0, 1) := by decide +kernel
theorem dL_law_962 : decode cL_law 962 = .ok (.iload_n 3, 1) := by decide +kernel
theorem dL_law_963 : decode cL_law 963 = .ok (.iconst 1, 1) := by decide +kernel
theorem dL_law_964 : decode cL_law 964 = .ok (.iadd, 1) := by decide +kernel
theorem dL_law_965 : decode cL_law 965 = .ok (.iaload, 1) := by decide +kernel
theorem dL_law_966 : decode cL_law 966 = .ok (.aload_n 0, 1) := by decide +kernel
theorem dL_law_967 : decode cL_law 967 = .ok (.iload_n 3, 1) := by decide +kernel
theorem dL_law_968 : decode cL_law 968 = .ok (.iconst 2, 1) := by decide +kernel
theorem dL_law_969 : decode cL_law 969 = .ok (.iadd, 1) := by decide +kernel
theorem dL_law_970 : decode cL_law 970 = .ok (.iaload, 1) := by decide +kernel
theorem dL_law_971 : decode cL_law 971 = .ok (.invokevirtual 117, 3) := by decide +kernel
theorem dL_law_974 : decode cL_law 974 = .ok (.aload_n 2, 1) := by decide +kernel
theorem dL_law_975 : decode cL_law 975 = .ok (.aload_n 0, 1) := by decide +kernel
theorem dL_law_976 : decode cL_law 976 = .ok (.iload_n 3, 1) := by decide +kernel
theorem dL_law_977 : decode cL_law 977 = .ok (.iconst 1, 1) := by decide +kernel
theorem dL_law_978 : decode cL_law 978 = .ok (.iadd, 1) := by decide +kernel
theorem dL_law_979 : decode cL_law 979 = .ok (.iaload, 1) := by decide +kernel
theorem dL_law_980 : decode cL_law 980 = .ok (.aload_n 0, 1) := by decide +kernel
theorem dL_law_981 : decode cL_law 981 = .ok (.iload_n 3, 1) := by decide +kernel
theorem dL_law_982 : decode cL_law 982 = .ok (.iconst 2, 1) := by decide +kernel
theorem dL_law_983 : decode cL_law 983 = .ok (.iadd, 1) := by decide +kernel
theorem dL_law_984 : decode cL_law 984 = .ok (.iaload, 1) := by decide +kernel
theorem dL_law_985 : decode cL_law 985 = .ok (.invokevirtual 120, 3) := by decide +kernel
theorem dL_law_988 : decode cL_law 988 = .ok (.if_icmp .eq 380, 3) := by decide +kernel
theorem dL_law_991 : decode cL_law 991 = .ok (.iconst 0, 1) := by decide +kernel
theorem dL_law_992 : decode cL_law 992 = .ok (.ireturn, 1) := by decide +kernel
theorem dL_law_993 : decode cL_law 993 = .ok (.aload_n 1, 1) := by decide +kernel
theorem dL_law_994 : decode cL_law 994 = .ok (.aload_n 0, 1) := by decide +kernel
theorem dL_law_995 : decode cL_law 995 = .ok (.iload_n 3, 1) := by decide +kernel
theorem dL_law_996 : decode cL_law 996 = .ok (.iconst 1, 1) := by decide +kernel
theorem dL_law_997 : decode cL_law 997 = .ok (.iadd, 1) := by decide +kernel
theorem dL_law_998 : decode cL_law 998 = .ok (.iaload, 1) := by decide +kernel
theorem dL_law_999 : decode cL_law 999 = .ok (.invokevirtual 121, 3) := by decide +kernel
theorem dL_law_1002 : decode cL_law 1002 = .ok (.aload_n 2, 1) := by decide +kernel
theorem dL_law_1003 : decode cL_law 1003 = .ok (.aload_n 0, 1) := by decide +kernel
theorem dL_law_1004 : decode cL_law 1004 = .ok (.iload_n 3, 1) := by decide +kernel
theorem dL_law_1005 : decode cL_law 1005 = .ok (.iconst 1, 1) := by decide +kernel
theorem dL_law_1006 : decode cL_law 1006 = .ok (.iadd, 1) := by decide +kernel
theorem dL_law_1007 : decode cL_law 1007 = .ok (.iaload, 1) := by decide +kernel
theorem dL_law_1008 : decode cL_law 1008 = .ok (.invokevirtual 125, 3) := by decide +kernel
theorem dL_law_1011 : decode cL_law 1011 = .ok (.lcmp, 1) := by decide +kernel
theorem dL_law_1012 : decode cL_law 1012 = .ok (.ifCond .eq 356, 3) := by decide +kernel
theorem dL_law_1015 : decode cL_law 1015 = .ok (.iconst 0, 1) := by decide +kernel
theorem dL_law_1016 : decode cL_law 1016 = .ok (.ireturn, 1) := by decide +kernel
theorem dL_law_1017 : decode cL_law 1017 = .ok (.aload_n 1, 1) := by decide +kernel
theorem dL_law_1018 : decode cL_law 1018 = .ok (.aload_n 0, 1) := by decide +kernel
theorem dL_law_1019 : decode cL_law 1019 = .ok (.iload_n 3, 1) := by decide +kernel
theorem dL_law_1020 : decode cL_law 1020 = .ok (.iconst 1, 1) := by decide +kernel
theorem dL_law_1021 : decode cL_law 1021 = .ok (.iadd, 1) := by decide +kernel
theorem dL_law_1022 : decode cL_law 1022 = .ok (.iaload, 1) := by decide +kernel
theorem dL_law_1023 : decode cL_law 1023 = .ok (.aload_n 0, 1) := by decide +kernel
theorem dL_law_1024 : decode cL_law 1024 = .ok (.iload_n 3, 1) := by decide +kernel
theorem dL_law_1025 : decode cL_law 1025 = .ok (.iconst 2, 1) := by decide +kernel
theorem dL_law_1026 : decode cL_law 1026 = .ok (.iadd, 1) := by decide +kernel
theorem dL_law_1027 : decode cL_law 1027 = .ok (.iaload, 1) := by decide +kernel
theorem dL_law_1028 : decode cL_law 1028 = .ok (.aload_n 0, 1) := by decide +kernel
theorem dL_law_1029 : decode cL_law 1029 = .ok (.iload_n 3, 1) := by decide +kernel
theorem dL_law_1030 : decode cL_law 1030 = .ok (.iconst 3, 1) := by decide +kernel
theorem dL_law_1031 : decode cL_law 1031 = .ok (.iadd, 1) := by decide +kernel
theorem dL_law_1032 : decode cL_law 1032 = .ok (.iaload, 1) := by decide +kernel
theorem dL_law_1033 : decode cL_law 1033 = .ok (.invokevirtual 126, 3) := by decide +kernel
theorem dL_law_1036 : decode cL_law 1036 = .ok (.aload_n 2, 1) := by decide +kernel
theorem dL_law_1037 : decode cL_law 1037 = .ok (.aload_n 0, 1) := by decide +kernel
theorem dL_law_1038 : decode cL_law 1038 = .ok (.iload_n 3, 1) := by decide +kernel
theorem dL_law_1039 : decode cL_law 1039 = .ok (.iconst 1, 1) := by decide +kernel
theorem dL_law_1040 : decode cL_law 1040 = .ok (.iadd, 1) := by decide +kernel
theorem dL_law_1041 : decode cL_law 1041 = .ok (.iaload, 1) := by decide +kernel
theorem dL_law_1042 : decode cL_law 1042 = .ok (.aload_n 0, 1) := by decide +kernel
theorem dL_law_1043 : decode cL_law 1043 = .ok (.iload_n 3, 1) := by decide +kernel
theorem dL_law_1044 : decode cL_law 1044 = .ok (.iconst 2, 1) := by decide +kernel
theorem dL_law_1045 : decode cL_law 1045 = .ok (.iadd, 1) := by decide +kernel
theorem dL_law_1046 : decode cL_law 1046 = .ok (.iaload, 1) := by decide +kernel
theorem dL_law_1047 : decode cL_law 1047 = .ok (.aload_n 0, 1) := by decide +kernel
theorem dL_law_1048 : decode cL_law 1048 = .ok (.iload_n 3, 1) := by decide +kernel
theorem dL_law_1049 : decode cL_law 1049 = .ok (.iconst 3, 1) := by decide +kernel
theorem dL_law_1050 : decode cL_law 1050 = .ok (.iadd, 1) := by decide +kernel
theorem dL_law_1051 : decode cL_law 1051 = .ok (.iaload, 1) := by decide +kernel
theorem dL_law_1052 : decode cL_law 1052 = .ok (.invokevirtual 129, 3) := by decide +kernel
theorem dL_law_1055 : decode cL_law 1055 = .ok (.if_icmp .eq 313, 3) := by decide +kernel
theorem dL_law_1058 : decode cL_law 1058 = .ok (.iconst 0, 1) := by decide +kernel
theorem dL_law_1059 : decode cL_law 1059 = .ok (.ireturn, 1) := by decide +kernel
theorem dL_law_1060 : decode cL_law 1060 = .ok (.aload_n 1, 1) := by decide +kernel
theorem dL_law_1061 : decode cL_law 1061 = .ok (.invokevirtual 130, 3) := by decide +kernel
theorem dL_law_1064 : decode cL_law 1064 = .ok (.aload_n 2, 1) := by decide +kernel
theorem dL_law_1065 : decode cL_law 1065 = .ok (.invokevirtual 133, 3) := by decide +kernel
theorem dL_law_1068 : decode cL_law 1068 = .ok (.if_icmp .eq 300, 3) := by decide +kernel
theorem dL_law_1071 : decode cL_law 1071 = .ok (.iconst 0, 1) := by decide +kernel
theorem dL_law_1072 : decode cL_law 1072 = .ok (.ireturn, 1) := by decide +kernel
theorem dL_law_1073 : decode cL_law 1073 = .ok (.aload_n 1, 1) := by decide +kernel
theorem dL_law_1074 : decode cL_law 1074 = .ok (.aload_n 0, 1) := by decide +kernel
theorem dL_law_1075 : decode cL_law 1075 = .ok (.iload_n 3, 1) := by decide +kernel
theorem dL_law_1076 : decode cL_law 1076 = .ok (.iconst 1, 1) := by decide +kernel
theorem dL_law_1077 : decode cL_law 1077 = .ok (.iadd, 1) := by decide +kernel
theorem dL_law_1078 : decode cL_law 1078 = .ok (.iaload, 1) := by decide +kernel
theorem dL_law_1079 : decode cL_law 1079 = .ok (.aload_n 0, 1) := by decide +kernel
theorem dL_law_1080 : decode cL_law 1080 = .ok (.iload_n 3, 1) := by decide +kernel
theorem dL_law_1081 : decode cL_law 1081 = .ok (.iconst 2, 1) := by decide +kernel
theorem dL_law_1082 : decode cL_law 1082 = .ok (.iadd, 1) := by decide +kernel
theorem dL_law_1083 : decode cL_law 1083 = .ok (.iaload, 1) := by decide +kernel
theorem dL_law_1084 : decode cL_law 1084 = .ok (.invokevirtual 134, 3) := by decide +kernel
theorem dL_law_1087 : decode cL_law 1087 = .ok (.aload_n 2, 1) := by decide +kernel
theorem dL_law_1088 : decode cL_law 1088 = .ok (.aload_n 0, 1) := by decide +kernel
theorem dL_law_1089 : decode cL_law 1089 = .ok (.iload_n 3, 1) := by decide +kernel
theorem dL_law_1090 : decode cL_law 1090 = .ok (.iconst 1, 1) := by decide +kernel
theorem dL_law_1091 : decode cL_law 1091 = .ok (.iadd, 1) := by decide +kernel
theorem dL_law_1092 : decode cL_law 1092 = .ok (.iaload, 1) := by decide +kernel
theorem dL_law_1093 : decode cL_law 1093 = .ok (.aload_n 0, 1) := by decide +kernel
theorem dL_law_1094 : decode cL_law 1094 = .ok (.iload_n 3, 1) := by decide +kernel
theorem dL_law_1095 : decode cL_law 1095 = .ok (.iconst 2, 1) := by decide +kernel
theorem dL_law_1096 : decode cL_law 1096 = .ok (.iadd, 1) := by decide +kernel
theorem dL_law_1097 : decode cL_law 1097 = .ok (.iaload, 1) := by decide +kernel
theorem dL_law_1098 : decode cL_law 1098 = .ok (.invokevirtual 137, 3) := by decide +kernel
theorem dL_law_1101 : decode cL_law 1101 = .ok (.if_icmp .eq 267, 3) := by decide +kernel
theorem dL_law_1104 : decode cL_law 1104 = .ok (.iconst 0, 1) := by decide +kernel
theorem dL_law_1105 : decode cL_law 1105 = .ok (.ireturn, 1) := by decide +kernel
theorem dL_law_1106 : decode cL_law 1106 = .ok (.aload_n 1, 1) := by decide +kernel
theorem dL_law_1107 : decode cL_law 1107 = .ok (.invokevirtual 138, 3) := by decide +kernel
theorem dL_law_1110 : decode cL_law 1110 = .ok (.aload_n 2, 1) := by decide +kernel
theorem dL_law_1111 : decode cL_law 1111 = .ok (.invokevirtual 141, 3) := by decide +kernel
theorem dL_law_1114 : decode cL_law 1114 = .ok (.if_icmp .eq 254, 3) := by decide +kernel
theorem dL_law_1117 : decode cL_law 1117 = .ok (.iconst 0, 1) := by decide +kernel
theorem dL_law_1118 : decode cL_law 1118 = .ok (.ireturn, 1) := by decide +kernel
theorem dL_law_1119 : decode cL_law 1119 = .ok (.aload_n 1, 1) := by decide +kernel
theorem dL_law_1120 : decode cL_law 1120 = .ok (.invokevirtual 142, 3) := by decide +kernel
theorem dL_law_1123 : decode cL_law 1123 = .ok (.aload_n 2, 1) := by decide +kernel
theorem dL_law_1124 : decode cL_law 1124 = .ok (.invokevirtual 145, 3) := by decide +kernel
theorem dL_law_1127 : decode cL_law 1127 = .ok (.if_icmp .eq 241, 3) := by decide +kernel
theorem dL_law_1130 : decode cL_law 1130 = .ok (.iconst 0, 1) := by decide +kernel
theorem dL_law_1131 : decode cL_law 1131 = .ok (.ireturn, 1) := by decide +kernel
theorem dL_law_1132 : decode cL_law 1132 = .ok (.aload_n 1, 1) := by decide +kernel
theorem dL_law_1133 : decode cL_law 1133 = .ok (.aload_n 0, 1) := by decide +kernel
theorem dL_law_1134 : decode cL_law 1134 = .ok (.iload_n 3, 1) := by decide +kernel
theorem dL_law_1135 : decode cL_law 1135 = .ok (.iconst 1, 1) := by decide +kernel
theorem dL_law_1136 : decode cL_law 1136 = .ok (.iadd, 1) := by decide +kernel
theorem dL_law_1137 : decode cL_law 1137 = .ok (.iaload, 1) := by decide +kernel
theorem dL_law_1138 : decode cL_law 1138 = .ok (.invokevirtual 146, 3) := by decide +kernel
theorem dL_law_1141 : decode cL_law 1141 = .ok (.aload_n 2, 1) := by decide +kernel
theorem dL_law_1142 : decode cL_law 1142 = .ok (.aload_n 0, 1) := by decide +kernel
theorem dL_law_1143 : decode cL_law 1143 = .ok (.iload_n 3, 1) := by decide +kernel
theorem dL_law_1144 : decode cL_law 1144 = .ok (.iconst 1, 1) := by decide +kernel
theorem dL_law_1145 : decode cL_law 1145 = .ok (.iadd, 1) := by decide +kernel
theorem dL_law_1146 : decode cL_law 1146 = .ok (.iaload, 1) := by decide +kernel
theorem dL_law_1147 : decode cL_law 1147 = .ok (.invokevirtual 149, 3) := by decide +kernel
theorem dL_law_1150 : decode cL_law 1150 = .ok (.if_icmp .eq 218, 3) := by decide +kernel
theorem dL_law_1153 : decode cL_law 1153 = .ok (.iconst 0, 1) := by decide +kernel
theorem dL_law_1154 : decode cL_law 1154 = .ok (.ireturn, 1) := by decide +kernel
theorem dL_law_1155 : decode cL_law 1155 = .ok (.aload_n 1, 1) := by decide +kernel
theorem dL_law_1156 : decode cL_law 1156 = .ok (.aload_n 0, 1) := by decide +kernel
theorem dL_law_1157 : decode cL_law 1157 = .ok (.iload_n 3, 1) := by decide +kernel
theorem dL_law_1158 : decode cL_law 1158 = .ok (.iconst 1, 1) := by decide +kernel
theorem dL_law_1159 : decode cL_law 1159 = .ok (.iadd, 1) := by decide +kernel
theorem dL_law_1160 : decode cL_law 1160 = .ok (.iaload, 1) := by decide +kernel
theorem dL_law_1161 : decode cL_law 1161 = .ok (.aload_n 0, 1) := by decide +kernel
theorem dL_law_1162 : decode cL_law 1162 = .ok (.iload_n 3, 1) := by decide +kernel
theorem dL_law_1163 : decode cL_law 1163 = .ok (.iconst 2, 1) := by decide +kernel
theorem dL_law_1164 : decode cL_law 1164 = .ok (.iadd, 1) := by decide +kernel
theorem dL_law_1165 : decode cL_law 1165 = .ok (.iaload, 1) := by decide +kernel
theorem dL_law_1166 : decode cL_law 1166 = .ok (.aload_n 0, 1) := by decide +kernel
theorem dL_law_1167 : decode cL_law 1167 = .ok (.iload_n 3, 1) := by decide +kernel
theorem dL_law_1168 : decode cL_law 1168 = .ok (.iconst 3, 1) := by decide +kernel
theorem dL_law_1169 : decode cL_law 1169 = .ok (.iadd, 1) := by decide +kernel
theorem dL_law_1170 : decode cL_law 1170 = .ok (.iaload, 1) := by decide +kernel
theorem dL_law_1171 : decode cL_law 1171 = .ok (.invokevirtual 150, 3) := by decide +kernel
theorem dL_law_1174 : decode cL_law 1174 = .ok (.aload_n 2, 1) := by decide +kernel
theorem dL_law_1175 : decode cL_law 1175 = .ok (.aload_n 0, 1) := by decide +kernel
theorem dL_law_1176 : decode cL_law 1176 = .ok (.iload_n 3, 1) := by decide +kernel
theorem dL_law_1177 : decode cL_law 1177 = .ok (.iconst 1, 1) := by decide +kernel
theorem dL_law_1178 : decode cL_law 1178 = .ok (.iadd, 1) := by decide +kernel
theorem dL_law_1179 : decode cL_law 1179 = .ok (.iaload, 1) := by decide +kernel
theorem dL_law_1180 : decode cL_law 1180 = .ok (.aload_n 0, 1) := by decide +kernel
theorem dL_law_1181 : decode cL_law 1181 = .ok (.iload_n 3, 1) := by decide +kernel
theorem dL_law_1182 : decode cL_law 1182 = .ok (.iconst 2, 1) := by decide +kernel
theorem dL_law_1183 : decode cL_law 1183 = .ok (.iadd, 1) := by decide +kernel
theorem dL_law_1184 : decode cL_law 1184 = .ok (.iaload, 1) := by decide +kernel
theorem dL_law_1185 : decode cL_law 1185 = .ok (.aload_n 0, 1) := by decide +kernel
theorem dL_law_1186 : decode cL_law 1186 = .ok (.iload_n 3, 1) := by decide +kernel
theorem dL_law_1187 : decode cL_law 1187 = .ok (.iconst 3, 1) := by decide +kernel
theorem dL_law_1188 : decode cL_law 1188 = .ok (.iadd, 1) := by decide +kernel
theorem dL_law_1189 : decode cL_law 1189 = .ok (.iaload, 1) := by decide +kernel
theorem dL_law_1190 : decode cL_law 1190 = .ok (.invokevirtual 153, 3) := by decide +kernel
theorem dL_law_1193 : decode cL_law 1193 = .ok (.if_icmp .eq 175, 3) := by decide +kernel
theorem dL_law_1196 : decode cL_law 1196 = .ok (.iconst 0, 1) := by decide +kernel
theorem dL_law_1197 : decode cL_law 1197 = .ok (.ireturn, 1) := by decide +kernel
theorem dL_law_1198 : decode cL_law 1198 = .ok (.aload_n 1, 1) := by decide +kernel
theorem dL_law_1199 : decode cL_law 1199 = .ok (.aload_n 0, 1) := by decide +kernel
theorem dL_law_1200 : decode cL_law 1200 = .ok (.iload_n 3, 1) := by decide +kernel
theorem dL_law_1201 : decode cL_law 1201 = .ok (.iconst 1, 1) := by decide +kernel
theorem dL_law_1202 : decode cL_law 1202 = .ok (.iadd, 1) := by decide +kernel
theorem dL_law_1203 : decode cL_law 1203 = .ok (.iaload, 1) := by decide +kernel
theorem dL_law_1204 : decode cL_law 1204 = .ok (.aload_n 0, 1) := by decide +kernel
theorem dL_law_1205 : decode cL_law 1205 = .ok (.iload_n 3, 1) := by decide +kernel
theorem dL_law_1206 : decode cL_law 1206 = .ok (.iconst 2, 1) := by decide +kernel
theorem dL_law_1207 : decode cL_law 1207 = .ok (.iadd, 1) := by decide +kernel
theorem dL_law_1208 : decode cL_law 1208 = .ok (.iaload, 1) := by decide +kernel
theorem dL_law_1209 : decode cL_law 1209 = .ok (.aload_n 0, 1) := by decide +kernel
theorem dL_law_1210 : decode cL_law 1210 = .ok (.iload_n 3, 1) := by decide +kernel
theorem dL_law_1211 : decode cL_law 1211 = .ok (.iconst 3, 1) := by decide +kernel
theorem dL_law_1212 : decode cL_law 1212 = .ok (.iadd, 1) := by decide +kernel
theorem dL_law_1213 : decode cL_law 1213 = .ok (.iaload, 1) := by decide +kernel
theorem dL_law_1214 : decode cL_law 1214 = .ok (.i2l, 1) := by decide +kernel
theorem dL_law_1215 : decode cL_law 1215 = .ok (.bipush 32, 2) := by decide +kernel
theorem dL_law_1217 : decode cL_law 1217 = .ok (.lshl, 1) := by decide +kernel
theorem dL_law_1218 : decode cL_law 1218 = .ok (.aload_n 0, 1) := by decide +kernel
theorem dL_law_1219 : decode cL_law 1219 = .ok (.iload_n 3, 1) := by decide +kernel
theorem dL_law_1220 : decode cL_law 1220 = .ok (.iconst 4, 1) := by decide +kernel
theorem dL_law_1221 : decode cL_law 1221 = .ok (.iadd, 1) := by decide +kernel
theorem dL_law_1222 : decode cL_law 1222 = .ok (.iaload, 1) := by decide +kernel
theorem dL_law_1223 : decode cL_law 1223 = .ok (.i2l, 1) := by decide +kernel
theorem dL_law_1224 : decode cL_law 1224 = .ok (.ldc2_w 154, 3) := by decide +kernel
theorem dL_law_1227 : decode cL_law 1227 = .ok (.land, 1) := by decide +kernel
theorem dL_law_1228 : decode cL_law 1228 = .ok (.lor, 1) := by decide +kernel
theorem dL_law_1229 : decode cL_law 1229 = .ok (.invokevirtual 156, 3) := by decide +kernel
theorem dL_law_1232 : decode cL_law 1232 = .ok (.aload_n 2, 1) := by decide +kernel
theorem dL_law_1233 : decode cL_law 1233 = .ok (.aload_n 0, 1) := by decide +kernel
theorem dL_law_1234 : decode cL_law 1234 = .ok (.iload_n 3, 1) := by decide +kernel
theorem dL_law_1235 : decode cL_law 1235 = .ok (.iconst 1, 1) := by decide +kernel
theorem dL_law_1236 : decode cL_law 1236 = .ok (.iadd, 1) := by decide +kernel
theorem dL_law_1237 : decode cL_law 1237 = .ok (.iaload, 1) := by decide +kernel
theorem dL_law_1238 : decode cL_law 1238 = .ok (.aload_n 0, 1) := by decide +kernel
theorem dL_law_1239 : decode cL_law 1239 = .ok (.iload_n 3, 1) := by decide +kernel
theorem dL_law_1240 : decode cL_law 1240 = .ok (.iconst 2, 1) := by decide +kernel
theorem dL_law_1241 : decode cL_law 1241 = .ok (.iadd, 1) := by decide +kernel
theorem dL_law_1242 : decode cL_law 1242 = .ok (.iaload, 1) := by decide +kernel
theorem dL_law_1243 : decode cL_law 1243 = .ok (.aload_n 0, 1) := by decide +kernel
theorem dL_law_1244 : decode cL_law 1244 = .ok (.iload_n 3, 1) := by decide +kernel
theorem dL_law_1245 : decode cL_law 1245 = .ok (.iconst 3, 1) := by decide +kernel
theorem dL_law_1246 : decode cL_law 1246 = .ok (.iadd, 1) := by decide +kernel
theorem dL_law_1247 : decode cL_law 1247 = .ok (.iaload, 1) := by decide +kernel
theorem dL_law_1248 : decode cL_law 1248 = .ok (.i2l, 1) := by decide +kernel
theorem dL_law_1249 : decode cL_law 1249 = .ok (.bipush 32, 2) := by decide +kernel
theorem dL_law_1251 : decode cL_law 1251 = .ok (.lshl, 1) := by decide +kernel
theorem dL_law_1252 : decode cL_law 1252 = .ok (.aload_n 0, 1) := by decide +kernel
theorem dL_law_1253 : decode cL_law 1253 = .ok (.iload_n 3, 1) := by decide +kernel
theorem dL_law_1254 : decode cL_law 1254 = .ok (.iconst 4, 1) := by decide +kernel
theorem dL_law_1255 : decode cL_law 1255 = .ok (.iadd, 1) := by decide +kernel
theorem dL_law_1256 : decode cL_law 1256 = .ok (.iaload, 1) := by decide +kernel
theorem dL_law_1257 : decode cL_law 1257 = .ok (.i2l, 1) := by decide +kernel
theorem dL_law_1258 : decode cL_law 1258 = .ok (.ldc2_w 154, 3) := by decide +kernel
theorem dL_law_1261 : decode cL_law 1261 = .ok (.land, 1) := by decide +kernel
theorem dL_law_1262 : decode cL_law 1262 = .ok (.lor, 1) := by decide +kernel
theorem dL_law_1263 : decode cL_law 1263 = .ok (.invokevirtual 160, 3) := by decide +kernel
theorem dL_law_1266 : decode cL_law 1266 = .ok (.if_icmp .eq 102, 3) := by decide +kernel
theorem dL_law_1269 : decode cL_law 1269 = .ok (.iconst 0, 1) := by decide +kernel
theorem dL_law_1270 : decode cL_law 1270 = .ok (.ireturn, 1) := by decide +kernel
theorem dL_law_1271 : decode cL_law 1271 = .ok (.aload_n 1, 1) := by decide +kernel
theorem dL_law_1272 : decode cL_law 1272 = .ok (.aload_n 0, 1) := by decide +kernel
theorem dL_law_1273 : decode cL_law 1273 = .ok (.iload_n 3, 1) := by decide +kernel
theorem dL_law_1274 : decode cL_law 1274 = .ok (.iconst 1, 1) := by decide +kernel
theorem dL_law_1275 : decode cL_law 1275 = .ok (.iadd, 1) := by decide +kernel
theorem dL_law_1276 : decode cL_law 1276 = .ok (.iaload, 1) := by decide +kernel
theorem dL_law_1277 : decode cL_law 1277 = .ok (.aload_n 0, 1) := by decide +kernel
theorem dL_law_1278 : decode cL_law 1278 = .ok (.iload_n 3, 1) := by decide +kernel
theorem dL_law_1279 : decode cL_law 1279 = .ok (.iconst 2, 1) := by decide +kernel
theorem dL_law_1280 : decode cL_law 1280 = .ok (.iadd, 1) := by decide +kernel
theorem dL_law_1281 : decode cL_law 1281 = .ok (.iaload, 1) := by decide +kernel
theorem dL_law_1282 : decode cL_law 1282 = .ok (.invokevirtual 161, 3) := by decide +kernel
theorem dL_law_1285 : decode cL_law 1285 = .ok (.aload_n 2, 1) := by decide +kernel
theorem dL_law_1286 : decode cL_law 1286 = .ok (.aload_n 0, 1) := by decide +kernel
theorem dL_law_1287 : decode cL_law 1287 = .ok (.iload_n 3, 1) := by decide +kernel
theorem dL_law_1288 : decode cL_law 1288 = .ok (.iconst 1, 1) := by decide +kernel
theorem dL_law_1289 : decode cL_law 1289 = .ok (.iadd, 1) := by decide +kernel
theorem dL_law_1290 : decode cL_law 1290 = .ok (.iaload, 1) := by decide +kernel
theorem dL_law_1291 : decode cL_law 1291 = .ok (.aload_n 0, 1) := by decide +kernel
theorem dL_law_1292 : decode cL_law 1292 = .ok (.iload_n 3, 1) := by decide +kernel
theorem dL_law_1293 : decode cL_law 1293 = .ok (.iconst 2, 1) := by decide +kernel
theorem dL_law_1294 : decode cL_law 1294 = .ok (.iadd, 1) := by decide +kernel
theorem dL_law_1295 : decode cL_law 1295 = .ok (.iaload, 1) := by decide +kernel
theorem dL_law_1296 : decode cL_law 1296 = .ok (.invokevirtual 164, 3) := by decide +kernel
theorem dL_law_1299 : decode cL_law 1299 = .ok (.lcmp, 1) := by decide +kernel
theorem dL_law_1300 : decode cL_law 1300 = .ok (.ifCond .eq 68, 3) := by decide +kernel
theorem dL_law_1303 : decode cL_law 1303 = .ok (.iconst 0, 1) := by decide +kernel
theorem dL_law_1304 : decode cL_law 1304 = .ok (.ireturn, 1) := by decide +kernel
theorem dL_law_1305 : decode cL_law 1305 = .ok (.aload_n 1, 1) := by decide +kernel
theorem dL_law_1306 : decode cL_law 1306 = .ok (.aload_n 0, 1) := by decide +kernel
theorem dL_law_1307 : decode cL_law 1307 = .ok (.iload_n 3, 1) := by decide +kernel
theorem dL_law_1308 : decode cL_law 1308 = .ok (.iconst 1, 1) := by decide +kernel
theorem dL_law_1309 : decode cL_law 1309 = .ok (.iadd, 1) := by decide +kernel
theorem dL_law_1310 : decode cL_law 1310 = .ok (.iaload, 1) := by decide +kernel
theorem dL_law_1311 : decode cL_law 1311 = .ok (.aload_n 0, 1) := by decide +kernel
theorem dL_law_1312 : decode cL_law 1312 = .ok (.iload_n 3, 1) := by decide +kernel
theorem dL_law_1313 : decode cL_law 1313 = .ok (.iconst 2, 1) := by decide +kernel
theorem dL_law_1314 : decode cL_law 1314 = .ok (.iadd, 1) := by decide +kernel
theorem dL_law_1315 : decode cL_law 1315 = .ok (.iaload, 1) := by decide +kernel
theorem dL_law_1316 : decode cL_law 1316 = .ok (.aload_n 0, 1) := by decide +kernel
theorem dL_law_1317 : decode cL_law 1317 = .ok (.iload_n 3, 1) := by decide +kernel
theorem dL_law_1318 : decode cL_law 1318 = .ok (.iconst 3, 1) := by decide +kernel
theorem dL_law_1319 : decode cL_law 1319 = .ok (.iadd, 1) := by decide +kernel
theorem dL_law_1320 : decode cL_law 1320 = .ok (.iaload, 1) := by decide +kernel
theorem dL_law_1321 : decode cL_law 1321 = .ok (.aload_n 0, 1) := by decide +kernel
theorem dL_law_1322 : decode cL_law 1322 = .ok (.iload_n 3, 1) := by decide +kernel
theorem dL_law_1323 : decode cL_law 1323 = .ok (.iconst 4, 1) := by decide +kernel
theorem dL_law_1324 : decode cL_law 1324 = .ok (.iadd, 1) := by decide +kernel
theorem dL_law_1325 : decode cL_law 1325 = .ok (.iaload, 1) := by decide +kernel
theorem dL_law_1326 : decode cL_law 1326 = .ok (.aload_n 0, 1) := by decide +kernel
theorem dL_law_1327 : decode cL_law 1327 = .ok (.iload_n 3, 1) := by decide +kernel
theorem dL_law_1328 : decode cL_law 1328 = .ok (.iconst 5, 1) := by decide +kernel
theorem dL_law_1329 : decode cL_law 1329 = .ok (.iadd, 1) := by decide +kernel
theorem dL_law_1330 : decode cL_law 1330 = .ok (.iaload, 1) := by decide +kernel
theorem dL_law_1331 : decode cL_law 1331 = .ok (.invokevirtual 165, 3) := by decide +kernel
theorem dL_law_1334 : decode cL_law 1334 = .ok (.aload_n 2, 1) := by decide +kernel
theorem dL_law_1335 : decode cL_law 1335 = .ok (.aload_n 0, 1) := by decide +kernel
theorem dL_law_1336 : decode cL_law 1336 = .ok (.iload_n 3, 1) := by decide +kernel
theorem dL_law_1337 : decode cL_law 1337 = .ok (.iconst 1, 1) := by decide +kernel
theorem dL_law_1338 : decode cL_law 1338 = .ok (.iadd, 1) := by decide +kernel
theorem dL_law_1339 : decode cL_law 1339 = .ok (.iaload, 1) := by decide +kernel
theorem dL_law_1340 : decode cL_law 1340 = .ok (.aload_n 0, 1) := by decide +kernel
theorem dL_law_1341 : decode cL_law 1341 = .ok (.iload_n 3, 1) := by decide +kernel
theorem dL_law_1342 : decode cL_law 1342 = .ok (.iconst 2, 1) := by decide +kernel
theorem dL_law_1343 : decode cL_law 1343 = .ok (.iadd, 1) := by decide +kernel
theorem dL_law_1344 : decode cL_law 1344 = .ok (.iaload, 1) := by decide +kernel
theorem dL_law_1345 : decode cL_law 1345 = .ok (.aload_n 0, 1) := by decide +kernel
theorem dL_law_1346 : decode cL_law 1346 = .ok (.iload_n 3, 1) := by decide +kernel
theorem dL_law_1347 : decode cL_law 1347 = .ok (.iconst 3, 1) := by decide +kernel
theorem dL_law_1348 : decode cL_law 1348 = .ok (.iadd, 1) := by decide +kernel
theorem dL_law_1349 : decode cL_law 1349 = .ok (.iaload, 1) := by decide +kernel
theorem dL_law_1350 : decode cL_law 1350 = .ok (.aload_n 0, 1) := by decide +kernel
theorem dL_law_1351 : decode cL_law 1351 = .ok (.iload_n 3, 1) := by decide +kernel
theorem dL_law_1352 : decode cL_law 1352 = .ok (.iconst 4, 1) := by decide +kernel
theorem dL_law_1353 : decode cL_law 1353 = .ok (.iadd, 1) := by decide +kernel
theorem dL_law_1354 : decode cL_law 1354 = .ok (.iaload, 1) := by decide +kernel
theorem dL_law_1355 : decode cL_law 1355 = .ok (.aload_n 0, 1) := by decide +kernel
theorem dL_law_1356 : decode cL_law 1356 = .ok (.iload_n 3, 1) := by decide +kernel
theorem dL_law_1357 : decode cL_law 1357 = .ok (.iconst 5, 1) := by decide +kernel
theorem dL_law_1358 : decode cL_law 1358 = .ok (.iadd, 1) := by decide +kernel
theorem dL_law_1359 : decode cL_law 1359 = .ok (.iaload, 1) := by decide +kernel
theorem dL_law_1360 : decode cL_law 1360 = .ok (.invokevirtual 169, 3) := by decide +kernel
theorem dL_law_1363 : decode cL_law 1363 = .ok (.if_icmp .eq 5, 3) := by decide +kernel
theorem dL_law_1366 : decode cL_law 1366 = .ok (.iconst 0, 1) := by decide +kernel
theorem dL_law_1367 : decode cL_law 1367 = .ok (.ireturn, 1) := by decide +kernel
theorem dL_law_1368 : decode cL_law 1368 = .ok (.iinc 3 6, 3) := by decide +kernel
theorem dL_law_1371 : decode cL_law 1371 = .ok (.goto (-1353), 3) := by decide +kernel
theorem dL_law_1374 : decode cL_law 1374 = .ok (.iconst 1, 1) := by decide +kernel
theorem dL_law_1375 : decode cL_law 1375 = .ok (.ireturn, 1) := by decide +kernel
