theorem dX11_thrown_0 : decode cX11_thrown 0 = .ok (.aload_n 0, 1) := by decide +kernel
theorem dX11_thrown_1 : decode cX11_thrown 1 = .ok (.getfield 129, 3) := by decide +kernel
theorem dX11_thrown_4 : decode cX11_thrown 4 = .ok (.ireturn, 1) := by decide +kernel
theorem dX11_feed_0 : decode cX11_feed 0 = .ok (.aload_n 0, 1) := by decide +kernel
theorem dX11_feed_1 : decode cX11_feed 1 = .ok (.iconst 0, 1) := by decide +kernel
theorem dX11_feed_2 : decode cX11_feed 2 = .ok (.putfield 129, 3) := by decide +kernel
theorem dX11_feed_5 : decode cX11_feed 5 = .ok (.aload_n 0, 1) := by decide +kernel
theorem dX11_feed_6 : decode cX11_feed 6 = .ok (.getfield 132, 3) := by decide +kernel
theorem dX11_feed_9 : decode cX11_feed 9 = .ok (.bipush 20, 2) := by decide +kernel
theorem dX11_feed_11 : decode cX11_feed 11 = .ok (.iadd, 1) := by decide +kernel
theorem dX11_feed_12 : decode cX11_feed 12 = .ok (.sipush 500, 3) := by decide +kernel
theorem dX11_feed_15 : decode cX11_feed 15 = .ok (.if_icmp .le 5, 3) := by decide +kernel
theorem dX11_feed_18 : decode cX11_feed 18 = .ok (.iconst (-1), 1) := by decide +kernel
theorem dX11_feed_19 : decode cX11_feed 19 = .ok (.ireturn, 1) := by decide +kernel
theorem dX11_feed_20 : decode cX11_feed 20 = .ok (.iconst 0, 1) := by decide +kernel
theorem dX11_feed_21 : decode cX11_feed 21 = .ok (.istore 6, 2) := by decide +kernel
theorem dX11_feed_23 : decode cX11_feed 23 = .ok (.iload 6, 2) := by decide +kernel
theorem dX11_feed_25 : decode cX11_feed 25 = .ok (.bipush 20, 2) := by decide +kernel
theorem dX11_feed_27 : decode cX11_feed 27 = .ok (.if_icmp .ge 86, 3) := by decide +kernel
theorem dX11_feed_30 : decode cX11_feed 30 = .ok (.iload 6, 2) := by decide +kernel
theorem dX11_feed_32 : decode cX11_feed 32 = .ok (.iconst 4, 1) := by decide +kernel
theorem dX11_feed_33 : decode cX11_feed 33 = .ok (.if_icmp .ge 7, 3) := by decide +kernel
theorem dX11_feed_36 : decode cX11_feed 36 = .ok (.iload_n 1, 1) := by decide +kernel
theorem dX11_feed_37 : decode cX11_feed 37 = .ok (.goto 39, 3) := by decide +kernel
theorem dX11_feed_40 : decode cX11_feed 40 = .ok (.iload 6, 2) := by decide +kernel
theorem dX11_feed_42 : decode cX11_feed 42 = .ok (.bipush 8, 2) := by decide +kernel
theorem dX11_feed_44 : decode cX11_feed 44 = .ok (.if_icmp .ge 7, 3) := by decide +kernel
theorem dX11_feed_47 : decode cX11_feed 47 = .ok (.iload_n 2, 1) := by decide +kernel
theorem dX11_feed_48 : decode cX11_feed 48 = .ok (.goto 28, 3) := by decide +kernel
theorem dX11_feed_51 : decode cX11_feed 51 = .ok (.iload 6, 2) := by decide +kernel
theorem dX11_feed_53 : decode cX11_feed 53 = .ok (.bipush 12, 2) := by decide +kernel
theorem dX11_feed_55 : decode cX11_feed 55 = .ok (.if_icmp .ge 7, 3) := by decide +kernel
theorem dX11_feed_58 : decode cX11_feed 58 = .ok (.iload_n 3, 1) := by decide +kernel
theorem dX11_feed_59 : decode cX11_feed 59 = .ok (.goto 17, 3) := by decide +kernel
theorem dX11_feed_62 : decode cX11_feed 62 = .ok (.iload 6, 2) := by decide +kernel
theorem dX11_feed_64 : decode cX11_feed 64 = .ok (.bipush 16, 2) := by decide +kernel
theorem dX11_feed_66 : decode cX11_feed 66 = .ok (.if_icmp .ge 8, 3) := by decide +kernel
theorem dX11_feed_69 : decode cX11_feed 69 = .ok (.iload 4, 2) := by decide +kernel
theorem dX11_feed_71 : decode cX11_feed 71 = .ok (.goto 5, 3) := by decide +kernel
theorem dX11_feed_74 : decode cX11_feed 74 = .ok (.iload 5, 2) := by decide +kernel
theorem dX11_feed_76 : decode cX11_feed 76 = .ok (.istore 7, 2) := by decide +kernel
theorem dX11_feed_78 : decode cX11_feed 78 = .ok (.aload_n 0, 1) := by decide +kernel
theorem dX11_feed_79 : decode cX11_feed 79 = .ok (.getfield 7, 3) := by decide +kernel
theorem dX11_feed_82 : decode cX11_feed 82 = .ok (.aload_n 0, 1) := by decide +kernel
theorem dX11_feed_83 : decode cX11_feed 83 = .ok (.getfield 132, 3) := by decide +kernel
theorem dX11_feed_86 : decode cX11_feed 86 = .ok (.iload 6, 2) := by decide +kernel
theorem dX11_feed_88 : decode cX11_feed 88 = .ok (.iadd, 1) := by decide +kernel
theorem dX11_feed_89 : decode cX11_feed 89 = .ok (.iload 7, 2) := by decide +kernel
theorem dX11_feed_91 : decode cX11_feed 91 = .ok (.bipush 24, 2) := by decide +kernel
theorem dX11_feed_93 : decode cX11_feed 93 = .ok (.bipush 8, 2) := by decide +kernel
theorem dX11_feed_95 : decode cX11_feed 95 = .ok (.iload 6, 2) := by decide +kernel
theorem dX11_feed_97 : decode cX11_feed 97 = .ok (.iconst 4, 1) := by decide +kernel
theorem dX11_feed_98 : decode cX11_feed 98 = .ok (.irem, 1) := by decide +kernel
theorem dX11_feed_99 : decode cX11_feed 99 = .ok (.imul, 1) := by decide +kernel
theorem dX11_feed_100 : decode cX11_feed 100 = .ok (.isub, 1) := by decide +kernel
theorem dX11_feed_101 : decode cX11_feed 101 = .ok (.ishr, 1) := by decide +kernel
theorem dX11_feed_102 : decode cX11_feed 102 = .ok (.sipush 255, 3) := by decide +kernel
theorem dX11_feed_105 : decode cX11_feed 105 = .ok (.iand, 1) := by decide +kernel
theorem dX11_feed_106 : decode cX11_feed 106 = .ok (.iastore, 1) := by decide +kernel
theorem dX11_feed_107 : decode cX11_feed 107 = .ok (.iinc 6 1, 3) := by decide +kernel
theorem dX11_feed_110 : decode cX11_feed 110 = .ok (.goto (-87), 3) := by decide +kernel
theorem dX11_feed_113 : decode cX11_feed 113 = .ok (.aload_n 0, 1) := by decide +kernel
theorem dX11_feed_114 : decode cX11_feed 114 = .ok (.dup, 1) := by decide +kernel
theorem dX11_feed_115 : decode cX11_feed 115 = .ok (.getfield 132, 3) := by decide +kernel
theorem dX11_feed_118 : decode cX11_feed 118 = .ok (.bipush 20, 2) := by decide +kernel
theorem dX11_feed_120 : decode cX11_feed 120 = .ok (.iadd, 1) := by decide +kernel
theorem dX11_feed_121 : decode cX11_feed 121 = .ok (.putfield 132, 3) := by decide +kernel
theorem dX11_feed_124 : decode cX11_feed 124 = .ok (.aload_n 0, 1) := by decide +kernel
theorem dX11_feed_125 : decode cX11_feed 125 = .ok (.getfield 132, 3) := by decide +kernel
theorem dX11_feed_128 : decode cX11_feed 128 = .ok (.ireturn, 1) := by decide +kernel
theorem dX11_isIn_0 : decode cX11_isIn 0 = .ok (.iload_n 0, 1) := by decide +kernel
theorem dX11_isIn_1 : decode cX11_isIn 1 = .ok (.iload_n 1, 1) := by decide +kernel
theorem dX11_isIn_2 : decode cX11_isIn 2 = .ok (.if_icmp .lt 12, 3) := by decide +kernel
theorem dX11_isIn_5 : decode cX11_isIn 5 = .ok (.iload_n 0, 1) := by decide +kernel
theorem dX11_isIn_6 : decode cX11_isIn 6 = .ok (.iload_n 2, 1) := by decide +kernel
theorem dX11_isIn_7 : decode cX11_isIn 7 = .ok (.if_icmp .gt 7, 3) := by decide +kernel
theorem dX11_isIn_10 : decode cX11_isIn 10 = .ok (.iconst 1, 1) := by decide +kernel
theorem dX11_isIn_11 : decode cX11_isIn 11 = .ok (.goto 4, 3) := by decide +kernel
theorem dX11_isIn_14 : decode cX11_isIn 14 = .ok (.iconst 0, 1) := by decide +kernel
theorem dX11_isIn_15 : decode cX11_isIn 15 = .ok (.ireturn, 1) := by decide +kernel
theorem dX11_isHalf_0 : decode cX11_isHalf 0 = .ok (.iload_n 0, 1) := by decide +kernel
theorem dX11_isHalf_1 : decode cX11_isHalf 1 = .ok (.ifCond .lt 13, 3) := by decide +kernel
theorem dX11_isHalf_4 : decode cX11_isHalf 4 = .ok (.iload_n 0, 1) := by decide +kernel
theorem dX11_isHalf_5 : decode cX11_isHalf 5 = .ok (.bipush 79, 2) := by decide +kernel
theorem dX11_isHalf_7 : decode cX11_isHalf 7 = .ok (.if_icmp .gt 7, 3) := by decide +kernel
theorem dX11_isHalf_10 : decode cX11_isHalf 10 = .ok (.iconst 1, 1) := by decide +kernel
theorem dX11_isHalf_11 : decode cX11_isHalf 11 = .ok (.goto 4, 3) := by decide +kernel
theorem dX11_isHalf_14 : decode cX11_isHalf 14 = .ok (.iconst 0, 1) := by decide +kernel
theorem dX11_isHalf_15 : decode cX11_isHalf 15 = .ok (.ireturn, 1) := by decide +kernel
theorem dX11_wrong_0 : decode cX11_wrong 0 = .ok (.aload_n 0, 1) := by decide +kernel
theorem dX11_wrong_1 : decode cX11_wrong 1 = .ok (.iload_n 1, 1) := by decide +kernel
theorem dX11_wrong_2 : decode cX11_wrong 2 = .ok (.putfield 135, 3) := by decide +kernel
theorem dX11_wrong_5 : decode cX11_wrong 5 = .ok (.aload_n 0, 1) := by decide +kernel
theorem dX11_wrong_6 : decode cX11_wrong 6 = .ok (.aload_n 0, 1) := by decide +kernel
theorem dX11_wrong_7 : decode cX11_wrong 7 = .ok (.getfield 138, 3) := by decide +kernel
theorem dX11_wrong_10 : decode cX11_wrong 10 = .ok (.putfield 58, 3) := by decide +kernel
theorem dX11_wrong_13 : decode cX11_wrong 13 = .ok (.iconst 0, 1) := by decide +kernel
theorem dX11_wrong_14 : decode cX11_wrong 14 = .ok (.ireturn, 1) := by decide +kernel
theorem dX11_wordAt_0 : decode cX11_wordAt 0 = .ok (.iconst 0, 1) := by decide +kernel
theorem dX11_wordAt_1 : decode cX11_wordAt 1 = .ok (.istore_n 3, 1) := by decide +kernel
theorem dX11_wordAt_2 : decode cX11_wordAt 2 = .ok (.iconst 0, 1) := by decide +kernel
theorem dX11_wordAt_3 : decode cX11_wordAt 3 = .ok (.istore 4, 2) := by decide +kernel
theorem dX11_wordAt_5 : decode cX11_wordAt 5 = .ok (.iload 4, 2) := by decide +kernel
theorem dX11_wordAt_7 : decode cX11_wordAt 7 = .ok (.aload_n 0, 1) := by decide +kernel
theorem dX11_wordAt_8 : decode cX11_wordAt 8 = .ok (.getfield 55, 3) := by decide +kernel
theorem dX11_wordAt_11 : decode cX11_wordAt 11 = .ok (.arraylength, 1) := by decide +kernel
theorem dX11_wordAt_12 : decode cX11_wordAt 12 = .ok (.if_icmp .ge 114, 3) := by decide +kernel
theorem dX11_wordAt_15 : decode cX11_wordAt 15 = .ok (.iconst 0, 1) := by decide +kernel
theorem dX11_wordAt_16 : decode cX11_wordAt 16 = .ok (.istore 5, 2) := by decide +kernel
theorem dX11_wordAt_18 : decode cX11_wordAt 18 = .ok (.aload_n 0, 1) := by decide +kernel
theorem dX11_wordAt_19 : decode cX11_wordAt 19 = .ok (.getfield 55, 3) := by decide +kernel
theorem dX11_wordAt_22 : decode cX11_wordAt 22 = .ok (.iload 4, 2) := by decide +kernel
theorem dX11_wordAt_24 : decode cX11_wordAt 24 = .ok (.iload 5, 2) := by decide +kernel
theorem dX11_wordAt_26 : decode cX11_wordAt 26 = .ok (.iadd, 1) := by decide +kernel
theorem dX11_wordAt_27 : decode cX11_wordAt 27 = .ok (.iaload, 1) := by decide +kernel
theorem dX11_wordAt_28 : decode cX11_wordAt 28 = .ok (.bipush 32, 2) := by decide +kernel
theorem dX11_wordAt_30 : decode cX11_wordAt 30 = .ok (.if_icmp .eq 9, 3) := by decide +kernel
theorem dX11_wordAt_33 : decode cX11_wordAt 33 = .ok (.iinc 5 1, 3) := by decide +kernel
theorem dX11_wordAt_36 : decode cX11_wordAt 36 = .ok (.goto (-18), 3) := by decide +kernel
theorem dX11_wordAt_39 : decode cX11_wordAt 39 = .ok (.iload 5, 2) := by decide +kernel
theorem dX11_wordAt_41 : decode cX11_wordAt 41 = .ok (.iload_n 2, 1) := by decide +kernel
theorem dX11_wordAt_42 : decode cX11_wordAt 42 = .ok (.iload_n 1, 1) := by decide +kernel
theorem dX11_wordAt_43 : decode cX11_wordAt 43 = .ok (.isub, 1) := by decide +kernel
theorem dX11_wordAt_44 : decode cX11_wordAt 44 = .ok (.if_icmp .ne 7, 3) := by decide +kernel
theorem dX11_wordAt_47 : decode cX11_wordAt 47 = .ok (.iconst 1, 1) := by decide +kernel
theorem dX11_wordAt_48 : decode cX11_wordAt 48 = .ok (.goto 4, 3) := by decide +kernel
theorem dX11_wordAt_51 : decode cX11_wordAt 51 = .ok (.iconst 0, 1) := by decide +kernel
theorem dX11_wordAt_52 : decode cX11_wordAt 52 = .ok (.istore 6, 2) := by decide +kernel
theorem dX11_wordAt_54 : decode cX11_wordAt 54 = .ok (.iconst 0, 1) := by decide +kernel
theorem dX11_wordAt_55 : decode cX11_wordAt 55 = .ok (.istore 7, 2) := by decide +kernel
theorem dX11_wordAt_57 : decode cX11_wordAt 57 = .ok (.iload 7, 2) := by decide +kernel
theorem dX11_wordAt_59 : decode cX11_wordAt 59 = .ok (.iload 5, 2) := by decide +kernel
theorem dX11_wordAt_61 : decode cX11_wordAt 61 = .ok (.if_icmp .ge 43, 3) := by decide +kernel
theorem dX11_wordAt_64 : decode cX11_wordAt 64 = .ok (.iload 6, 2) := by decide +kernel
theorem dX11_wordAt_66 : decode cX11_wordAt 66 = .ok (.ifCond .eq 38, 3) := by decide +kernel
theorem dX11_wordAt_69 : decode cX11_wordAt 69 = .ok (.aload_n 0, 1) := by decide +kernel
theorem dX11_wordAt_70 : decode cX11_wordAt 70 = .ok (.getfield 55, 3) := by decide +kernel
theorem dX11_wordAt_73 : decode cX11_wordAt 73 = .ok (.iload 4, 2) := by decide +kernel
theorem dX11_wordAt_75 : decode cX11_wordAt 75 = .ok (.iload 7, 2) := by decide +kernel
theorem dX11_wordAt_77 : decode cX11_wordAt 77 = .ok (.iadd, 1) := by decide +kernel
theorem dX11_wordAt_78 : decode cX11_wordAt 78 = .ok (.iaload, 1) := by decide +kernel
theorem dX11_wordAt_79 : decode cX11_wordAt 79 = .ok (.aload_n 0, 1) := by decide +kernel
theorem dX11_wordAt_80 : decode cX11_wordAt 80 = .ok (.getfield 7, 3) := by decide +kernel
theorem dX11_wordAt_83 : decode cX11_wordAt 83 = .ok (.iload_n 1, 1) := by decide +kernel
theorem dX11_wordAt_84 : decode cX11_wordAt 84 = .ok (.iload 7, 2) := by decide +kernel
theorem dX11_wordAt_86 : decode cX11_wordAt 86 = .ok (.iadd, 1) := by decide +kernel
theorem dX11_wordAt_87 : decode cX11_wordAt 87 = .ok (.iaload, 1) := by decide +kernel
theorem dX11_wordAt_88 : decode cX11_wordAt 88 = .ok (.if_icmp .ne 7, 3) := by decide +kernel
theorem dX11_wordAt_91 : decode cX11_wordAt 91 = .ok (.iconst 1, 1) := by decide +kernel
theorem dX11_wordAt_92 : decode cX11_wordAt 92 = .ok (.goto 4, 3) := by decide +kernel
theorem dX11_wordAt_95 : decode cX11_wordAt 95 = .ok (.iconst 0, 1) := by decide +kernel
theorem dX11_wordAt_96 : decode cX11_wordAt 96 = .ok (.istore 6, 2) := by decide +kernel
theorem dX11_wordAt_98 : decode cX11_wordAt 98 = .ok (.iinc 7 1, 3) := by decide +kernel
theorem dX11_wordAt_101 : decode cX11_wordAt 101 = .ok (.goto (-44), 3) := by decide +kernel
theorem dX11_wordAt_104 : decode cX11_wordAt 104 = .ok (.iload 6, 2) := by decide +kernel
theorem dX11_wordAt_106 : decode cX11_wordAt 106 = .ok (.ifCond .eq 5, 3) := by decide +kernel
theorem dX11_wordAt_109 : decode cX11_wordAt 109 = .ok (.iload_n 3, 1) := by decide +kernel
theorem dX11_wordAt_110 : decode cX11_wordAt 110 = .ok (.ireturn, 1) := by decide +kernel
theorem dX11_wordAt_111 : decode cX11_wordAt 111 = .ok (.iload 4, 2) := by decide +kernel
theorem dX11_wordAt_113 : decode cX11_wordAt 113 = .ok (.iload 5, 2) := by decide +kernel
theorem dX11_wordAt_115 : decode cX11_wordAt 115 = .ok (.iconst 1, 1) := by decide +kernel
theorem dX11_wordAt_116 : decode cX11_wordAt 116 = .ok (.iadd, 1) := by decide +kernel
theorem dX11_wordAt_117 : decode cX11_wordAt 117 = .ok (.iadd, 1) := by decide +kernel
theorem dX11_wordAt_118 : decode cX11_wordAt 118 = .ok (.istore 4, 2) := by decide +kernel
theorem dX11_wordAt_120 : decode cX11_wordAt 120 = .ok (.iinc 3 1, 3) := by decide +kernel
theorem dX11_wordAt_123 : decode cX11_wordAt 123 = .ok (.goto (-118), 3) := by decide +kernel
theorem dX11_wordAt_126 : decode cX11_wordAt 126 = .ok (.iconst (-1), 1) := by decide +kernel
theorem dX11_wordAt_127 : decode cX11_wordAt 127 = .ok (.ireturn, 1) := by decide +kernel
theorem dX11_isSmall_0 : decode cX11_isSmall 0 = .ok (.iload_n 1, 1) := by decide +kernel
theorem dX11_isSmall_1 : decode cX11_isSmall 1 = .ok (.aload_n 0, 1) := by decide +kernel
theorem dX11_isSmall_2 : decode cX11_isSmall 2 = .ok (.getfield 141, 3) := by decide +kernel
theorem dX11_isSmall_5 : decode cX11_isSmall 5 = .ok (.if_icmp .ge 29, 3) := by decide +kernel
theorem dX11_isSmall_8 : decode cX11_isSmall 8 = .ok (.aload_n 0, 1) := by decide +kernel
theorem dX11_isSmall_9 : decode cX11_isSmall 9 = .ok (.getfield 7, 3) := by decide +kernel
theorem dX11_isSmall_12 : decode cX11_isSmall 12 = .ok (.iload_n 1, 1) := by decide +kernel
theorem dX11_isSmall_13 : decode cX11_isSmall 13 = .ok (.iaload, 1) := by decide +kernel
theorem dX11_isSmall_14 : decode cX11_isSmall 14 = .ok (.bipush 97, 2) := by decide +kernel
theorem dX11_isSmall_16 : decode cX11_isSmall 16 = .ok (.if_icmp .lt 18, 3) := by decide +kernel
theorem dX11_isSmall_19 : decode cX11_isSmall 19 = .ok (.aload_n 0, 1) := by decide +kernel
theorem dX11_isSmall_20 : decode cX11_isSmall 20 = .ok (.getfield 7, 3) := by decide +kernel
theorem dX11_isSmall_23 : decode cX11_isSmall 23 = .ok (.iload_n 1, 1) := by decide +kernel
theorem dX11_isSmall_24 : decode cX11_isSmall 24 = .ok (.iaload, 1) := by decide +kernel
theorem dX11_isSmall_25 : decode cX11_isSmall 25 = .ok (.bipush 122, 2) := by decide +kernel
theorem dX11_isSmall_27 : decode cX11_isSmall 27 = .ok (.if_icmp .gt 7, 3) := by decide +kernel
theorem dX11_isSmall_30 : decode cX11_isSmall 30 = .ok (.iconst 1, 1) := by decide +kernel
theorem dX11_isSmall_31 : decode cX11_isSmall 31 = .ok (.goto 4, 3) := by decide +kernel
theorem dX11_isSmall_34 : decode cX11_isSmall 34 = .ok (.iconst 0, 1) := by decide +kernel
theorem dX11_isSmall_35 : decode cX11_isSmall 35 = .ok (.ireturn, 1) := by decide +kernel
theorem dX11_isDigit_0 : decode cX11_isDigit 0 = .ok (.iload_n 1, 1) := by decide +kernel
theorem dX11_isDigit_1 : decode cX11_isDigit 1 = .ok (.aload_n 0, 1) := by decide +kernel
theorem dX11_isDigit_2 : decode cX11_isDigit 2 = .ok (.getfield 141, 3) := by decide +kernel
theorem dX11_isDigit_5 : decode cX11_isDigit 5 = .ok (.if_icmp .ge 29, 3) := by decide +kernel
theorem dX11_isDigit_8 : decode cX11_isDigit 8 = .ok (.aload_n 0, 1) := by decide +kernel
theorem dX11_isDigit_9 : decode cX11_isDigit 9 = .ok (.getfield 7, 3) := by decide +kernel
theorem dX11_isDigit_12 : decode cX11_isDigit 12 = .ok (.iload_n 1, 1) := by decide +kernel
theorem dX11_isDigit_13 : decode cX11_isDigit 13 = .ok (.iaload, 1) := by decide +kernel
theorem dX11_isDigit_14 : decode cX11_isDigit 14 = .ok (.bipush 48, 2) := by decide +kernel
theorem dX11_isDigit_16 : decode cX11_isDigit 16 = .ok (.if_icmp .lt 18, 3) := by decide +kernel
theorem dX11_isDigit_19 : decode cX11_isDigit 19 = .ok (.aload_n 0, 1) := by decide +kernel
theorem dX11_isDigit_20 : decode cX11_isDigit 20 = .ok (.getfield 7, 3) := by decide +kernel
theorem dX11_isDigit_23 : decode cX11_isDigit 23 = .ok (.iload_n 1, 1) := by decide +kernel
theorem dX11_isDigit_24 : decode cX11_isDigit 24 = .ok (.iaload, 1) := by decide +kernel
theorem dX11_isDigit_25 : decode cX11_isDigit 25 = .ok (.bipush 57, 2) := by decide +kernel
theorem dX11_isDigit_27 : decode cX11_isDigit 27 = .ok (.if_icmp .gt 7, 3) := by decide +kernel
theorem dX11_isDigit_30 : decode cX11_isDigit 30 = .ok (.iconst 1, 1) := by decide +kernel
theorem dX11_isDigit_31 : decode cX11_isDigit 31 = .ok (.goto 4, 3) := by decide +kernel
theorem dX11_isDigit_34 : decode cX11_isDigit 34 = .ok (.iconst 0, 1) := by decide +kernel
theorem dX11_isDigit_35 : decode cX11_isDigit 35 = .ok (.ireturn, 1) := by decide +kernel
theorem dX11_take_0 : decode cX11_take 0 = .ok (.aload_n 0, 1) := by decide +kernel
theorem dX11_take_1 : decode cX11_take 1 = .ok (.getfield 144, 3) := by decide +kernel
theorem dX11_take_4 : decode cX11_take 4 = .ok (.aload_n 0, 1) := by decide +kernel
theorem dX11_take_5 : decode cX11_take 5 = .ok (.getfield 141, 3) := by decide +kernel
theorem dX11_take_8 : decode cX11_take 8 = .ok (.if_icmp .ge 44, 3) := by decide +kernel
theorem dX11_take_11 : decode cX11_take 11 = .ok (.aload_n 0, 1) := by decide +kernel
theorem dX11_take_12 : decode cX11_take 12 = .ok (.getfield 7, 3) := by decide +kernel
theorem dX11_take_15 : decode cX11_take 15 = .ok (.aload_n 0, 1) := by decide +kernel
theorem dX11_take_16 : decode cX11_take 16 = .ok (.getfield 144, 3) := by decide +kernel
theorem dX11_take_19 : decode cX11_take 19 = .ok (.iaload, 1) := by decide +kernel
theorem dX11_take_20 : decode cX11_take 20 = .ok (.bipush 10, 2) := by decide +kernel
theorem dX11_take_22 : decode cX11_take 22 = .ok (.if_icmp .eq 17, 3) := by decide +kernel
theorem dX11_take_25 : decode cX11_take 25 = .ok (.aload_n 0, 1) := by decide +kernel
theorem dX11_take_26 : decode cX11_take 26 = .ok (.getfield 7, 3) := by decide +kernel
theorem dX11_take_29 : decode cX11_take 29 = .ok (.aload_n 0, 1) := by decide +kernel
theorem dX11_take_30 : decode cX11_take 30 = .ok (.getfield 144, 3) := by decide +kernel
theorem dX11_take_33 : decode cX11_take 33 = .ok (.iaload, 1) := by decide +kernel
theorem dX11_take_34 : decode cX11_take 34 = .ok (.bipush 32, 2) := by decide +kernel
theorem dX11_take_36 : decode cX11_take 36 = .ok (.if_icmp .ne 16, 3) := by decide +kernel
theorem dX11_take_39 : decode cX11_take 39 = .ok (.aload_n 0, 1) := by decide +kernel
theorem dX11_take_40 : decode cX11_take 40 = .ok (.dup, 1) := by decide +kernel
theorem dX11_take_41 : decode cX11_take 41 = .ok (.getfield 144, 3) := by decide +kernel
theorem dX11_take_44 : decode cX11_take 44 = .ok (.iconst 1, 1) := by decide +kernel
theorem dX11_take_45 : decode cX11_take 45 = .ok (.iadd, 1) := by decide +kernel
theorem dX11_take_46 : decode cX11_take 46 = .ok (.putfield 144, 3) := by decide +kernel
theorem dX11_take_49 : decode cX11_take 49 = .ok (.goto (-49), 3) := by decide +kernel
theorem dX11_take_52 : decode cX11_take 52 = .ok (.aload_n 0, 1) := by decide +kernel
theorem dX11_take_53 : decode cX11_take 53 = .ok (.aload_n 0, 1) := by decide +kernel
theorem dX11_take_54 : decode cX11_take 54 = .ok (.getfield 144, 3) := by decide +kernel
theorem dX11_take_57 : decode cX11_take 57 = .ok (.putfield 138, 3) := by decide +kernel
theorem dX11_take_60 : decode cX11_take 60 = .ok (.aload_n 0, 1) := by decide +kernel
theorem dX11_take_61 : decode cX11_take 61 = .ok (.getfield 144, 3) := by decide +kernel
theorem dX11_take_64 : decode cX11_take 64 = .ok (.aload_n 0, 1) := by decide +kernel
theorem dX11_take_65 : decode cX11_take 65 = .ok (.getfield 141, 3) := by decide +kernel
theorem dX11_take_68 : decode cX11_take 68 = .ok (.if_icmp .ne 11, 3) := by decide +kernel
theorem dX11_take_71 : decode cX11_take 71 = .ok (.aload_n 0, 1) := by decide +kernel
theorem dX11_take_72 : decode cX11_take 72 = .ok (.iconst 0, 1) := by decide +kernel
theorem dX11_take_73 : decode cX11_take 73 = .ok (.putfield 147, 3) := by decide +kernel
theorem dX11_take_76 : decode cX11_take 76 = .ok (.goto 192, 3) := by decide +kernel
theorem dX11_take_79 : decode cX11_take 79 = .ok (.aload_n 0, 1) := by decide +kernel
theorem dX11_take_80 : decode cX11_take 80 = .ok (.aload_n 0, 1) := by decide +kernel
theorem dX11_take_81 : decode cX11_take 81 = .ok (.getfield 144, 3) := by decide +kernel
theorem dX11_take_84 : decode cX11_take 84 = .ok (.invokevirtual 150, 3) := by decide +kernel
theorem dX11_take_87 : decode cX11_take 87 = .ok (.ifCond .eq 62, 3) := by decide +kernel
theorem dX11_take_90 : decode cX11_take 90 = .ok (.aload_n 0, 1) := by decide +kernel
theorem dX11_take_91 : decode cX11_take 91 = .ok (.aload_n 0, 1) := by decide +kernel
theorem dX11_take_92 : decode cX11_take 92 = .ok (.getfield 144, 3) := by decide +kernel
theorem dX11_take_95 : decode cX11_take 95 = .ok (.invokevirtual 150, 3) := by decide +kernel
theorem dX11_take_98 : decode cX11_take 98 = .ok (.ifCond .eq 16, 3) := by decide +kernel
theorem dX11_take_101 : decode cX11_take 101 = .ok (.aload_n 0, 1) := by decide +kernel
theorem dX11_take_102 : decode cX11_take 102 = .ok (.dup, 1) := by decide +kernel
theorem dX11_take_103 : decode cX11_take 103 = .ok (.getfield 144, 3) := by decide +kernel
theorem dX11_take_106 : decode cX11_take 106 = .ok (.iconst 1, 1) := by decide +kernel
theorem dX11_take_107 : decode cX11_take 107 = .ok (.iadd, 1) := by decide +kernel
theorem dX11_take_108 : decode cX11_take 108 = .ok (.putfield 144, 3) := by decide +kernel
theorem dX11_take_111 : decode cX11_take 111 = .ok (.goto (-21), 3) := by decide +kernel
theorem dX11_take_114 : decode cX11_take 114 = .ok (.aload_n 0, 1) := by decide +kernel
theorem dX11_take_115 : decode cX11_take 115 = .ok (.aload_n 0, 1) := by decide +kernel
theorem dX11_take_116 : decode cX11_take 116 = .ok (.aload_n 0, 1) := by decide +kernel
theorem dX11_take_117 : decode cX11_take 117 = .ok (.getfield 138, 3) := by decide +kernel
theorem dX11_take_120 : decode cX11_take 120 = .ok (.aload_n 0, 1) := by decide +kernel
theorem dX11_take_121 : decode cX11_take 121 = .ok (.getfield 144, 3) := by decide +kernel
theorem dX11_take_124 : decode cX11_take 124 = .ok (.invokevirtual 154, 3) := by decide +kernel
theorem dX11_take_127 : decode cX11_take 127 = .ok (.putfield 158, 3) := by decide +kernel
theorem dX11_take_130 : decode cX11_take 130 = .ok (.aload_n 0, 1) := by decide +kernel
theorem dX11_take_131 : decode cX11_take 131 = .ok (.aload_n 0, 1) := by decide +kernel
theorem dX11_take_132 : decode cX11_take 132 = .ok (.getfield 158, 3) := by decide +kernel
theorem dX11_take_135 : decode cX11_take 135 = .ok (.ifCond .ge 7, 3) := by decide +kernel
theorem dX11_take_138 : decode cX11_take 138 = .ok (.iconst 4, 1) := by decide +kernel
theorem dX11_take_139 : decode cX11_take 139 = .ok (.goto 4, 3) := by decide +kernel
theorem dX11_take_142 : decode cX11_take 142 = .ok (.iconst 1, 1) := by decide +kernel
theorem dX11_take_143 : decode cX11_take 143 = .ok (.putfield 147, 3) := by decide +kernel
theorem dX11_take_146 : decode cX11_take 146 = .ok (.goto 122, 3) := by decide +kernel
theorem dX11_take_149 : decode cX11_take 149 = .ok (.aload_n 0, 1) := by decide +kernel
theorem dX11_take_150 : decode cX11_take 150 = .ok (.aload_n 0, 1) := by decide +kernel
theorem dX11_take_151 : decode cX11_take 151 = .ok (.getfield 144, 3) := by decide +kernel
theorem dX11_take_154 : decode cX11_take 154 = .ok (.invokevirtual 161, 3) := by decide +kernel
theorem dX11_take_157 : decode cX11_take 157 = .ok (.ifCond .eq 78, 3) := by decide +kernel
theorem dX11_take_160 : decode cX11_take 160 = .ok (.aload_n 0, 1) := by decide +kernel
theorem dX11_take_161 : decode cX11_take 161 = .ok (.iconst 2, 1) := by decide +kernel
theorem dX11_take_162 : decode cX11_take 162 = .ok (.putfield 147, 3) := by decide +kernel
theorem dX11_take_165 : decode cX11_take 165 = .ok (.aload_n 0, 1) := by decide +kernel
theorem dX11_take_166 : decode cX11_take 166 = .ok (.iconst 0, 1) := by decide +kernel
theorem dX11_take_167 : decode cX11_take 167 = .ok (.putfield 158, 3) := by decide +kernel
theorem dX11_take_170 : decode cX11_take 170 = .ok (.aload_n 0, 1) := by decide +kernel
theorem dX11_take_171 : decode cX11_take 171 = .ok (.aload_n 0, 1) := by decide +kernel
theorem dX11_take_172 : decode cX11_take 172 = .ok (.getfield 144, 3) := by decide +kernel
theorem dX11_take_175 : decode cX11_take 175 = .ok (.invokevirtual 161, 3) := by decide +kernel
theorem dX11_take_178 : decode cX11_take 178 = .ok (.ifCond .eq 90, 3) := by decide +kernel
theorem dX11_take_181 : decode cX11_take 181 = .ok (.aload_n 0, 1) := by decide +kernel
theorem dX11_take_182 : decode cX11_take 182 = .ok (.aload_n 0, 1) := by decide +kernel
theorem dX11_take_183 : decode cX11_take 183 = .ok (.getfield 158, 3) := by decide +kernel
theorem dX11_take_186 : decode cX11_take 186 = .ok (.sipush 9999, 3) := by decide +kernel
theorem dX11_take_189 : decode cX11_take 189 = .ok (.if_icmp .le 10, 3) := by decide +kernel
theorem dX11_take_192 : decode cX11_take 192 = .ok (.aload_n 0, 1) := by decide +kernel
theorem dX11_take_193 : decode cX11_take 193 = .ok (.getfield 158, 3) := by decide +kernel
theorem dX11_take_196 : decode cX11_take 196 = .ok (.goto 23, 3) := by decide +kernel
theorem dX11_take_199 : decode cX11_take 199 = .ok (.bipush 10, 2) := by decide +kernel
theorem dX11_take_201 : decode cX11_take 201 = .ok (.aload_n 0, 1) := by decide +kernel
theorem dX11_take_202 : decode cX11_take 202 = .ok (.getfield 158, 3) := by decide +kernel
theorem dX11_take_205 : decode cX11_take 205 = .ok (.imul, 1) := by decide +kernel
theorem dX11_take_206 : decode cX11_take 206 = .ok (.aload_n 0, 1) := by decide +kernel
theorem dX11_take_207 : decode cX11_take 207 = .ok (.getfield 7, 3) := by decide +kernel
theorem dX11_take_210 : decode cX11_take 210 = .ok (.aload_n 0, 1) := by decide +kernel
theorem dX11_take_211 : decode cX11_take 211 = .ok (.getfield 144, 3) := by decide +kernel
theorem dX11_take_214 : decode cX11_take 214 = .ok (.iaload, 1) := by decide +kernel
theorem dX11_take_215 : decode cX11_take 215 = .ok (.iadd, 1) := by decide +kernel
theorem dX11_take_216 : decode cX11_take 216 = .ok (.bipush 48, 2) := by decide +kernel
theorem dX11_take_218 : decode cX11_take 218 = .ok (.isub, 1) := by decide +kernel
theorem dX11_take_219 : decode cX11_take 219 = .ok (.putfield 158, 3) := by decide +kernel
theorem dX11_take_222 : decode cX11_take 222 = .ok (.aload_n 0, 1) := by decide +kernel
theorem dX11_take_223 : decode cX11_take 223 = .ok (.dup, 1) := by decide +kernel
theorem dX11_take_224 : decode cX11_take 224 = .ok (.getfield 144, 3) := by decide +kernel
theorem dX11_take_227 : decode cX11_take 227 = .ok (.iconst 1, 1) := by decide +kernel
theorem dX11_take_228 : decode cX11_take 228 = .ok (.iadd, 1) := by decide +kernel
theorem dX11_take_229 : decode cX11_take 229 = .ok (.putfield 144, 3) := by decide +kernel
theorem dX11_take_232 : decode cX11_take 232 = .ok (.goto (-62), 3) := by decide +kernel
theorem dX11_take_235 : decode cX11_take 235 = .ok (.aload_n 0, 1) := by decide +kernel
theorem dX11_take_236 : decode cX11_take 236 = .ok (.aload_n 0, 1) := by decide +kernel
theorem dX11_take_237 : decode cX11_take 237 = .ok (.getfield 7, 3) := by decide +kernel
theorem dX11_take_240 : decode cX11_take 240 = .ok (.aload_n 0, 1) := by decide +kernel
theorem dX11_take_241 : decode cX11_take 241 = .ok (.getfield 144, 3) := by decide +kernel
theorem dX11_take_244 : decode cX11_take 244 = .ok (.iaload, 1) := by decide +kernel
theorem dX11_take_245 : decode cX11_take 245 = .ok (.bipush 59, 2) := by decide +kernel
theorem dX11_take_247 : decode cX11_take 247 = .ok (.if_icmp .ne 7, 3) := by decide +kernel
theorem dX11_take_250 : decode cX11_take 250 = .ok (.iconst 3, 1) := by decide +kernel
theorem dX11_take_251 : decode cX11_take 251 = .ok (.goto 4, 3) := by decide +kernel
theorem dX11_take_254 : decode cX11_take 254 = .ok (.iconst 4, 1) := by decide +kernel
theorem dX11_take_255 : decode cX11_take 255 = .ok (.putfield 147, 3) := by decide +kernel
theorem dX11_take_258 : decode cX11_take 258 = .ok (.aload_n 0, 1) := by decide +kernel
theorem dX11_take_259 : decode cX11_take 259 = .ok (.dup, 1) := by decide +kernel
theorem dX11_take_260 : decode cX11_take 260 = .ok (.getfield 144, 3) := by decide +kernel
theorem dX11_take_263 : decode cX11_take 263 = .ok (.iconst 1, 1) := by decide +kernel
theorem dX11_take_264 : decode cX11_take 264 = .ok (.iadd, 1) := by decide +kernel
theorem dX11_take_265 : decode cX11_take 265 = .ok (.putfield 144, 3) := by decide +kernel
theorem dX11_take_268 : decode cX11_take 268 = .ok (.return_, 1) := by decide +kernel
theorem dX11_isWord_0 : decode cX11_isWord 0 = .ok (.aload_n 0, 1) := by decide +kernel
theorem dX11_isWord_1 : decode cX11_isWord 1 = .ok (.getfield 147, 3) := by decide +kernel
theorem dX11_isWord_4 : decode cX11_isWord 4 = .ok (.iconst 1, 1) := by decide +kernel
theorem dX11_isWord_5 : decode cX11_isWord 5 = .ok (.if_icmp .ne 15, 3) := by decide +kernel
theorem dX11_isWord_8 : decode cX11_isWord 8 = .ok (.aload_n 0, 1) := by decide +kernel
theorem dX11_isWord_9 : decode cX11_isWord 9 = .ok (.getfield 158, 3) := by decide +kernel
theorem dX11_isWord_12 : decode cX11_isWord 12 = .ok (.iload_n 1, 1) := by decide +kernel
theorem dX11_isWord_13 : decode cX11_isWord 13 = .ok (.if_icmp .ne 7, 3) := by decide +kernel
theorem dX11_isWord_16 : decode cX11_isWord 16 = .ok (.iconst 1, 1) := by decide +kernel
theorem dX11_isWord_17 : decode cX11_isWord 17 = .ok (.goto 4, 3) := by decide +kernel
theorem dX11_isWord_20 : decode cX11_isWord 20 = .ok (.iconst 0, 1) := by decide +kernel
theorem dX11_isWord_21 : decode cX11_isWord 21 = .ok (.ireturn, 1) := by decide +kernel
theorem dX11_isNumber_0 : decode cX11_isNumber 0 = .ok (.aload_n 0, 1) := by decide +kernel
theorem dX11_isNumber_1 : decode cX11_isNumber 1 = .ok (.getfield 147, 3) := by decide +kernel
theorem dX11_isNumber_4 : decode cX11_isNumber 4 = .ok (.iconst 2, 1) := by decide +kernel
theorem dX11_isNumber_5 : decode cX11_isNumber 5 = .ok (.if_icmp .eq 9, 3) := by decide +kernel
theorem dX11_isNumber_8 : decode cX11_isNumber 8 = .ok (.aload_n 0, 1) := by decide +kernel
theorem dX11_isNumber_9 : decode cX11_isNumber 9 = .ok (.iconst 1, 1) := by decide +kernel
theorem dX11_isNumber_10 : decode cX11_isNumber 10 = .ok (.invokevirtual 164, 3) := by decide +kernel
theorem dX11_isNumber_13 : decode cX11_isNumber 13 = .ok (.ireturn, 1) := by decide +kernel
theorem dX11_isNumber_14 : decode cX11_isNumber 14 = .ok (.aload_n 0, 1) := by decide +kernel
theorem dX11_isNumber_15 : decode cX11_isNumber 15 = .ok (.getfield 158, 3) := by decide +kernel
theorem dX11_isNumber_18 : decode cX11_isNumber 18 = .ok (.iload_n 1, 1) := by decide +kernel
theorem dX11_isNumber_19 : decode cX11_isNumber 19 = .ok (.if_icmp .lt 11, 3) := by decide +kernel
theorem dX11_isNumber_22 : decode cX11_isNumber 22 = .ok (.aload_n 0, 1) := by decide +kernel
theorem dX11_isNumber_23 : decode cX11_isNumber 23 = .ok (.getfield 158, 3) := by decide +kernel
theorem dX11_isNumber_26 : decode cX11_isNumber 26 = .ok (.iload_n 2, 1) := by decide +kernel
theorem dX11_isNumber_27 : decode cX11_isNumber 27 = .ok (.if_icmp .le 11, 3) := by decide +kernel
theorem dX11_isNumber_30 : decode cX11_isNumber 30 = .ok (.aload_n 0, 1) := by decide +kernel
theorem dX11_isNumber_31 : decode cX11_isNumber 31 = .ok (.iconst 2, 1) := by decide +kernel
theorem dX11_isNumber_32 : decode cX11_isNumber 32 = .ok (.invokevirtual 164, 3) := by decide +kernel
theorem dX11_isNumber_35 : decode cX11_isNumber 35 = .ok (.ifCond .eq 7, 3) := by decide +kernel
theorem dX11_isNumber_38 : decode cX11_isNumber 38 = .ok (.iconst 1, 1) := by decide +kernel
theorem dX11_isNumber_39 : decode cX11_isNumber 39 = .ok (.goto 4, 3) := by decide +kernel
theorem dX11_isNumber_42 : decode cX11_isNumber 42 = .ok (.iconst 0, 1) := by decide +kernel
theorem dX11_isNumber_43 : decode cX11_isNumber 43 = .ok (.ireturn, 1) := by decide +kernel
theorem dX11_plain_0 : decode cX11_plain 0 = .ok (.aload_n 0, 1) := by decide +kernel
theorem dX11_plain_1 : decode cX11_plain 1 = .ok (.getfield 86, 3) := by decide +kernel
theorem dX11_plain_4 : decode cX11_plain 4 = .ok (.iconst 4, 1) := by decide +kernel
theorem dX11_plain_5 : decode cX11_plain 5 = .ok (.iconst 4, 1) := by decide +kernel
theorem dX11_plain_6 : decode cX11_plain 6 = .ok (.iastore, 1) := by decide +kernel
theorem dX11_plain_7 : decode cX11_plain 7 = .ok (.aload_n 0, 1) := by decide +kernel
theorem dX11_plain_8 : decode cX11_plain 8 = .ok (.getfield 86, 3) := by decide +kernel
theorem dX11_plain_11 : decode cX11_plain 11 = .ok (.iconst 5, 1) := by decide +kernel
theorem dX11_plain_12 : decode cX11_plain 12 = .ok (.iconst 0, 1) := by decide +kernel
theorem dX11_plain_13 : decode cX11_plain 13 = .ok (.iastore, 1) := by decide +kernel
theorem dX11_plain_14 : decode cX11_plain 14 = .ok (.aload_n 0, 1) := by decide +kernel
theorem dX11_plain_15 : decode cX11_plain 15 = .ok (.getfield 86, 3) := by decide +kernel
theorem dX11_plain_18 : decode cX11_plain 18 = .ok (.bipush 6, 2) := by decide +kernel
theorem dX11_plain_20 : decode cX11_plain 20 = .ok (.bipush 20, 2) := by decide +kernel
theorem dX11_plain_22 : decode cX11_plain 22 = .ok (.iastore, 1) := by decide +kernel
theorem dX11_plain_23 : decode cX11_plain 23 = .ok (.aload_n 0, 1) := by decide +kernel
theorem dX11_plain_24 : decode cX11_plain 24 = .ok (.getfield 86, 3) := by decide +kernel
theorem dX11_plain_27 : decode cX11_plain 27 = .ok (.bipush 7, 2) := by decide +kernel
theorem dX11_plain_29 : decode cX11_plain 29 = .ok (.iconst 3, 1) := by decide +kernel
theorem dX11_plain_30 : decode cX11_plain 30 = .ok (.iastore, 1) := by decide +kernel
theorem dX11_plain_31 : decode cX11_plain 31 = .ok (.iconst 0, 1) := by decide +kernel
theorem dX11_plain_32 : decode cX11_plain 32 = .ok (.istore_n 1, 1) := by decide +kernel
theorem dX11_plain_33 : decode cX11_plain 33 = .ok (.iload_n 1, 1) := by decide +kernel
theorem dX11_plain_34 : decode cX11_plain 34 = .ok (.iconst 4, 1) := by decide +kernel
theorem dX11_plain_35 : decode cX11_plain 35 = .ok (.if_icmp .ge 16, 3) := by decide +kernel
theorem dX11_plain_38 : decode cX11_plain 38 = .ok (.aload_n 0, 1) := by decide +kernel
theorem dX11_plain_39 : decode cX11_plain 39 = .ok (.getfield 89, 3) := by decide +kernel
theorem dX11_plain_42 : decode cX11_plain 42 = .ok (.iload_n 1, 1) := by decide +kernel
theorem dX11_plain_43 : decode cX11_plain 43 = .ok (.iconst 0, 1) := by decide +kernel
theorem dX11_plain_44 : decode cX11_plain 44 = .ok (.bastore, 1) := by decide +kernel
theorem dX11_plain_45 : decode cX11_plain 45 = .ok (.iinc 1 1, 3) := by decide +kernel
theorem dX11_plain_48 : decode cX11_plain 48 = .ok (.goto (-15), 3) := by decide +kernel
theorem dX11_plain_51 : decode cX11_plain 51 = .ok (.aload_n 0, 1) := by decide +kernel
theorem dX11_plain_52 : decode cX11_plain 52 = .ok (.iconst 0, 1) := by decide +kernel
theorem dX11_plain_53 : decode cX11_plain 53 = .ok (.putfield 167, 3) := by decide +kernel
theorem dX11_plain_56 : decode cX11_plain 56 = .ok (.return_, 1) := by decide +kernel
theorem dX11_keep_0 : decode cX11_keep 0 = .ok (.iconst 0, 1) := by decide +kernel
theorem dX11_keep_1 : decode cX11_keep 1 = .ok (.istore_n 1, 1) := by decide +kernel
theorem dX11_keep_2 : decode cX11_keep 2 = .ok (.iload_n 1, 1) := by decide +kernel
theorem dX11_keep_3 : decode cX11_keep 3 = .ok (.iconst 4, 1) := by decide +kernel
theorem dX11_keep_4 : decode cX11_keep 4 = .ok (.if_icmp .ge 23, 3) := by decide +kernel
theorem dX11_keep_7 : decode cX11_keep 7 = .ok (.aload_n 0, 1) := by decide +kernel
theorem dX11_keep_8 : decode cX11_keep 8 = .ok (.getfield 86, 3) := by decide +kernel
theorem dX11_keep_11 : decode cX11_keep 11 = .ok (.iload_n 1, 1) := by decide +kernel
theorem dX11_keep_12 : decode cX11_keep 12 = .ok (.aload_n 0, 1) := by decide +kernel
theorem dX11_keep_13 : decode cX11_keep 13 = .ok (.getfield 86, 3) := by decide +kernel
theorem dX11_keep_16 : decode cX11_keep 16 = .ok (.iconst 4, 1) := by decide +kernel
theorem dX11_keep_17 : decode cX11_keep 17 = .ok (.iload_n 1, 1) := by decide +kernel
theorem dX11_keep_18 : decode cX11_keep 18 = .ok (.iadd, 1) := by decide +kernel
theorem dX11_keep_19 : decode cX11_keep 19 = .ok (.iaload, 1) := by decide +kernel
theorem dX11_keep_20 : decode cX11_keep 20 = .ok (.iastore, 1) := by decide +kernel
theorem dX11_keep_21 : decode cX11_keep 21 = .ok (.iinc 1 1, 3) := by decide +kernel
theorem dX11_keep_24 : decode cX11_keep 24 = .ok (.goto (-22), 3) := by decide +kernel
theorem dX11_keep_27 : decode cX11_keep 27 = .ok (.aload_n 0, 1) := by decide +kernel
theorem dX11_keep_28 : decode cX11_keep 28 = .ok (.aload_n 0, 1) := by decide +kernel
theorem dX11_keep_29 : decode cX11_keep 29 = .ok (.getfield 167, 3) := by decide +kernel
theorem dX11_keep_32 : decode cX11_keep 32 = .ok (.putfield 170, 3) := by decide +kernel
theorem dX11_keep_35 : decode cX11_keep 35 = .ok (.iconst 0, 1) := by decide +kernel
theorem dX11_keep_36 : decode cX11_keep 36 = .ok (.istore_n 1, 1) := by decide +kernel
theorem dX11_keep_37 : decode cX11_keep 37 = .ok (.iload_n 1, 1) := by decide +kernel
theorem dX11_keep_38 : decode cX11_keep 38 = .ok (.aload_n 0, 1) := by decide +kernel
theorem dX11_keep_39 : decode cX11_keep 39 = .ok (.getfield 170, 3) := by decide +kernel
theorem dX11_keep_42 : decode cX11_keep 42 = .ok (.if_icmp .ge 129, 3) := by decide +kernel
theorem dX11_keep_45 : decode cX11_keep 45 = .ok (.aload_n 0, 1) := by decide +kernel
theorem dX11_keep_46 : decode cX11_keep 46 = .ok (.getfield 62, 3) := by decide +kernel
theorem dX11_keep_49 : decode cX11_keep 49 = .ok (.iload_n 1, 1) := by decide +kernel
theorem dX11_keep_50 : decode cX11_keep 50 = .ok (.aload_n 0, 1) := by decide +kernel
theorem dX11_keep_51 : decode cX11_keep 51 = .ok (.getfield 62, 3) := by decide +kernel
theorem dX11_keep_54 : decode cX11_keep 54 = .ok (.bipush 24, 2) := by decide +kernel
theorem dX11_keep_56 : decode cX11_keep 56 = .ok (.iload_n 1, 1) := by decide +kernel
theorem dX11_keep_57 : decode cX11_keep 57 = .ok (.iadd, 1) := by decide +kernel
theorem dX11_keep_58 : decode cX11_keep 58 = .ok (.iaload, 1) := by decide +kernel
theorem dX11_keep_59 : decode cX11_keep 59 = .ok (.iastore, 1) := by decide +kernel
theorem dX11_keep_60 : decode cX11_keep 60 = .ok (.aload_n 0, 1) := by decide +kernel
theorem dX11_keep_61 : decode cX11_keep 61 = .ok (.getfield 65, 3) := by decide +kernel
theorem dX11_keep_64 : decode cX11_keep 64 = .ok (.iload_n 1, 1) := by decide +kernel
theorem dX11_keep_65 : decode cX11_keep 65 = .ok (.aload_n 0, 1) := by decide +kernel
theorem dX11_keep_66 : decode cX11_keep 66 = .ok (.getfield 65, 3) := by decide +kernel
theorem dX11_keep_69 : decode cX11_keep 69 = .ok (.bipush 24, 2) := by decide +kernel
theorem dX11_keep_71 : decode cX11_keep 71 = .ok (.iload_n 1, 1) := by decide +kernel
theorem dX11_keep_72 : decode cX11_keep 72 = .ok (.iadd, 1) := by decide +kernel
theorem dX11_keep_73 : decode cX11_keep 73 = .ok (.iaload, 1) := by decide +kernel
theorem dX11_keep_74 : decode cX11_keep 74 = .ok (.iastore, 1) := by decide +kernel
theorem dX11_keep_75 : decode cX11_keep 75 = .ok (.aload_n 0, 1) := by decide +kernel
theorem dX11_keep_76 : decode cX11_keep 76 = .ok (.getfield 68, 3) := by decide +kernel
theorem dX11_keep_79 : decode cX11_keep 79 = .ok (.iload_n 1, 1) := by decide +kernel
theorem dX11_keep_80 : decode cX11_keep 80 = .ok (.aload_n 0, 1) := by decide +kernel
theorem dX11_keep_81 : decode cX11_keep 81 = .ok (.getfield 68, 3) := by decide +kernel
theorem dX11_keep_84 : decode cX11_keep 84 = .ok (.bipush 24, 2) := by decide +kernel
theorem dX11_keep_86 : decode cX11_keep 86 = .ok (.iload_n 1, 1) := by decide +kernel
theorem dX11_keep_87 : decode cX11_keep 87 = .ok (.iadd, 1) := by decide +kernel
theorem dX11_keep_88 : decode cX11_keep 88 = .ok (.iaload, 1) := by decide +kernel
theorem dX11_keep_89 : decode cX11_keep 89 = .ok (.iastore, 1) := by decide +kernel
theorem dX11_keep_90 : decode cX11_keep 90 = .ok (.aload_n 0, 1) := by decide +kernel
theorem dX11_keep_91 : decode cX11_keep 91 = .ok (.getfield 71, 3) := by decide +kernel
theorem dX11_keep_94 : decode cX11_keep 94 = .ok (.iload_n 1, 1) := by decide +kernel
theorem dX11_keep_95 : decode cX11_keep 95 = .ok (.aload_n 0, 1) := by decide +kernel
theorem dX11_keep_96 : decode cX11_keep 96 = .ok (.getfield 71, 3) := by decide +kernel
theorem dX11_keep_99 : decode cX11_keep 99 = .ok (.bipush 24, 2) := by decide +kernel
theorem dX11_keep_101 : decode cX11_keep 101 = .ok (.iload_n 1, 1) := by decide +kernel
theorem dX11_keep_102 : decode cX11_keep 102 = .ok (.iadd, 1) := by decide +kernel
theorem dX11_keep_103 : decode cX11_keep 103 = .ok (.iaload, 1) := by decide +kernel
theorem dX11_keep_104 : decode cX11_keep 104 = .ok (.iastore, 1) := by decide +kernel
theorem dX11_keep_105 : decode cX11_keep 105 = .ok (.aload_n 0, 1) := by decide +kernel
theorem dX11_keep_106 : decode cX11_keep 106 = .ok (.getfield 74, 3) := by decide +kernel
theorem dX11_keep_109 : decode cX11_keep 109 = .ok (.iload_n 1, 1) := by decide +kernel
theorem dX11_keep_110 : decode cX11_keep 110 = .ok (.aload_n 0, 1) := by decide +kernel
theorem dX11_keep_111 : decode cX11_keep 111 = .ok (.getfield 74, 3) := by decide +kernel
theorem dX11_keep_114 : decode cX11_keep 114 = .ok (.bipush 24, 2) := by decide +kernel
theorem dX11_keep_116 : decode cX11_keep 116 = .ok (.iload_n 1, 1) := by decide +kernel
theorem dX11_keep_117 : decode cX11_keep 117 = .ok (.iadd, 1) := by decide +kernel
theorem dX11_keep_118 : decode cX11_keep 118 = .ok (.iaload, 1) := by decide +kernel
theorem dX11_keep_119 : decode cX11_keep 119 = .ok (.iastore, 1) := by decide +kernel
theorem dX11_keep_120 : decode cX11_keep 120 = .ok (.aload_n 0, 1) := by decide +kernel
theorem dX11_keep_121 : decode cX11_keep 121 = .ok (.getfield 77, 3) := by decide +kernel
theorem dX11_keep_124 : decode cX11_keep 124 = .ok (.iload_n 1, 1) := by decide +kernel
theorem dX11_keep_125 : decode cX11_keep 125 = .ok (.aload_n 0, 1) := by decide +kernel
theorem dX11_keep_126 : decode cX11_keep 126 = .ok (.getfield 77, 3) := by decide +kernel
theorem dX11_keep_129 : decode cX11_keep 129 = .ok (.bipush 24, 2) := by decide +kernel
theorem dX11_keep_131 : decode cX11_keep 131 = .ok (.iload_n 1, 1) := by decide +kernel
theorem dX11_keep_132 : decode cX11_keep 132 = .ok (.iadd, 1) := by decide +kernel
theorem dX11_keep_133 : decode cX11_keep 133 = .ok (.iaload, 1) := by decide +kernel
theorem dX11_keep_134 : decode cX11_keep 134 = .ok (.iastore, 1) := by decide +kernel
theorem dX11_keep_135 : decode cX11_keep 135 = .ok (.aload_n 0, 1) := by decide +kernel
theorem dX11_keep_136 : decode cX11_keep 136 = .ok (.getfield 80, 3) := by decide +kernel
theorem dX11_keep_139 : decode cX11_keep 139 = .ok (.iload_n 1, 1) := by decide +kernel
theorem dX11_keep_140 : decode cX11_keep 140 = .ok (.aload_n 0, 1) := by decide +kernel
theorem dX11_keep_141 : decode cX11_keep 141 = .ok (.getfield 80, 3) := by decide +kernel
theorem dX11_keep_144 : decode cX11_keep 144 = .ok (.bipush 24, 2) := by decide +kernel
theorem dX11_keep_146 : decode cX11_keep 146 = .ok (.iload_n 1, 1) := by decide +kernel
theorem dX11_keep_147 : decode cX11_keep 147 = .ok (.iadd, 1) := by decide +kernel
theorem dX11_keep_148 : decode cX11_keep 148 = .ok (.iaload, 1) := by decide +kernel
theorem dX11_keep_149 : decode cX11_keep 149 = .ok (.iastore, 1) := by decide +kernel
theorem dX11_keep_150 : decode cX11_keep 150 = .ok (.aload_n 0, 1) := by decide +kernel
theorem dX11_keep_151 : decode cX11_keep 151 = .ok (.getfield 83, 3) := by decide +kernel
theorem dX11_keep_154 : decode cX11_keep 154 = .ok (.iload_n 1, 1) := by decide +kernel
theorem dX11_keep_155 : decode cX11_keep 155 = .ok (.aload_n 0, 1) := by decide +kernel
theorem dX11_keep_156 : decode cX11_keep 156 = .ok (.getfield 83, 3) := by decide +kernel
theorem dX11_keep_159 : decode cX11_keep 159 = .ok (.bipush 24, 2) := by decide +kernel
theorem dX11_keep_161 : decode cX11_keep 161 = .ok (.iload_n 1, 1) := by decide +kernel
theorem dX11_keep_162 : decode cX11_keep 162 = .ok (.iadd, 1) := by decide +kernel
theorem dX11_keep_163 : decode cX11_keep 163 = .ok (.iaload, 1) := by decide +kernel
theorem dX11_keep_164 : decode cX11_keep 164 = .ok (.iastore, 1) := by decide +kernel
theorem dX11_keep_165 : decode cX11_keep 165 = .ok (.iinc 1 1, 3) := by decide +kernel
theorem dX11_keep_168 : decode cX11_keep 168 = .ok (.goto (-131), 3) := by decide +kernel
theorem dX11_keep_171 : decode cX11_keep 171 = .ok (.return_, 1) := by decide +kernel
theorem dX11_span_0 : decode cX11_span 0 = .ok (.aload_n 0, 1) := by decide +kernel
theorem dX11_span_1 : decode cX11_span 1 = .ok (.iconst 0, 1) := by decide +kernel
theorem dX11_span_2 : decode cX11_span 2 = .ok (.iload_n 1, 1) := by decide +kernel
theorem dX11_span_3 : decode cX11_span 3 = .ok (.invokevirtual 173, 3) := by decide +kernel
theorem dX11_span_6 : decode cX11_span 6 = .ok (.ifCond .ne 5, 3) := by decide +kernel
theorem dX11_span_9 : decode cX11_span 9 = .ok (.iconst 0, 1) := by decide +kernel
theorem dX11_span_10 : decode cX11_span 10 = .ok (.ireturn, 1) := by decide +kernel
theorem dX11_span_11 : decode cX11_span 11 = .ok (.aload_n 0, 1) := by decide +kernel
theorem dX11_span_12 : decode cX11_span 12 = .ok (.aload_n 0, 1) := by decide +kernel
theorem dX11_span_13 : decode cX11_span 13 = .ok (.getfield 158, 3) := by decide +kernel
theorem dX11_span_16 : decode cX11_span 16 = .ok (.putfield 177, 3) := by decide +kernel
theorem dX11_span_19 : decode cX11_span 19 = .ok (.aload_n 0, 1) := by decide +kernel
theorem dX11_span_20 : decode cX11_span 20 = .ok (.invokevirtual 180, 3) := by decide +kernel
theorem dX11_span_23 : decode cX11_span 23 = .ok (.aload_n 0, 1) := by decide +kernel
theorem dX11_span_24 : decode cX11_span 24 = .ok (.bipush 13, 2) := by decide +kernel
theorem dX11_span_26 : decode cX11_span 26 = .ok (.invokevirtual 183, 3) := by decide +kernel
theorem dX11_span_29 : decode cX11_span 29 = .ok (.ifCond .ne 9, 3) := by decide +kernel
theorem dX11_span_32 : decode cX11_span 32 = .ok (.aload_n 0, 1) := by decide +kernel
theorem dX11_span_33 : decode cX11_span 33 = .ok (.iconst 1, 1) := by decide +kernel
theorem dX11_span_34 : decode cX11_span 34 = .ok (.invokevirtual 164, 3) := by decide +kernel
theorem dX11_span_37 : decode cX11_span 37 = .ok (.ireturn, 1) := by decide +kernel
theorem dX11_span_38 : decode cX11_span 38 = .ok (.aload_n 0, 1) := by decide +kernel
theorem dX11_span_39 : decode cX11_span 39 = .ok (.invokevirtual 180, 3) := by decide +kernel
theorem dX11_span_42 : decode cX11_span 42 = .ok (.aload_n 0, 1) := by decide +kernel
theorem dX11_span_43 : decode cX11_span 43 = .ok (.aload_n 0, 1) := by decide +kernel
theorem dX11_span_44 : decode cX11_span 44 = .ok (.getfield 177, 3) := by decide +kernel
theorem dX11_span_47 : decode cX11_span 47 = .ok (.iload_n 1, 1) := by decide +kernel
theorem dX11_span_48 : decode cX11_span 48 = .ok (.invokevirtual 173, 3) := by decide +kernel
theorem dX11_span_51 : decode cX11_span 51 = .ok (.ifCond .ne 5, 3) := by decide +kernel
theorem dX11_span_54 : decode cX11_span 54 = .ok (.iconst 0, 1) := by decide +kernel
theorem dX11_span_55 : decode cX11_span 55 = .ok (.ireturn, 1) := by decide +kernel
theorem dX11_span_56 : decode cX11_span 56 = .ok (.aload_n 0, 1) := by decide +kernel
theorem dX11_span_57 : decode cX11_span 57 = .ok (.aload_n 0, 1) := by decide +kernel
theorem dX11_span_58 : decode cX11_span 58 = .ok (.getfield 158, 3) := by decide +kernel
theorem dX11_span_61 : decode cX11_span 61 = .ok (.putfield 186, 3) := by decide +kernel
theorem dX11_span_64 : decode cX11_span 64 = .ok (.aload_n 0, 1) := by decide +kernel
theorem dX11_span_65 : decode cX11_span 65 = .ok (.invokevirtual 180, 3) := by decide +kernel
theorem dX11_span_68 : decode cX11_span 68 = .ok (.iconst 1, 1) := by decide +kernel
theorem dX11_span_69 : decode cX11_span 69 = .ok (.ireturn, 1) := by decide +kernel
theorem dX11_classRow_0 : decode cX11_classRow 0 = .ok (.aload_n 0, 1) := by decide +kernel
theorem dX11_classRow_1 : decode cX11_classRow 1 = .ok (.iconst 0, 1) := by decide +kernel
theorem dX11_classRow_2 : decode cX11_classRow 2 = .ok (.iconst 3, 1) := by decide +kernel
theorem dX11_classRow_3 : decode cX11_classRow 3 = .ok (.invokevirtual 173, 3) := by decide +kernel
theorem dX11_classRow_6 : decode cX11_classRow 6 = .ok (.ifCond .ne 5, 3) := by decide +kernel
theorem dX11_classRow_9 : decode cX11_classRow 9 = .ok (.iconst 0, 1) := by decide +kernel
theorem dX11_classRow_10 : decode cX11_classRow 10 = .ok (.ireturn, 1) := by decide +kernel
theorem dX11_classRow_11 : decode cX11_classRow 11 = .ok (.aload_n 0, 1) := by decide +kernel
theorem dX11_classRow_12 : decode cX11_classRow 12 = .ok (.getfield 74, 3) := by decide +kernel
theorem dX11_classRow_15 : decode cX11_classRow 15 = .ok (.iload_n 1, 1) := by decide +kernel
theorem dX11_classRow_16 : decode cX11_classRow 16 = .ok (.iaload, 1) := by decide +kernel
theorem dX11_classRow_17 : decode cX11_classRow 17 = .ok (.aload_n 0, 1) := by decide +kernel
theorem dX11_classRow_18 : decode cX11_classRow 18 = .ok (.getfield 158, 3) := by decide +kernel
theorem dX11_classRow_21 : decode cX11_classRow 21 = .ok (.ishr, 1) := by decide +kernel
theorem dX11_classRow_22 : decode cX11_classRow 22 = .ok (.iconst 1, 1) := by decide +kernel
theorem dX11_classRow_23 : decode cX11_classRow 23 = .ok (.iand, 1) := by decide +kernel
theorem dX11_classRow_24 : decode cX11_classRow 24 = .ok (.iconst 1, 1) := by decide +kernel
theorem dX11_classRow_25 : decode cX11_classRow 25 = .ok (.if_icmp .ne 9, 3) := by decide +kernel
theorem dX11_classRow_28 : decode cX11_classRow 28 = .ok (.aload_n 0, 1) := by decide +kernel
theorem dX11_classRow_29 : decode cX11_classRow 29 = .ok (.iconst 3, 1) := by decide +kernel
theorem dX11_classRow_30 : decode cX11_classRow 30 = .ok (.invokevirtual 164, 3) := by decide +kernel
theorem dX11_classRow_33 : decode cX11_classRow 33 = .ok (.ireturn, 1) := by decide +kernel
theorem dX11_classRow_34 : decode cX11_classRow 34 = .ok (.aload_n 0, 1) := by decide +kernel
theorem dX11_classRow_35 : decode cX11_classRow 35 = .ok (.getfield 74, 3) := by decide +kernel
theorem dX11_classRow_38 : decode cX11_classRow 38 = .ok (.iload_n 1, 1) := by decide +kernel
theorem dX11_classRow_39 : decode cX11_classRow 39 = .ok (.dup2, 1) := by decide +kernel
theorem dX11_classRow_40 : decode cX11_classRow 40 = .ok (.iaload, 1) := by decide +kernel
theorem dX11_classRow_41 : decode cX11_classRow 41 = .ok (.iconst 1, 1) := by decide +kernel
theorem dX11_classRow_42 : decode cX11_classRow 42 = .ok (.aload_n 0, 1) := by decide +kernel
theorem dX11_classRow_43 : decode cX11_classRow 43 = .ok (.getfield 158, 3) := by decide +kernel
theorem dX11_classRow_46 : decode cX11_classRow 46 = .ok (.ishl, 1) := by decide +kernel
theorem dX11_classRow_47 : decode cX11_classRow 47 = .ok (.ior, 1) := by decide +kernel
theorem dX11_classRow_48 : decode cX11_classRow 48 = .ok (.iastore, 1) := by decide +kernel
theorem dX11_classRow_49 : decode cX11_classRow 49 = .ok (.aload_n 0, 1) := by decide +kernel
theorem dX11_classRow_50 : decode cX11_classRow 50 = .ok (.invokevirtual 180, 3) := by decide +kernel
theorem dX11_classRow_53 : decode cX11_classRow 53 = .ok (.aload_n 0, 1) := by decide +kernel
theorem dX11_classRow_54 : decode cX11_classRow 54 = .ok (.bipush 14, 2) := by decide +kernel
theorem dX11_classRow_56 : decode cX11_classRow 56 = .ok (.invokevirtual 183, 3) := by decide +kernel
theorem dX11_classRow_59 : decode cX11_classRow 59 = .ok (.ifCond .ne 5, 3) := by decide +kernel
theorem dX11_classRow_62 : decode cX11_classRow 62 = .ok (.iconst 1, 1) := by decide +kernel
theorem dX11_classRow_63 : decode cX11_classRow 63 = .ok (.ireturn, 1) := by decide +kernel
theorem dX11_classRow_64 : decode cX11_classRow 64 = .ok (.aload_n 0, 1) := by decide +kernel
theorem dX11_classRow_65 : decode cX11_classRow 65 = .ok (.invokevirtual 180, 3) := by decide +kernel
theorem dX11_classRow_68 : decode cX11_classRow 68 = .ok (.goto (-68), 3) := by decide +kernel
theorem dX11_whom_0 : decode cX11_whom 0 = .ok (.iconst 0, 1) := by decide +kernel
theorem dX11_whom_1 : decode cX11_whom 1 = .ok (.istore_n 2, 1) := by decide +kernel
theorem dX11_whom_2 : decode cX11_whom 2 = .ok (.iconst 0, 1) := by decide +kernel
theorem dX11_whom_3 : decode cX11_whom 3 = .ok (.istore_n 3, 1) := by decide +kernel
theorem dX11_whom_4 : decode cX11_whom 4 = .ok (.aload_n 0, 1) := by decide +kernel
theorem dX11_whom_5 : decode cX11_whom 5 = .ok (.getfield 68, 3) := by decide +kernel
theorem dX11_whom_8 : decode cX11_whom 8 = .ok (.iload_n 1, 1) := by decide +kernel
theorem dX11_whom_9 : decode cX11_whom 9 = .ok (.iconst 0, 1) := by decide +kernel
theorem dX11_whom_10 : decode cX11_whom 10 = .ok (.iastore, 1) := by decide +kernel
theorem dX11_whom_11 : decode cX11_whom 11 = .ok (.aload_n 0, 1) := by decide +kernel
theorem dX11_whom_12 : decode cX11_whom 12 = .ok (.getfield 71, 3) := by decide +kernel
theorem dX11_whom_15 : decode cX11_whom 15 = .ok (.iload_n 1, 1) := by decide +kernel
theorem dX11_whom_16 : decode cX11_whom 16 = .ok (.sipush 1000, 3) := by decide +kernel
theorem dX11_whom_19 : decode cX11_whom 19 = .ok (.iastore, 1) := by decide +kernel
theorem dX11_whom_20 : decode cX11_whom 20 = .ok (.aload_n 0, 1) := by decide +kernel
theorem dX11_whom_21 : decode cX11_whom 21 = .ok (.getfield 74, 3) := by decide +kernel
theorem dX11_whom_24 : decode cX11_whom 24 = .ok (.iload_n 1, 1) := by decide +kernel
theorem dX11_whom_25 : decode cX11_whom 25 = .ok (.iconst 0, 1) := by decide +kernel
theorem dX11_whom_26 : decode cX11_whom 26 = .ok (.iastore, 1) := by decide +kernel
theorem dX11_whom_27 : decode cX11_whom 27 = .ok (.aload_n 0, 1) := by decide +kernel
theorem dX11_whom_28 : decode cX11_whom 28 = .ok (.getfield 77, 3) := by decide +kernel
theorem dX11_whom_31 : decode cX11_whom 31 = .ok (.iload_n 1, 1) := by decide +kernel
theorem dX11_whom_32 : decode cX11_whom 32 = .ok (.iconst 0, 1) := by decide +kernel
theorem dX11_whom_33 : decode cX11_whom 33 = .ok (.iastore, 1) := by decide +kernel
theorem dX11_whom_34 : decode cX11_whom 34 = .ok (.aload_n 0, 1) := by decide +kernel
theorem dX11_whom_35 : decode cX11_whom 35 = .ok (.getfield 80, 3) := by decide +kernel
theorem dX11_whom_38 : decode cX11_whom 38 = .ok (.iload_n 1, 1) := by decide +kernel
theorem dX11_whom_39 : decode cX11_whom 39 = .ok (.sipush 1000, 3) := by decide +kernel
theorem dX11_whom_42 : decode cX11_whom 42 = .ok (.iastore, 1) := by decide +kernel
theorem dX11_whom_43 : decode cX11_whom 43 = .ok (.aload_n 0, 1) := by decide +kernel
theorem dX11_whom_44 : decode cX11_whom 44 = .ok (.getfield 83, 3) := by decide +kernel
theorem dX11_whom_47 : decode cX11_whom 47 = .ok (.iload_n 1, 1) := by decide +kernel
theorem dX11_whom_48 : decode cX11_whom 48 = .ok (.iconst 0, 1) := by decide +kernel
theorem dX11_whom_49 : decode cX11_whom 49 = .ok (.iastore, 1) := by decide +kernel
theorem dX11_whom_50 : decode cX11_whom 50 = .ok (.aload_n 0, 1) := by decide +kernel
theorem dX11_whom_51 : decode cX11_whom 51 = .ok (.getfield 147, 3) := by decide +kernel
theorem dX11_whom_54 : decode cX11_whom 54 = .ok (.iconst 1, 1) := by decide +kernel
theorem dX11_whom_55 : decode cX11_whom 55 = .ok (.if_icmp .ne 267, 3) := by decide +kernel
theorem dX11_whom_58 : decode cX11_whom 58 = .ok (.aload_n 0, 1) := by decide +kernel
theorem dX11_whom_59 : decode cX11_whom 59 = .ok (.getfield 158, 3) := by decide +kernel
theorem dX11_whom_62 : decode cX11_whom 62 = .ok (.bipush 8, 2) := by decide +kernel
theorem dX11_whom_64 : decode cX11_whom 64 = .ok (.if_icmp .lt 258, 3) := by decide +kernel
theorem dX11_whom_67 : decode cX11_whom 67 = .ok (.aload_n 0, 1) := by decide +kernel
theorem dX11_whom_68 : decode cX11_whom 68 = .ok (.getfield 158, 3) := by decide +kernel
theorem dX11_whom_71 : decode cX11_whom 71 = .ok (.bipush 12, 2) := by decide +kernel
theorem dX11_whom_73 : decode cX11_whom 73 = .ok (.if_icmp .gt 249, 3) := by decide +kernel
theorem dX11_whom_76 : decode cX11_whom 76 = .ok (.aload_n 0, 1) := by decide +kernel
theorem dX11_whom_77 : decode cX11_whom 77 = .ok (.getfield 158, 3) := by decide +kernel
theorem dX11_whom_80 : decode cX11_whom 80 = .ok (.istore 4, 2) := by decide +kernel
theorem dX11_whom_82 : decode cX11_whom 82 = .ok (.iload 4, 2) := by decide +kernel
theorem dX11_whom_84 : decode cX11_whom 84 = .ok (.bipush 8, 2) := by decide +kernel
theorem dX11_whom_86 : decode cX11_whom 86 = .ok (.if_icmp .ne 7, 3) := by decide +kernel
theorem dX11_whom_89 : decode cX11_whom 89 = .ok (.iload_n 2, 1) := by decide +kernel
theorem dX11_whom_90 : decode cX11_whom 90 = .ok (.goto 52, 3) := by decide +kernel
theorem dX11_whom_93 : decode cX11_whom 93 = .ok (.iload 4, 2) := by decide +kernel
theorem dX11_whom_95 : decode cX11_whom 95 = .ok (.bipush 9, 2) := by decide +kernel
theorem dX11_whom_97 : decode cX11_whom 97 = .ok (.if_icmp .ne 20, 3) := by decide +kernel
theorem dX11_whom_100 : decode cX11_whom 100 = .ok (.aload_n 0, 1) := by decide +kernel
theorem dX11_whom_101 : decode cX11_whom 101 = .ok (.getfield 74, 3) := by decide +kernel
theorem dX11_whom_104 : decode cX11_whom 104 = .ok (.iload_n 1, 1) := by decide +kernel
theorem dX11_whom_105 : decode cX11_whom 105 = .ok (.iaload, 1) := by decide +kernel
theorem dX11_whom_106 : decode cX11_whom 106 = .ok (.ifCond .le 7, 3) := by decide +kernel
theorem dX11_whom_109 : decode cX11_whom 109 = .ok (.iconst 1, 1) := by decide +kernel
theorem dX11_whom_110 : decode cX11_whom 110 = .ok (.goto 32, 3) := by decide +kernel
theorem dX11_whom_113 : decode cX11_whom 113 = .ok (.iconst 0, 1) := by decide +kernel
theorem dX11_whom_114 : decode cX11_whom 114 = .ok (.goto 28, 3) := by decide +kernel
theorem dX11_whom_117 : decode cX11_whom 117 = .ok (.iload 4, 2) := by decide +kernel
theorem dX11_whom_119 : decode cX11_whom 119 = .ok (.bipush 10, 2) := by decide +kernel
theorem dX11_whom_121 : decode cX11_whom 121 = .ok (.if_icmp .ne 7, 3) := by decide +kernel
theorem dX11_whom_124 : decode cX11_whom 124 = .ok (.iload_n 3, 1) := by decide +kernel
theorem dX11_whom_125 : decode cX11_whom 125 = .ok (.goto 17, 3) := by decide +kernel
theorem dX11_whom_128 : decode cX11_whom 128 = .ok (.aload_n 0, 1) := by decide +kernel
theorem dX11_whom_129 : decode cX11_whom 129 = .ok (.getfield 83, 3) := by decide +kernel
theorem dX11_whom_132 : decode cX11_whom 132 = .ok (.iload_n 1, 1) := by decide +kernel
theorem dX11_whom_133 : decode cX11_whom 133 = .ok (.iaload, 1) := by decide +kernel
theorem dX11_whom_134 : decode cX11_whom 134 = .ok (.ifCond .le 7, 3) := by decide +kernel
theorem dX11_whom_137 : decode cX11_whom 137 = .ok (.iconst 1, 1) := by decide +kernel
theorem dX11_whom_138 : decode cX11_whom 138 = .ok (.goto 4, 3) := by decide +kernel
theorem dX11_whom_141 : decode cX11_whom 141 = .ok (.iconst 0, 1) := by decide +kernel
theorem dX11_whom_142 : decode cX11_whom 142 = .ok (.istore 5, 2) := by decide +kernel
theorem dX11_whom_144 : decode cX11_whom 144 = .ok (.iload 5, 2) := by decide +kernel
theorem dX11_whom_146 : decode cX11_whom 146 = .ok (.ifCond .eq 9, 3) := by decide +kernel
theorem dX11_whom_149 : decode cX11_whom 149 = .ok (.aload_n 0, 1) := by decide +kernel
theorem dX11_whom_150 : decode cX11_whom 150 = .ok (.iconst 3, 1) := by decide +kernel
theorem dX11_whom_151 : decode cX11_whom 151 = .ok (.invokevirtual 164, 3) := by decide +kernel
theorem dX11_whom_154 : decode cX11_whom 154 = .ok (.ireturn, 1) := by decide +kernel
theorem dX11_whom_155 : decode cX11_whom 155 = .ok (.aload_n 0, 1) := by decide +kernel
theorem dX11_whom_156 : decode cX11_whom 156 = .ok (.invokevirtual 180, 3) := by decide +kernel
theorem dX11_whom_159 : decode cX11_whom 159 = .ok (.iload 4, 2) := by decide +kernel
theorem dX11_whom_161 : decode cX11_whom 161 = .ok (.bipush 8, 2) := by decide +kernel
theorem dX11_whom_163 : decode cX11_whom 163 = .ok (.if_icmp .eq 10, 3) := by decide +kernel
theorem dX11_whom_166 : decode cX11_whom 166 = .ok (.iload 4, 2) := by decide +kernel
theorem dX11_whom_168 : decode cX11_whom 168 = .ok (.bipush 10, 2) := by decide +kernel
theorem dX11_whom_170 : decode cX11_whom 170 = .ok (.if_icmp .ne 114, 3) := by decide +kernel
theorem dX11_whom_173 : decode cX11_whom 173 = .ok (.aload_n 0, 1) := by decide +kernel
theorem dX11_whom_174 : decode cX11_whom 174 = .ok (.iload 4, 2) := by decide +kernel
theorem dX11_whom_176 : decode cX11_whom 176 = .ok (.bipush 8, 2) := by decide +kernel
theorem dX11_whom_178 : decode cX11_whom 178 = .ok (.if_icmp .ne 9, 3) := by decide +kernel
theorem dX11_whom_181 : decode cX11_whom 181 = .ok (.sipush 130, 3) := by decide +kernel
theorem dX11_whom_184 : decode cX11_whom 184 = .ok (.goto 5, 3) := by decide +kernel
theorem dX11_whom_187 : decode cX11_whom 187 = .ok (.bipush 79, 2) := by decide +kernel
theorem dX11_whom_189 : decode cX11_whom 189 = .ok (.invokevirtual 189, 3) := by decide +kernel
theorem dX11_whom_192 : decode cX11_whom 192 = .ok (.ifCond .ne 5, 3) := by decide +kernel
theorem dX11_whom_195 : decode cX11_whom 195 = .ok (.iconst 0, 1) := by decide +kernel
theorem dX11_whom_196 : decode cX11_whom 196 = .ok (.ireturn, 1) := by decide +kernel
theorem dX11_whom_197 : decode cX11_whom 197 = .ok (.iload_n 2, 1) := by decide +kernel
theorem dX11_whom_198 : decode cX11_whom 198 = .ok (.ifCond .ne 10, 3) := by decide +kernel
theorem dX11_whom_201 : decode cX11_whom 201 = .ok (.iload 4, 2) := by decide +kernel
theorem dX11_whom_203 : decode cX11_whom 203 = .ok (.bipush 8, 2) := by decide +kernel
theorem dX11_whom_205 : decode cX11_whom 205 = .ok (.if_icmp .ne 7, 3) := by decide +kernel
theorem dX11_whom_208 : decode cX11_whom 208 = .ok (.iconst 1, 1) := by decide +kernel
theorem dX11_whom_209 : decode cX11_whom 209 = .ok (.goto 4, 3) := by decide +kernel
theorem dX11_whom_212 : decode cX11_whom 212 = .ok (.iconst 0, 1) := by decide +kernel
theorem dX11_whom_213 : decode cX11_whom 213 = .ok (.istore_n 2, 1) := by decide +kernel
theorem dX11_whom_214 : decode cX11_whom 214 = .ok (.iload_n 3, 1) := by decide +kernel
theorem dX11_whom_215 : decode cX11_whom 215 = .ok (.ifCond .ne 10, 3) := by decide +kernel
theorem dX11_whom_218 : decode cX11_whom 218 = .ok (.iload 4, 2) := by decide +kernel
theorem dX11_whom_220 : decode cX11_whom 220 = .ok (.bipush 10, 2) := by decide +kernel
theorem dX11_whom_222 : decode cX11_whom 222 = .ok (.if_icmp .ne 7, 3) := by decide +kernel
theorem dX11_whom_225 : decode cX11_whom 225 = .ok (.iconst 1, 1) := by decide +kernel
theorem dX11_whom_226 : decode cX11_whom 226 = .ok (.goto 4, 3) := by decide +kernel
theorem dX11_whom_229 : decode cX11_whom 229 = .ok (.iconst 0, 1) := by decide +kernel
theorem dX11_whom_230 : decode cX11_whom 230 = .ok (.istore_n 3, 1) := by decide +kernel
theorem dX11_whom_231 : decode cX11_whom 231 = .ok (.iload 4, 2) := by decide +kernel
theorem dX11_whom_233 : decode cX11_whom 233 = .ok (.bipush 8, 2) := by decide +kernel
theorem dX11_whom_235 : decode cX11_whom 235 = .ok (.if_icmp .ne 26, 3) := by decide +kernel
theorem dX11_whom_238 : decode cX11_whom 238 = .ok (.aload_n 0, 1) := by decide +kernel
theorem dX11_whom_239 : decode cX11_whom 239 = .ok (.getfield 68, 3) := by decide +kernel
theorem dX11_whom_242 : decode cX11_whom 242 = .ok (.iload_n 1, 1) := by decide +kernel
theorem dX11_whom_243 : decode cX11_whom 243 = .ok (.aload_n 0, 1) := by decide +kernel
theorem dX11_whom_244 : decode cX11_whom 244 = .ok (.getfield 177, 3) := by decide +kernel
theorem dX11_whom_247 : decode cX11_whom 247 = .ok (.iastore, 1) := by decide +kernel
theorem dX11_whom_248 : decode cX11_whom 248 = .ok (.aload_n 0, 1) := by decide +kernel
theorem dX11_whom_249 : decode cX11_whom 249 = .ok (.getfield 71, 3) := by decide +kernel
theorem dX11_whom_252 : decode cX11_whom 252 = .ok (.iload_n 1, 1) := by decide +kernel
theorem dX11_whom_253 : decode cX11_whom 253 = .ok (.aload_n 0, 1) := by decide +kernel
theorem dX11_whom_254 : decode cX11_whom 254 = .ok (.getfield 186, 3) := by decide +kernel
theorem dX11_whom_257 : decode cX11_whom 257 = .ok (.iastore, 1) := by decide +kernel
theorem dX11_whom_258 : decode cX11_whom 258 = .ok (.goto 61, 3) := by decide +kernel
theorem dX11_whom_261 : decode cX11_whom 261 = .ok (.aload_n 0, 1) := by decide +kernel
theorem dX11_whom_262 : decode cX11_whom 262 = .ok (.getfield 77, 3) := by decide +kernel
theorem dX11_whom_265 : decode cX11_whom 265 = .ok (.iload_n 1, 1) := by decide +kernel
theorem dX11_whom_266 : decode cX11_whom 266 = .ok (.aload_n 0, 1) := by decide +kernel
theorem dX11_whom_267 : decode cX11_whom 267 = .ok (.getfield 177, 3) := by decide +kernel
theorem dX11_whom_270 : decode cX11_whom 270 = .ok (.iastore, 1) := by decide +kernel
theorem dX11_whom_271 : decode cX11_whom 271 = .ok (.aload_n 0, 1) := by decide +kernel
theorem dX11_whom_272 : decode cX11_whom 272 = .ok (.getfield 80, 3) := by decide +kernel
theorem dX11_whom_275 : decode cX11_whom 275 = .ok (.iload_n 1, 1) := by decide +kernel
theorem dX11_whom_276 : decode cX11_whom 276 = .ok (.aload_n 0, 1) := by decide +kernel
theorem dX11_whom_277 : decode cX11_whom 277 = .ok (.getfield 186, 3) := by decide +kernel
theorem dX11_whom_280 : decode cX11_whom 280 = .ok (.iastore, 1) := by decide +kernel
theorem dX11_whom_281 : decode cX11_whom 281 = .ok (.goto 38, 3) := by decide +kernel
theorem dX11_whom_284 : decode cX11_whom 284 = .ok (.iload 4, 2) := by decide +kernel
theorem dX11_whom_286 : decode cX11_whom 286 = .ok (.bipush 9, 2) := by decide +kernel
theorem dX11_whom_288 : decode cX11_whom 288 = .ok (.if_icmp .ne 13, 3) := by decide +kernel
theorem dX11_whom_291 : decode cX11_whom 291 = .ok (.aload_n 0, 1) := by decide +kernel
theorem dX11_whom_292 : decode cX11_whom 292 = .ok (.iload_n 1, 1) := by decide +kernel
theorem dX11_whom_293 : decode cX11_whom 293 = .ok (.invokevirtual 192, 3) := by decide +kernel
theorem dX11_whom_296 : decode cX11_whom 296 = .ok (.ifCond .ne 23, 3) := by decide +kernel
theorem dX11_whom_299 : decode cX11_whom 299 = .ok (.iconst 0, 1) := by decide +kernel
theorem dX11_whom_300 : decode cX11_whom 300 = .ok (.ireturn, 1) := by decide +kernel
theorem dX11_whom_301 : decode cX11_whom 301 = .ok (.aload_n 0, 1) := by decide +kernel
theorem dX11_whom_302 : decode cX11_whom 302 = .ok (.getfield 83, 3) := by decide +kernel
theorem dX11_whom_305 : decode cX11_whom 305 = .ok (.iload_n 1, 1) := by decide +kernel
theorem dX11_whom_306 : decode cX11_whom 306 = .ok (.iload 4, 2) := by decide +kernel
theorem dX11_whom_308 : decode cX11_whom 308 = .ok (.bipush 11, 2) := by decide +kernel
theorem dX11_whom_310 : decode cX11_whom 310 = .ok (.if_icmp .ne 7, 3) := by decide +kernel
theorem dX11_whom_313 : decode cX11_whom 313 = .ok (.iconst 1, 1) := by decide +kernel
theorem dX11_whom_314 : decode cX11_whom 314 = .ok (.goto 4, 3) := by decide +kernel
theorem dX11_whom_317 : decode cX11_whom 317 = .ok (.iconst 2, 1) := by decide +kernel
theorem dX11_whom_318 : decode cX11_whom 318 = .ok (.iastore, 1) := by decide +kernel
theorem dX11_whom_319 : decode cX11_whom 319 = .ok (.goto (-269), 3) := by decide +kernel
theorem dX11_whom_322 : decode cX11_whom 322 = .ok (.aload_n 0, 1) := by decide +kernel
theorem dX11_whom_323 : decode cX11_whom 323 = .ok (.getfield 74, 3) := by decide +kernel
theorem dX11_whom_326 : decode cX11_whom 326 = .ok (.iload_n 1, 1) := by decide +kernel
theorem dX11_whom_327 : decode cX11_whom 327 = .ok (.iaload, 1) := by decide +kernel
theorem dX11_whom_328 : decode cX11_whom 328 = .ok (.ifCond .ne 11, 3) := by decide +kernel
theorem dX11_whom_331 : decode cX11_whom 331 = .ok (.aload_n 0, 1) := by decide +kernel
theorem dX11_whom_332 : decode cX11_whom 332 = .ok (.getfield 74, 3) := by decide +kernel
theorem dX11_whom_335 : decode cX11_whom 335 = .ok (.iload_n 1, 1) := by decide +kernel
theorem dX11_whom_336 : decode cX11_whom 336 = .ok (.bipush 15, 2) := by decide +kernel
theorem dX11_whom_338 : decode cX11_whom 338 = .ok (.iastore, 1) := by decide +kernel
theorem dX11_whom_339 : decode cX11_whom 339 = .ok (.iconst 1, 1) := by decide +kernel
theorem dX11_whom_340 : decode cX11_whom 340 = .ok (.ireturn, 1) := by decide +kernel
theorem dX11_ofWhom_0 : decode cX11_ofWhom 0 = .ok (.aload_n 0, 1) := by decide +kernel
theorem dX11_ofWhom_1 : decode cX11_ofWhom 1 = .ok (.getfield 167, 3) := by decide +kernel
theorem dX11_ofWhom_4 : decode cX11_ofWhom 4 = .ok (.bipush 24, 2) := by decide +kernel
theorem dX11_ofWhom_6 : decode cX11_ofWhom 6 = .ok (.if_icmp .ne 9, 3) := by decide +kernel
theorem dX11_ofWhom_9 : decode cX11_ofWhom 9 = .ok (.aload_n 0, 1) := by decide +kernel
theorem dX11_ofWhom_10 : decode cX11_ofWhom 10 = .ok (.iconst 2, 1) := by decide +kernel
theorem dX11_ofWhom_11 : decode cX11_ofWhom 11 = .ok (.invokevirtual 164, 3) := by decide +kernel
theorem dX11_ofWhom_14 : decode cX11_ofWhom 14 = .ok (.ireturn, 1) := by decide +kernel
theorem dX11_ofWhom_15 : decode cX11_ofWhom 15 = .ok (.bipush 24, 2) := by decide +kernel
theorem dX11_ofWhom_17 : decode cX11_ofWhom 17 = .ok (.aload_n 0, 1) := by decide +kernel
theorem dX11_ofWhom_18 : decode cX11_ofWhom 18 = .ok (.getfield 167, 3) := by decide +kernel
theorem dX11_ofWhom_21 : decode cX11_ofWhom 21 = .ok (.iadd, 1) := by decide +kernel
theorem dX11_ofWhom_22 : decode cX11_ofWhom 22 = .ok (.istore_n 2, 1) := by decide +kernel
theorem dX11_ofWhom_23 : decode cX11_ofWhom 23 = .ok (.aload_n 0, 1) := by decide +kernel
theorem dX11_ofWhom_24 : decode cX11_ofWhom 24 = .ok (.getfield 62, 3) := by decide +kernel
theorem dX11_ofWhom_27 : decode cX11_ofWhom 27 = .ok (.iload_n 2, 1) := by decide +kernel
theorem dX11_ofWhom_28 : decode cX11_ofWhom 28 = .ok (.iload_n 1, 1) := by decide +kernel
theorem dX11_ofWhom_29 : decode cX11_ofWhom 29 = .ok (.iastore, 1) := by decide +kernel
theorem dX11_ofWhom_30 : decode cX11_ofWhom 30 = .ok (.aload_n 0, 1) := by decide +kernel
theorem dX11_ofWhom_31 : decode cX11_ofWhom 31 = .ok (.getfield 65, 3) := by decide +kernel
theorem dX11_ofWhom_34 : decode cX11_ofWhom 34 = .ok (.iload_n 2, 1) := by decide +kernel
theorem dX11_ofWhom_35 : decode cX11_ofWhom 35 = .ok (.iconst 0, 1) := by decide +kernel
theorem dX11_ofWhom_36 : decode cX11_ofWhom 36 = .ok (.iastore, 1) := by decide +kernel
theorem dX11_ofWhom_37 : decode cX11_ofWhom 37 = .ok (.aload_n 0, 1) := by decide +kernel
theorem dX11_ofWhom_38 : decode cX11_ofWhom 38 = .ok (.invokevirtual 180, 3) := by decide +kernel
theorem dX11_ofWhom_41 : decode cX11_ofWhom 41 = .ok (.iload_n 1, 1) := by decide +kernel
theorem dX11_ofWhom_42 : decode cX11_ofWhom 42 = .ok (.iconst 1, 1) := by decide +kernel
theorem dX11_ofWhom_43 : decode cX11_ofWhom 43 = .ok (.if_icmp .le 50, 3) := by decide +kernel
theorem dX11_ofWhom_46 : decode cX11_ofWhom 46 = .ok (.aload_n 0, 1) := by decide +kernel
theorem dX11_ofWhom_47 : decode cX11_ofWhom 47 = .ok (.iload_n 1, 1) := by decide +kernel
theorem dX11_ofWhom_48 : decode cX11_ofWhom 48 = .ok (.iconst 2, 1) := by decide +kernel
theorem dX11_ofWhom_49 : decode cX11_ofWhom 49 = .ok (.if_icmp .ne 7, 3) := by decide +kernel
theorem dX11_ofWhom_52 : decode cX11_ofWhom 52 = .ok (.iconst 1, 1) := by decide +kernel
theorem dX11_ofWhom_53 : decode cX11_ofWhom 53 = .ok (.goto 4, 3) := by decide +kernel
theorem dX11_ofWhom_56 : decode cX11_ofWhom 56 = .ok (.iconst 0, 1) := by decide +kernel
theorem dX11_ofWhom_57 : decode cX11_ofWhom 57 = .ok (.iload_n 1, 1) := by decide +kernel
theorem dX11_ofWhom_58 : decode cX11_ofWhom 58 = .ok (.iconst 2, 1) := by decide +kernel
theorem dX11_ofWhom_59 : decode cX11_ofWhom 59 = .ok (.if_icmp .ne 9, 3) := by decide +kernel
theorem dX11_ofWhom_62 : decode cX11_ofWhom 62 = .ok (.sipush 9999, 3) := by decide +kernel
theorem dX11_ofWhom_65 : decode cX11_ofWhom 65 = .ok (.goto 6, 3) := by decide +kernel
theorem dX11_ofWhom_68 : decode cX11_ofWhom 68 = .ok (.sipush 200, 3) := by decide +kernel
theorem dX11_ofWhom_71 : decode cX11_ofWhom 71 = .ok (.invokevirtual 173, 3) := by decide +kernel
theorem dX11_ofWhom_74 : decode cX11_ofWhom 74 = .ok (.ifCond .ne 5, 3) := by decide +kernel
theorem dX11_ofWhom_77 : decode cX11_ofWhom 77 = .ok (.iconst 0, 1) := by decide +kernel
theorem dX11_ofWhom_78 : decode cX11_ofWhom 78 = .ok (.ireturn, 1) := by decide +kernel
theorem dX11_ofWhom_79 : decode cX11_ofWhom 79 = .ok (.aload_n 0, 1) := by decide +kernel
theorem dX11_ofWhom_80 : decode cX11_ofWhom 80 = .ok (.getfield 65, 3) := by decide +kernel
theorem dX11_ofWhom_83 : decode cX11_ofWhom 83 = .ok (.iload_n 2, 1) := by decide +kernel
theorem dX11_ofWhom_84 : decode cX11_ofWhom 84 = .ok (.aload_n 0, 1) := by decide +kernel
theorem dX11_ofWhom_85 : decode cX11_ofWhom 85 = .ok (.getfield 158, 3) := by decide +kernel
theorem dX11_ofWhom_88 : decode cX11_ofWhom 88 = .ok (.iastore, 1) := by decide +kernel
theorem dX11_ofWhom_89 : decode cX11_ofWhom 89 = .ok (.aload_n 0, 1) := by decide +kernel
theorem dX11_ofWhom_90 : decode cX11_ofWhom 90 = .ok (.invokevirtual 180, 3) := by decide +kernel
theorem dX11_ofWhom_93 : decode cX11_ofWhom 93 = .ok (.aload_n 0, 1) := by decide +kernel
theorem dX11_ofWhom_94 : decode cX11_ofWhom 94 = .ok (.iload_n 2, 1) := by decide +kernel
theorem dX11_ofWhom_95 : decode cX11_ofWhom 95 = .ok (.invokevirtual 195, 3) := by decide +kernel
theorem dX11_ofWhom_98 : decode cX11_ofWhom 98 = .ok (.ifCond .ne 5, 3) := by decide +kernel
theorem dX11_ofWhom_101 : decode cX11_ofWhom 101 = .ok (.iconst 0, 1) := by decide +kernel
theorem dX11_ofWhom_102 : decode cX11_ofWhom 102 = .ok (.ireturn, 1) := by decide +kernel
theorem dX11_ofWhom_103 : decode cX11_ofWhom 103 = .ok (.aload_n 0, 1) := by decide +kernel
theorem dX11_ofWhom_104 : decode cX11_ofWhom 104 = .ok (.dup, 1) := by decide +kernel
theorem dX11_ofWhom_105 : decode cX11_ofWhom 105 = .ok (.getfield 167, 3) := by decide +kernel
theorem dX11_ofWhom_108 : decode cX11_ofWhom 108 = .ok (.iconst 1, 1) := by decide +kernel
theorem dX11_ofWhom_109 : decode cX11_ofWhom 109 = .ok (.iadd, 1) := by decide +kernel
theorem dX11_ofWhom_110 : decode cX11_ofWhom 110 = .ok (.putfield 167, 3) := by decide +kernel
theorem dX11_ofWhom_113 : decode cX11_ofWhom 113 = .ok (.iconst 1, 1) := by decide +kernel
theorem dX11_ofWhom_114 : decode cX11_ofWhom 114 = .ok (.ireturn, 1) := by decide +kernel
theorem dX11_ofNumber_0 : decode cX11_ofNumber 0 = .ok (.aload_n 0, 1) := by decide +kernel
theorem dX11_ofNumber_1 : decode cX11_ofNumber 1 = .ok (.getfield 89, 3) := by decide +kernel
theorem dX11_ofNumber_4 : decode cX11_ofNumber 4 = .ok (.iload_n 1, 1) := by decide +kernel
theorem dX11_ofNumber_5 : decode cX11_ofNumber 5 = .ok (.baload, 1) := by decide +kernel
theorem dX11_ofNumber_6 : decode cX11_ofNumber 6 = .ok (.ifCond .eq 9, 3) := by decide +kernel
theorem dX11_ofNumber_9 : decode cX11_ofNumber 9 = .ok (.aload_n 0, 1) := by decide +kernel
theorem dX11_ofNumber_10 : decode cX11_ofNumber 10 = .ok (.iconst 3, 1) := by decide +kernel
theorem dX11_ofNumber_11 : decode cX11_ofNumber 11 = .ok (.invokevirtual 164, 3) := by decide +kernel
theorem dX11_ofNumber_14 : decode cX11_ofNumber 14 = .ok (.ireturn, 1) := by decide +kernel
theorem dX11_ofNumber_15 : decode cX11_ofNumber 15 = .ok (.aload_n 0, 1) := by decide +kernel
theorem dX11_ofNumber_16 : decode cX11_ofNumber 16 = .ok (.getfield 89, 3) := by decide +kernel
theorem dX11_ofNumber_19 : decode cX11_ofNumber 19 = .ok (.iload_n 1, 1) := by decide +kernel
theorem dX11_ofNumber_20 : decode cX11_ofNumber 20 = .ok (.iconst 1, 1) := by decide +kernel
theorem dX11_ofNumber_21 : decode cX11_ofNumber 21 = .ok (.bastore, 1) := by decide +kernel
theorem dX11_ofNumber_22 : decode cX11_ofNumber 22 = .ok (.aload_n 0, 1) := by decide +kernel
theorem dX11_ofNumber_23 : decode cX11_ofNumber 23 = .ok (.invokevirtual 180, 3) := by decide +kernel
theorem dX11_ofNumber_26 : decode cX11_ofNumber 26 = .ok (.iload_n 1, 1) := by decide +kernel
theorem dX11_ofNumber_27 : decode cX11_ofNumber 27 = .ok (.iconst 2, 1) := by decide +kernel
theorem dX11_ofNumber_28 : decode cX11_ofNumber 28 = .ok (.if_icmp .ne 7, 3) := by decide +kernel
theorem dX11_ofNumber_31 : decode cX11_ofNumber 31 = .ok (.iconst 2, 1) := by decide +kernel
theorem dX11_ofNumber_32 : decode cX11_ofNumber 32 = .ok (.goto 13, 3) := by decide +kernel
theorem dX11_ofNumber_35 : decode cX11_ofNumber 35 = .ok (.iload_n 1, 1) := by decide +kernel
theorem dX11_ofNumber_36 : decode cX11_ofNumber 36 = .ok (.iconst 3, 1) := by decide +kernel
theorem dX11_ofNumber_37 : decode cX11_ofNumber 37 = .ok (.if_icmp .ne 7, 3) := by decide +kernel
theorem dX11_ofNumber_40 : decode cX11_ofNumber 40 = .ok (.iconst 1, 1) := by decide +kernel
theorem dX11_ofNumber_41 : decode cX11_ofNumber 41 = .ok (.goto 4, 3) := by decide +kernel
theorem dX11_ofNumber_44 : decode cX11_ofNumber 44 = .ok (.iconst 0, 1) := by decide +kernel
theorem dX11_ofNumber_45 : decode cX11_ofNumber 45 = .ok (.istore_n 2, 1) := by decide +kernel
theorem dX11_ofNumber_46 : decode cX11_ofNumber 46 = .ok (.iload_n 1, 1) := by decide +kernel
theorem dX11_ofNumber_47 : decode cX11_ofNumber 47 = .ok (.ifCond .ne 8, 3) := by decide +kernel
theorem dX11_ofNumber_50 : decode cX11_ofNumber 50 = .ok (.bipush 40, 2) := by decide +kernel
theorem dX11_ofNumber_52 : decode cX11_ofNumber 52 = .ok (.goto 24, 3) := by decide +kernel
theorem dX11_ofNumber_55 : decode cX11_ofNumber 55 = .ok (.iload_n 1, 1) := by decide +kernel
theorem dX11_ofNumber_56 : decode cX11_ofNumber 56 = .ok (.iconst 1, 1) := by decide +kernel
theorem dX11_ofNumber_57 : decode cX11_ofNumber 57 = .ok (.if_icmp .ne 8, 3) := by decide +kernel
theorem dX11_ofNumber_60 : decode cX11_ofNumber 60 = .ok (.bipush 9, 2) := by decide +kernel
theorem dX11_ofNumber_62 : decode cX11_ofNumber 62 = .ok (.goto 14, 3) := by decide +kernel
theorem dX11_ofNumber_65 : decode cX11_ofNumber 65 = .ok (.iload_n 1, 1) := by decide +kernel
theorem dX11_ofNumber_66 : decode cX11_ofNumber 66 = .ok (.iconst 2, 1) := by decide +kernel
theorem dX11_ofNumber_67 : decode cX11_ofNumber 67 = .ok (.if_icmp .ne 8, 3) := by decide +kernel
theorem dX11_ofNumber_70 : decode cX11_ofNumber 70 = .ok (.bipush 99, 2) := by decide +kernel
theorem dX11_ofNumber_72 : decode cX11_ofNumber 72 = .ok (.goto 4, 3) := by decide +kernel
theorem dX11_ofNumber_75 : decode cX11_ofNumber 75 = .ok (.iconst 3, 1) := by decide +kernel
theorem dX11_ofNumber_76 : decode cX11_ofNumber 76 = .ok (.istore_n 3, 1) := by decide +kernel
theorem dX11_ofNumber_77 : decode cX11_ofNumber 77 = .ok (.aload_n 0, 1) := by decide +kernel
theorem dX11_ofNumber_78 : decode cX11_ofNumber 78 = .ok (.iload_n 2, 1) := by decide +kernel
theorem dX11_ofNumber_79 : decode cX11_ofNumber 79 = .ok (.iload_n 3, 1) := by decide +kernel
theorem dX11_ofNumber_80 : decode cX11_ofNumber 80 = .ok (.invokevirtual 173, 3) := by decide +kernel
theorem dX11_ofNumber_83 : decode cX11_ofNumber 83 = .ok (.ifCond .ne 5, 3) := by decide +kernel
theorem dX11_ofNumber_86 : decode cX11_ofNumber 86 = .ok (.iconst 0, 1) := by decide +kernel
theorem dX11_ofNumber_87 : decode cX11_ofNumber 87 = .ok (.ireturn, 1) := by decide +kernel
theorem dX11_ofNumber_88 : decode cX11_ofNumber 88 = .ok (.aload_n 0, 1) := by decide +kernel
theorem dX11_ofNumber_89 : decode cX11_ofNumber 89 = .ok (.getfield 86, 3) := by decide +kernel
theorem dX11_ofNumber_92 : decode cX11_ofNumber 92 = .ok (.iconst 4, 1) := by decide +kernel
theorem dX11_ofNumber_93 : decode cX11_ofNumber 93 = .ok (.iload_n 1, 1) := by decide +kernel
theorem dX11_ofNumber_94 : decode cX11_ofNumber 94 = .ok (.iadd, 1) := by decide +kernel
theorem dX11_ofNumber_95 : decode cX11_ofNumber 95 = .ok (.aload_n 0, 1) := by decide +kernel
theorem dX11_ofNumber_96 : decode cX11_ofNumber 96 = .ok (.getfield 158, 3) := by decide +kernel
theorem dX11_ofNumber_99 : decode cX11_ofNumber 99 = .ok (.iastore, 1) := by decide +kernel
theorem dX11_ofNumber_100 : decode cX11_ofNumber 100 = .ok (.aload_n 0, 1) := by decide +kernel
theorem dX11_ofNumber_101 : decode cX11_ofNumber 101 = .ok (.invokevirtual 180, 3) := by decide +kernel
theorem dX11_ofNumber_104 : decode cX11_ofNumber 104 = .ok (.iconst 1, 1) := by decide +kernel
theorem dX11_ofNumber_105 : decode cX11_ofNumber 105 = .ok (.ireturn, 1) := by decide +kernel
theorem dX11_acts_0 : decode cX11_acts 0 = .ok (.aload_n 0, 1) := by decide +kernel
theorem dX11_acts_1 : decode cX11_acts 1 = .ok (.iconst 0, 1) := by decide +kernel
theorem dX11_acts_2 : decode cX11_acts 2 = .ok (.putfield 129, 3) := by decide +kernel
theorem dX11_acts_5 : decode cX11_acts 5 = .ok (.iload_n 1, 1) := by decide +kernel
theorem dX11_acts_6 : decode cX11_acts 6 = .ok (.ifCond .lt 11, 3) := by decide +kernel
theorem dX11_acts_9 : decode cX11_acts 9 = .ok (.iload_n 1, 1) := by decide +kernel
theorem dX11_acts_10 : decode cX11_acts 10 = .ok (.aload_n 0, 1) := by decide +kernel
theorem dX11_acts_11 : decode cX11_acts 11 = .ok (.getfield 132, 3) := by decide +kernel
theorem dX11_acts_14 : decode cX11_acts 14 = .ok (.if_icmp .le 6, 3) := by decide +kernel
theorem dX11_acts_17 : decode cX11_acts 17 = .ok (.bipush (-2), 2) := by decide +kernel
theorem dX11_acts_19 : decode cX11_acts 19 = .ok (.ireturn, 1) := by decide +kernel
theorem dX11_acts_20 : decode cX11_acts 20 = .ok (.aload_n 0, 1) := by decide +kernel
theorem dX11_acts_21 : decode cX11_acts 21 = .ok (.iload_n 1, 1) := by decide +kernel
theorem dX11_acts_22 : decode cX11_acts 22 = .ok (.putfield 141, 3) := by decide +kernel
theorem dX11_acts_25 : decode cX11_acts 25 = .ok (.aload_n 0, 1) := by decide +kernel
theorem dX11_acts_26 : decode cX11_acts 26 = .ok (.iconst 0, 1) := by decide +kernel
theorem dX11_acts_27 : decode cX11_acts 27 = .ok (.putfield 132, 3) := by decide +kernel
theorem dX11_acts_30 : decode cX11_acts 30 = .ok (.aload_n 0, 1) := by decide +kernel
theorem dX11_acts_31 : decode cX11_acts 31 = .ok (.iconst 0, 1) := by decide +kernel
theorem dX11_acts_32 : decode cX11_acts 32 = .ok (.putfield 135, 3) := by decide +kernel
theorem dX11_acts_35 : decode cX11_acts 35 = .ok (.aload_n 0, 1) := by decide +kernel
theorem dX11_acts_36 : decode cX11_acts 36 = .ok (.iconst (-1), 1) := by decide +kernel
theorem dX11_acts_37 : decode cX11_acts 37 = .ok (.putfield 58, 3) := by decide +kernel
theorem dX11_acts_40 : decode cX11_acts 40 = .ok (.aload_n 0, 1) := by decide +kernel
theorem dX11_acts_41 : decode cX11_acts 41 = .ok (.iconst 0, 1) := by decide +kernel
theorem dX11_acts_42 : decode cX11_acts 42 = .ok (.putfield 144, 3) := by decide +kernel
theorem dX11_acts_45 : decode cX11_acts 45 = .ok (.aload_n 0, 1) := by decide +kernel
theorem dX11_acts_46 : decode cX11_acts 46 = .ok (.invokevirtual 123, 3) := by decide +kernel
theorem dX11_acts_49 : decode cX11_acts 49 = .ok (.iconst 0, 1) := by decide +kernel
theorem dX11_acts_50 : decode cX11_acts 50 = .ok (.istore_n 2, 1) := by decide +kernel
theorem dX11_acts_51 : decode cX11_acts 51 = .ok (.aload_n 0, 1) := by decide +kernel
theorem dX11_acts_52 : decode cX11_acts 52 = .ok (.invokevirtual 180, 3) := by decide +kernel
theorem dX11_acts_55 : decode cX11_acts 55 = .ok (.aload_n 0, 1) := by decide +kernel
theorem dX11_acts_56 : decode cX11_acts 56 = .ok (.getfield 147, 3) := by decide +kernel
theorem dX11_acts_59 : decode cX11_acts 59 = .ok (.ifCond .eq 90, 3) := by decide +kernel
theorem dX11_acts_62 : decode cX11_acts 62 = .ok (.aload_n 0, 1) := by decide +kernel
theorem dX11_acts_63 : decode cX11_acts 63 = .ok (.getfield 147, 3) := by decide +kernel
theorem dX11_acts_66 : decode cX11_acts 66 = .ok (.iconst 1, 1) := by decide +kernel
theorem dX11_acts_67 : decode cX11_acts 67 = .ok (.if_icmp .ne 12, 3) := by decide +kernel
theorem dX11_acts_70 : decode cX11_acts 70 = .ok (.aload_n 0, 1) := by decide +kernel
theorem dX11_acts_71 : decode cX11_acts 71 = .ok (.getfield 158, 3) := by decide +kernel
theorem dX11_acts_74 : decode cX11_acts 74 = .ok (.bipush 7, 2) := by decide +kernel
theorem dX11_acts_76 : decode cX11_acts 76 = .ok (.if_icmp .le 11, 3) := by decide +kernel
theorem dX11_acts_79 : decode cX11_acts 79 = .ok (.aload_n 0, 1) := by decide +kernel
theorem dX11_acts_80 : decode cX11_acts 80 = .ok (.iconst 1, 1) := by decide +kernel
theorem dX11_acts_81 : decode cX11_acts 81 = .ok (.invokevirtual 164, 3) := by decide +kernel
theorem dX11_acts_84 : decode cX11_acts 84 = .ok (.pop, 1) := by decide +kernel
theorem dX11_acts_85 : decode cX11_acts 85 = .ok (.iconst (-1), 1) := by decide +kernel
theorem dX11_acts_86 : decode cX11_acts 86 = .ok (.ireturn, 1) := by decide +kernel
theorem dX11_acts_87 : decode cX11_acts 87 = .ok (.aload_n 0, 1) := by decide +kernel
theorem dX11_acts_88 : decode cX11_acts 88 = .ok (.getfield 158, 3) := by decide +kernel
theorem dX11_acts_91 : decode cX11_acts 91 = .ok (.iconst 4, 1) := by decide +kernel
theorem dX11_acts_92 : decode cX11_acts 92 = .ok (.if_icmp .ge 14, 3) := by decide +kernel
theorem dX11_acts_95 : decode cX11_acts 95 = .ok (.aload_n 0, 1) := by decide +kernel
theorem dX11_acts_96 : decode cX11_acts 96 = .ok (.aload_n 0, 1) := by decide +kernel
theorem dX11_acts_97 : decode cX11_acts 97 = .ok (.getfield 158, 3) := by decide +kernel
theorem dX11_acts_100 : decode cX11_acts 100 = .ok (.invokevirtual 198, 3) := by decide +kernel
theorem dX11_acts_103 : decode cX11_acts 103 = .ok (.goto 13, 3) := by decide +kernel
theorem dX11_acts_106 : decode cX11_acts 106 = .ok (.aload_n 0, 1) := by decide +kernel
theorem dX11_acts_107 : decode cX11_acts 107 = .ok (.aload_n 0, 1) := by decide +kernel
theorem dX11_acts_108 : decode cX11_acts 108 = .ok (.getfield 158, 3) := by decide +kernel
theorem dX11_acts_111 : decode cX11_acts 111 = .ok (.iconst 4, 1) := by decide +kernel
theorem dX11_acts_112 : decode cX11_acts 112 = .ok (.isub, 1) := by decide +kernel
theorem dX11_acts_113 : decode cX11_acts 113 = .ok (.invokevirtual 201, 3) := by decide +kernel
theorem dX11_acts_116 : decode cX11_acts 116 = .ok (.istore_n 3, 1) := by decide +kernel
theorem dX11_acts_117 : decode cX11_acts 117 = .ok (.iload_n 3, 1) := by decide +kernel
theorem dX11_acts_118 : decode cX11_acts 118 = .ok (.ifCond .ne 5, 3) := by decide +kernel
theorem dX11_acts_121 : decode cX11_acts 121 = .ok (.iconst (-1), 1) := by decide +kernel
theorem dX11_acts_122 : decode cX11_acts 122 = .ok (.ireturn, 1) := by decide +kernel
theorem dX11_acts_123 : decode cX11_acts 123 = .ok (.aload_n 0, 1) := by decide +kernel
theorem dX11_acts_124 : decode cX11_acts 124 = .ok (.getfield 147, 3) := by decide +kernel
theorem dX11_acts_127 : decode cX11_acts 127 = .ok (.iconst 3, 1) := by decide +kernel
theorem dX11_acts_128 : decode cX11_acts 128 = .ok (.if_icmp .eq 11, 3) := by decide +kernel
theorem dX11_acts_131 : decode cX11_acts 131 = .ok (.aload_n 0, 1) := by decide +kernel
theorem dX11_acts_132 : decode cX11_acts 132 = .ok (.iconst 1, 1) := by decide +kernel
theorem dX11_acts_133 : decode cX11_acts 133 = .ok (.invokevirtual 164, 3) := by decide +kernel
theorem dX11_acts_136 : decode cX11_acts 136 = .ok (.pop, 1) := by decide +kernel
theorem dX11_acts_137 : decode cX11_acts 137 = .ok (.iconst (-1), 1) := by decide +kernel
theorem dX11_acts_138 : decode cX11_acts 138 = .ok (.ireturn, 1) := by decide +kernel
theorem dX11_acts_139 : decode cX11_acts 139 = .ok (.aload_n 0, 1) := by decide +kernel
theorem dX11_acts_140 : decode cX11_acts 140 = .ok (.invokevirtual 180, 3) := by decide +kernel
theorem dX11_acts_143 : decode cX11_acts 143 = .ok (.iinc 2 1, 3) := by decide +kernel
theorem dX11_acts_146 : decode cX11_acts 146 = .ok (.goto (-91), 3) := by decide +kernel
theorem dX11_acts_149 : decode cX11_acts 149 = .ok (.aload_n 0, 1) := by decide +kernel
theorem dX11_acts_150 : decode cX11_acts 150 = .ok (.invokevirtual 126, 3) := by decide +kernel
theorem dX11_acts_153 : decode cX11_acts 153 = .ok (.iload_n 2, 1) := by decide +kernel
theorem dX11_acts_154 : decode cX11_acts 154 = .ok (.ireturn, 1) := by decide +kernel
theorem dX11_fault_0 : decode cX11_fault 0 = .ok (.aload_n 0, 1) := by decide +kernel
theorem dX11_fault_1 : decode cX11_fault 1 = .ok (.iconst 0, 1) := by decide +kernel
theorem dX11_fault_2 : decode cX11_fault 2 = .ok (.putfield 129, 3) := by decide +kernel
theorem dX11_fault_5 : decode cX11_fault 5 = .ok (.iload_n 1, 1) := by decide +kernel
theorem dX11_fault_6 : decode cX11_fault 6 = .ok (.ifCond .ne 10, 3) := by decide +kernel
theorem dX11_fault_9 : decode cX11_fault 9 = .ok (.aload_n 0, 1) := by decide +kernel
theorem dX11_fault_10 : decode cX11_fault 10 = .ok (.getfield 135, 3) := by decide +kernel
theorem dX11_fault_13 : decode cX11_fault 13 = .ok (.goto 16, 3) := by decide +kernel
theorem dX11_fault_16 : decode cX11_fault 16 = .ok (.iload_n 1, 1) := by decide +kernel
theorem dX11_fault_17 : decode cX11_fault 17 = .ok (.iconst 1, 1) := by decide +kernel
theorem dX11_fault_18 : decode cX11_fault 18 = .ok (.if_icmp .ne 10, 3) := by decide +kernel
theorem dX11_fault_21 : decode cX11_fault 21 = .ok (.aload_n 0, 1) := by decide +kernel
theorem dX11_fault_22 : decode cX11_fault 22 = .ok (.getfield 58, 3) := by decide +kernel
theorem dX11_fault_25 : decode cX11_fault 25 = .ok (.goto 4, 3) := by decide +kernel
theorem dX11_fault_28 : decode cX11_fault 28 = .ok (.iconst (-1), 1) := by decide +kernel
theorem dX11_fault_29 : decode cX11_fault 29 = .ok (.ireturn, 1) := by decide +kernel
theorem dX11_halves_0 : decode cX11_halves 0 = .ok (.aload_n 0, 1) := by decide +kernel
theorem dX11_halves_1 : decode cX11_halves 1 = .ok (.iconst 0, 1) := by decide +kernel
theorem dX11_halves_2 : decode cX11_halves 2 = .ok (.putfield 129, 3) := by decide +kernel
theorem dX11_halves_5 : decode cX11_halves 5 = .ok (.iload_n 1, 1) := by decide +kernel
theorem dX11_halves_6 : decode cX11_halves 6 = .ok (.iconst 0, 1) := by decide +kernel
theorem dX11_halves_7 : decode cX11_halves 7 = .ok (.bipush 79, 2) := by decide +kernel
theorem dX11_halves_9 : decode cX11_halves 9 = .ok (.invokestatic 204, 3) := by decide +kernel
theorem dX11_halves_12 : decode cX11_halves 12 = .ok (.ifCond .eq 14, 3) := by decide +kernel
theorem dX11_halves_15 : decode cX11_halves 15 = .ok (.aload_n 0, 1) := by decide +kernel
theorem dX11_halves_16 : decode cX11_halves 16 = .ok (.getfield 208, 3) := by decide +kernel
theorem dX11_halves_19 : decode cX11_halves 19 = .ok (.iload_n 1, 1) := by decide +kernel
theorem dX11_halves_20 : decode cX11_halves 20 = .ok (.iadd, 1) := by decide +kernel
theorem dX11_halves_21 : decode cX11_halves 21 = .ok (.bipush 79, 2) := by decide +kernel
theorem dX11_halves_23 : decode cX11_halves 23 = .ok (.if_icmp .le 5, 3) := by decide +kernel
theorem dX11_halves_26 : decode cX11_halves 26 = .ok (.iconst (-1), 1) := by decide +kernel
theorem dX11_halves_27 : decode cX11_halves 27 = .ok (.ireturn, 1) := by decide +kernel
theorem dX11_halves_28 : decode cX11_halves 28 = .ok (.aload_n 0, 1) := by decide +kernel
theorem dX11_halves_29 : decode cX11_halves 29 = .ok (.dup, 1) := by decide +kernel
theorem dX11_halves_30 : decode cX11_halves 30 = .ok (.getfield 208, 3) := by decide +kernel
theorem dX11_halves_33 : decode cX11_halves 33 = .ok (.iload_n 1, 1) := by decide +kernel
theorem dX11_halves_34 : decode cX11_halves 34 = .ok (.iadd, 1) := by decide +kernel
theorem dX11_halves_35 : decode cX11_halves 35 = .ok (.putfield 208, 3) := by decide +kernel
theorem dX11_halves_38 : decode cX11_halves 38 = .ok (.aload_n 0, 1) := by decide +kernel
theorem dX11_halves_39 : decode cX11_halves 39 = .ok (.getfield 208, 3) := by decide +kernel
theorem dX11_halves_42 : decode cX11_halves 42 = .ok (.ireturn, 1) := by decide +kernel
theorem dX11_life_0 : decode cX11_life 0 = .ok (.aload_n 0, 1) := by decide +kernel
theorem dX11_life_1 : decode cX11_life 1 = .ok (.iconst 0, 1) := by decide +kernel
theorem dX11_life_2 : decode cX11_life 2 = .ok (.putfield 129, 3) := by decide +kernel
theorem dX11_life_5 : decode cX11_life 5 = .ok (.aload_n 0, 1) := by decide +kernel
theorem dX11_life_6 : decode cX11_life 6 = .ok (.getfield 211, 3) := by decide +kernel
theorem dX11_life_9 : decode cX11_life 9 = .ok (.bipush 12, 2) := by decide +kernel
theorem dX11_life_11 : decode cX11_life 11 = .ok (.if_icmp .eq 26, 3) := by decide +kernel
theorem dX11_life_14 : decode cX11_life 14 = .ok (.iload_n 1, 1) := by decide +kernel
theorem dX11_life_15 : decode cX11_life 15 = .ok (.sipush (-160), 3) := by decide +kernel
theorem dX11_life_18 : decode cX11_life 18 = .ok (.aload_n 0, 1) := by decide +kernel
theorem dX11_life_19 : decode cX11_life 19 = .ok (.getfield 208, 3) := by decide +kernel
theorem dX11_life_22 : decode cX11_life 22 = .ok (.invokestatic 204, 3) := by decide +kernel
theorem dX11_life_25 : decode cX11_life 25 = .ok (.ifCond .eq 12, 3) := by decide +kernel
theorem dX11_life_28 : decode cX11_life 28 = .ok (.iload_n 2, 1) := by decide +kernel
theorem dX11_life_29 : decode cX11_life 29 = .ok (.iconst 0, 1) := by decide +kernel
theorem dX11_life_30 : decode cX11_life 30 = .ok (.iconst 3, 1) := by decide +kernel
theorem dX11_life_31 : decode cX11_life 31 = .ok (.invokestatic 204, 3) := by decide +kernel
theorem dX11_life_34 : decode cX11_life 34 = .ok (.ifCond .ne 5, 3) := by decide +kernel
theorem dX11_life_37 : decode cX11_life 37 = .ok (.iconst (-1), 1) := by decide +kernel
theorem dX11_life_38 : decode cX11_life 38 = .ok (.ireturn, 1) := by decide +kernel
theorem dX11_life_39 : decode cX11_life 39 = .ok (.aload_n 0, 1) := by decide +kernel
theorem dX11_life_40 : decode cX11_life 40 = .ok (.getfield 13, 3) := by decide +kernel
theorem dX11_life_43 : decode cX11_life 43 = .ok (.aload_n 0, 1) := by decide +kernel
theorem dX11_life_44 : decode cX11_life 44 = .ok (.getfield 211, 3) := by decide +kernel
theorem dX11_life_47 : decode cX11_life 47 = .ok (.iload_n 1, 1) := by decide +kernel
theorem dX11_life_48 : decode cX11_life 48 = .ok (.iastore, 1) := by decide +kernel
theorem dX11_life_49 : decode cX11_life 49 = .ok (.aload_n 0, 1) := by decide +kernel
theorem dX11_life_50 : decode cX11_life 50 = .ok (.getfield 16, 3) := by decide +kernel
theorem dX11_life_53 : decode cX11_life 53 = .ok (.aload_n 0, 1) := by decide +kernel
theorem dX11_life_54 : decode cX11_life 54 = .ok (.getfield 211, 3) := by decide +kernel
theorem dX11_life_57 : decode cX11_life 57 = .ok (.iload_n 2, 1) := by decide +kernel
theorem dX11_life_58 : decode cX11_life 58 = .ok (.iastore, 1) := by decide +kernel
theorem dX11_life_59 : decode cX11_life 59 = .ok (.aload_n 0, 1) := by decide +kernel
theorem dX11_life_60 : decode cX11_life 60 = .ok (.dup, 1) := by decide +kernel
theorem dX11_life_61 : decode cX11_life 61 = .ok (.getfield 211, 3) := by decide +kernel
theorem dX11_life_64 : decode cX11_life 64 = .ok (.iconst 1, 1) := by decide +kernel
theorem dX11_life_65 : decode cX11_life 65 = .ok (.iadd, 1) := by decide +kernel
theorem dX11_life_66 : decode cX11_life 66 = .ok (.putfield 211, 3) := by decide +kernel
theorem dX11_life_69 : decode cX11_life 69 = .ok (.aload_n 0, 1) := by decide +kernel
theorem dX11_life_70 : decode cX11_life 70 = .ok (.getfield 211, 3) := by decide +kernel
theorem dX11_life_73 : decode cX11_life 73 = .ok (.iconst 1, 1) := by decide +kernel
theorem dX11_life_74 : decode cX11_life 74 = .ok (.isub, 1) := by decide +kernel
theorem dX11_life_75 : decode cX11_life 75 = .ok (.ireturn, 1) := by decide +kernel
theorem dX11_isLife_0 : decode cX11_isLife 0 = .ok (.iload_n 1, 1) := by decide +kernel
theorem dX11_isLife_1 : decode cX11_isLife 1 = .ok (.ifCond .lt 15, 3) := by decide +kernel
theorem dX11_isLife_4 : decode cX11_isLife 4 = .ok (.iload_n 1, 1) := by decide +kernel
theorem dX11_isLife_5 : decode cX11_isLife 5 = .ok (.aload_n 0, 1) := by decide +kernel
theorem dX11_isLife_6 : decode cX11_isLife 6 = .ok (.getfield 211, 3) := by decide +kernel
theorem dX11_isLife_9 : decode cX11_isLife 9 = .ok (.if_icmp .ge 7, 3) := by decide +kernel
theorem dX11_isLife_12 : decode cX11_isLife 12 = .ok (.iconst 1, 1) := by decide +kernel
theorem dX11_isLife_13 : decode cX11_isLife 13 = .ok (.goto 4, 3) := by decide +kernel
theorem dX11_isLife_16 : decode cX11_isLife 16 = .ok (.iconst 0, 1) := by decide +kernel
theorem dX11_isLife_17 : decode cX11_isLife 17 = .ok (.ireturn, 1) := by decide +kernel
theorem dX11_ageIn_0 : decode cX11_ageIn 0 = .ok (.iload_n 2, 1) := by decide +kernel
theorem dX11_ageIn_1 : decode cX11_ageIn 1 = .ok (.aload_n 0, 1) := by decide +kernel
theorem dX11_ageIn_2 : decode cX11_ageIn 2 = .ok (.getfield 13, 3) := by decide +kernel
theorem dX11_ageIn_5 : decode cX11_ageIn 5 = .ok (.iload_n 1, 1) := by decide +kernel
theorem dX11_ageIn_6 : decode cX11_ageIn 6 = .ok (.iaload, 1) := by decide +kernel
theorem dX11_ageIn_7 : decode cX11_ageIn 7 = .ok (.isub, 1) := by decide +kernel
theorem dX11_ageIn_8 : decode cX11_ageIn 8 = .ok (.iconst 2, 1) := by decide +kernel
theorem dX11_ageIn_9 : decode cX11_ageIn 9 = .ok (.idiv, 1) := by decide +kernel
theorem dX11_ageIn_10 : decode cX11_ageIn 10 = .ok (.ireturn, 1) := by decide +kernel
theorem dX11_actOf_0 : decode cX11_actOf 0 = .ok (.iload_n 3, 1) := by decide +kernel
theorem dX11_actOf_1 : decode cX11_actOf 1 = .ok (.iconst (-1), 1) := by decide +kernel
theorem dX11_actOf_2 : decode cX11_actOf 2 = .ok (.if_icmp .eq 20, 3) := by decide +kernel
theorem dX11_actOf_5 : decode cX11_actOf 5 = .ok (.aload_n 0, 1) := by decide +kernel
theorem dX11_actOf_6 : decode cX11_actOf 6 = .ok (.iload_n 2, 1) := by decide +kernel
theorem dX11_actOf_7 : decode cX11_actOf 7 = .ok (.iload 4, 2) := by decide +kernel
theorem dX11_actOf_9 : decode cX11_actOf 9 = .ok (.invokevirtual 214, 3) := by decide +kernel
theorem dX11_actOf_12 : decode cX11_actOf 12 = .ok (.aload_n 0, 1) := by decide +kernel
theorem dX11_actOf_13 : decode cX11_actOf 13 = .ok (.iload_n 3, 1) := by decide +kernel
theorem dX11_actOf_14 : decode cX11_actOf 14 = .ok (.iload 4, 2) := by decide +kernel
theorem dX11_actOf_16 : decode cX11_actOf 16 = .ok (.invokevirtual 214, 3) := by decide +kernel
theorem dX11_actOf_19 : decode cX11_actOf 19 = .ok (.if_icmp .gt 7, 3) := by decide +kernel
theorem dX11_actOf_22 : decode cX11_actOf 22 = .ok (.iload_n 2, 1) := by decide +kernel
theorem dX11_actOf_23 : decode cX11_actOf 23 = .ok (.goto 4, 3) := by decide +kernel
theorem dX11_actOf_26 : decode cX11_actOf 26 = .ok (.iload_n 3, 1) := by decide +kernel
theorem dX11_actOf_27 : decode cX11_actOf 27 = .ok (.istore 6, 2) := by decide +kernel
theorem dX11_actOf_29 : decode cX11_actOf 29 = .ok (.aload_n 0, 1) := by decide +kernel
theorem dX11_actOf_30 : decode cX11_actOf 30 = .ok (.iload 6, 2) := by decide +kernel
theorem dX11_actOf_32 : decode cX11_actOf 32 = .ok (.iload 4, 2) := by decide +kernel
theorem dX11_actOf_34 : decode cX11_actOf 34 = .ok (.invokevirtual 214, 3) := by decide +kernel
theorem dX11_actOf_37 : decode cX11_actOf 37 = .ok (.istore 7, 2) := by decide +kernel
theorem dX11_actOf_39 : decode cX11_actOf 39 = .ok (.aload_n 0, 1) := by decide +kernel
theorem dX11_actOf_40 : decode cX11_actOf 40 = .ok (.getfield 170, 3) := by decide +kernel
theorem dX11_actOf_43 : decode cX11_actOf 43 = .ok (.iconst 1, 1) := by decide +kernel
theorem dX11_actOf_44 : decode cX11_actOf 44 = .ok (.isub, 1) := by decide +kernel
theorem dX11_actOf_45 : decode cX11_actOf 45 = .ok (.istore 8, 2) := by decide +kernel
theorem dX11_actOf_47 : decode cX11_actOf 47 = .ok (.iload 8, 2) := by decide +kernel
theorem dX11_actOf_49 : decode cX11_actOf 49 = .ok (.ifCond .lt 195, 3) := by decide +kernel
theorem dX11_actOf_52 : decode cX11_actOf 52 = .ok (.iload_n 1, 1) := by decide +kernel
theorem dX11_actOf_53 : decode cX11_actOf 53 = .ok (.ifCond .ne 22, 3) := by decide +kernel
theorem dX11_actOf_56 : decode cX11_actOf 56 = .ok (.aload_n 0, 1) := by decide +kernel
theorem dX11_actOf_57 : decode cX11_actOf 57 = .ok (.getfield 62, 3) := by decide +kernel
theorem dX11_actOf_60 : decode cX11_actOf 60 = .ok (.iload 8, 2) := by decide +kernel
theorem dX11_actOf_62 : decode cX11_actOf 62 = .ok (.iaload, 1) := by decide +kernel
theorem dX11_actOf_63 : decode cX11_actOf 63 = .ok (.iconst 1, 1) := by decide +kernel
theorem dX11_actOf_64 : decode cX11_actOf 64 = .ok (.if_icmp .gt 7, 3) := by decide +kernel
theorem dX11_actOf_67 : decode cX11_actOf 67 = .ok (.iconst 1, 1) := by decide +kernel
theorem dX11_actOf_68 : decode cX11_actOf 68 = .ok (.goto 23, 3) := by decide +kernel
theorem dX11_actOf_71 : decode cX11_actOf 71 = .ok (.iconst 0, 1) := by decide +kernel
theorem dX11_actOf_72 : decode cX11_actOf 72 = .ok (.goto 19, 3) := by decide +kernel
theorem dX11_actOf_75 : decode cX11_actOf 75 = .ok (.aload_n 0, 1) := by decide +kernel
theorem dX11_actOf_76 : decode cX11_actOf 76 = .ok (.getfield 62, 3) := by decide +kernel
theorem dX11_actOf_79 : decode cX11_actOf 79 = .ok (.iload 8, 2) := by decide +kernel
theorem dX11_actOf_81 : decode cX11_actOf 81 = .ok (.iaload, 1) := by decide +kernel
theorem dX11_actOf_82 : decode cX11_actOf 82 = .ok (.iload_n 1, 1) := by decide +kernel
theorem dX11_actOf_83 : decode cX11_actOf 83 = .ok (.if_icmp .ne 7, 3) := by decide +kernel
theorem dX11_actOf_86 : decode cX11_actOf 86 = .ok (.iconst 1, 1) := by decide +kernel
theorem dX11_actOf_87 : decode cX11_actOf 87 = .ok (.goto 4, 3) := by decide +kernel
theorem dX11_actOf_90 : decode cX11_actOf 90 = .ok (.iconst 0, 1) := by decide +kernel
theorem dX11_actOf_91 : decode cX11_actOf 91 = .ok (.istore 9, 2) := by decide +kernel
theorem dX11_actOf_93 : decode cX11_actOf 93 = .ok (.iload 9, 2) := by decide +kernel
theorem dX11_actOf_95 : decode cX11_actOf 95 = .ok (.ifCond .eq 111, 3) := by decide +kernel
theorem dX11_actOf_98 : decode cX11_actOf 98 = .ok (.iload 7, 2) := by decide +kernel
theorem dX11_actOf_100 : decode cX11_actOf 100 = .ok (.aload_n 0, 1) := by decide +kernel
theorem dX11_actOf_101 : decode cX11_actOf 101 = .ok (.getfield 68, 3) := by decide +kernel
theorem dX11_actOf_104 : decode cX11_actOf 104 = .ok (.iload 8, 2) := by decide +kernel
theorem dX11_actOf_106 : decode cX11_actOf 106 = .ok (.iaload, 1) := by decide +kernel
theorem dX11_actOf_107 : decode cX11_actOf 107 = .ok (.aload_n 0, 1) := by decide +kernel
theorem dX11_actOf_108 : decode cX11_actOf 108 = .ok (.getfield 71, 3) := by decide +kernel
theorem dX11_actOf_111 : decode cX11_actOf 111 = .ok (.iload 8, 2) := by decide +kernel
theorem dX11_actOf_113 : decode cX11_actOf 113 = .ok (.iaload, 1) := by decide +kernel
theorem dX11_actOf_114 : decode cX11_actOf 114 = .ok (.invokestatic 204, 3) := by decide +kernel
theorem dX11_actOf_117 : decode cX11_actOf 117 = .ok (.ifCond .eq 89, 3) := by decide +kernel
theorem dX11_actOf_120 : decode cX11_actOf 120 = .ok (.aload_n 0, 1) := by decide +kernel
theorem dX11_actOf_121 : decode cX11_actOf 121 = .ok (.getfield 74, 3) := by decide +kernel
theorem dX11_actOf_124 : decode cX11_actOf 124 = .ok (.iload 8, 2) := by decide +kernel
theorem dX11_actOf_126 : decode cX11_actOf 126 = .ok (.iaload, 1) := by decide +kernel
theorem dX11_actOf_127 : decode cX11_actOf 127 = .ok (.aload_n 0, 1) := by decide +kernel
theorem dX11_actOf_128 : decode cX11_actOf 128 = .ok (.getfield 16, 3) := by decide +kernel
theorem dX11_actOf_131 : decode cX11_actOf 131 = .ok (.iload 6, 2) := by decide +kernel
theorem dX11_actOf_133 : decode cX11_actOf 133 = .ok (.iaload, 1) := by decide +kernel
theorem dX11_actOf_134 : decode cX11_actOf 134 = .ok (.ishr, 1) := by decide +kernel
theorem dX11_actOf_135 : decode cX11_actOf 135 = .ok (.iconst 1, 1) := by decide +kernel
theorem dX11_actOf_136 : decode cX11_actOf 136 = .ok (.iand, 1) := by decide +kernel
theorem dX11_actOf_137 : decode cX11_actOf 137 = .ok (.iconst 1, 1) := by decide +kernel
theorem dX11_actOf_138 : decode cX11_actOf 138 = .ok (.if_icmp .ne 68, 3) := by decide +kernel
theorem dX11_actOf_141 : decode cX11_actOf 141 = .ok (.iload 4, 2) := by decide +kernel
theorem dX11_actOf_143 : decode cX11_actOf 143 = .ok (.aload_n 0, 1) := by decide +kernel
theorem dX11_actOf_144 : decode cX11_actOf 144 = .ok (.getfield 77, 3) := by decide +kernel
theorem dX11_actOf_147 : decode cX11_actOf 147 = .ok (.iload 8, 2) := by decide +kernel
theorem dX11_actOf_149 : decode cX11_actOf 149 = .ok (.iaload, 1) := by decide +kernel
theorem dX11_actOf_150 : decode cX11_actOf 150 = .ok (.aload_n 0, 1) := by decide +kernel
theorem dX11_actOf_151 : decode cX11_actOf 151 = .ok (.getfield 80, 3) := by decide +kernel
theorem dX11_actOf_154 : decode cX11_actOf 154 = .ok (.iload 8, 2) := by decide +kernel
theorem dX11_actOf_156 : decode cX11_actOf 156 = .ok (.iaload, 1) := by decide +kernel
theorem dX11_actOf_157 : decode cX11_actOf 157 = .ok (.invokestatic 204, 3) := by decide +kernel
theorem dX11_actOf_160 : decode cX11_actOf 160 = .ok (.ifCond .eq 46, 3) := by decide +kernel
theorem dX11_actOf_163 : decode cX11_actOf 163 = .ok (.aload_n 0, 1) := by decide +kernel
theorem dX11_actOf_164 : decode cX11_actOf 164 = .ok (.getfield 83, 3) := by decide +kernel
theorem dX11_actOf_167 : decode cX11_actOf 167 = .ok (.iload 8, 2) := by decide +kernel
theorem dX11_actOf_169 : decode cX11_actOf 169 = .ok (.iaload, 1) := by decide +kernel
theorem dX11_actOf_170 : decode cX11_actOf 170 = .ok (.ifCond .eq 32, 3) := by decide +kernel
theorem dX11_actOf_173 : decode cX11_actOf 173 = .ok (.aload_n 0, 1) := by decide +kernel
theorem dX11_actOf_174 : decode cX11_actOf 174 = .ok (.getfield 83, 3) := by decide +kernel
theorem dX11_actOf_177 : decode cX11_actOf 177 = .ok (.iload 8, 2) := by decide +kernel
theorem dX11_actOf_179 : decode cX11_actOf 179 = .ok (.iaload, 1) := by decide +kernel
theorem dX11_actOf_180 : decode cX11_actOf 180 = .ok (.iconst 1, 1) := by decide +kernel
theorem dX11_actOf_181 : decode cX11_actOf 181 = .ok (.if_icmp .ne 7, 3) := by decide +kernel
theorem dX11_actOf_184 : decode cX11_actOf 184 = .ok (.iconst 1, 1) := by decide +kernel
theorem dX11_actOf_185 : decode cX11_actOf 185 = .ok (.goto 4, 3) := by decide +kernel
theorem dX11_actOf_188 : decode cX11_actOf 188 = .ok (.iconst 0, 1) := by decide +kernel
theorem dX11_actOf_189 : decode cX11_actOf 189 = .ok (.iload_n 3, 1) := by decide +kernel
theorem dX11_actOf_190 : decode cX11_actOf 190 = .ok (.iconst (-1), 1) := by decide +kernel
theorem dX11_actOf_191 : decode cX11_actOf 191 = .ok (.if_icmp .eq 7, 3) := by decide +kernel
theorem dX11_actOf_194 : decode cX11_actOf 194 = .ok (.iconst 1, 1) := by decide +kernel
theorem dX11_actOf_195 : decode cX11_actOf 195 = .ok (.goto 4, 3) := by decide +kernel
theorem dX11_actOf_198 : decode cX11_actOf 198 = .ok (.iconst 0, 1) := by decide +kernel
theorem dX11_actOf_199 : decode cX11_actOf 199 = .ok (.if_icmp .ne 7, 3) := by decide +kernel
theorem dX11_actOf_202 : decode cX11_actOf 202 = .ok (.iconst 1, 1) := by decide +kernel
theorem dX11_actOf_203 : decode cX11_actOf 203 = .ok (.goto 4, 3) := by decide +kernel
theorem dX11_actOf_206 : decode cX11_actOf 206 = .ok (.iconst 0, 1) := by decide +kernel
theorem dX11_actOf_207 : decode cX11_actOf 207 = .ok (.istore 10, 2) := by decide +kernel
theorem dX11_actOf_209 : decode cX11_actOf 209 = .ok (.iload 10, 2) := by decide +kernel
theorem dX11_actOf_211 : decode cX11_actOf 211 = .ok (.ifCond .eq 27, 3) := by decide +kernel
theorem dX11_actOf_214 : decode cX11_actOf 214 = .ok (.iload_n 1, 1) := by decide +kernel
theorem dX11_actOf_215 : decode cX11_actOf 215 = .ok (.ifCond .ne 15, 3) := by decide +kernel
theorem dX11_actOf_218 : decode cX11_actOf 218 = .ok (.iconst 1, 1) := by decide +kernel
theorem dX11_actOf_219 : decode cX11_actOf 219 = .ok (.aload_n 0, 1) := by decide +kernel
theorem dX11_actOf_220 : decode cX11_actOf 220 = .ok (.getfield 62, 3) := by decide +kernel
theorem dX11_actOf_223 : decode cX11_actOf 223 = .ok (.iload 8, 2) := by decide +kernel
theorem dX11_actOf_225 : decode cX11_actOf 225 = .ok (.iaload, 1) := by decide +kernel
theorem dX11_actOf_226 : decode cX11_actOf 226 = .ok (.isub, 1) := by decide +kernel
theorem dX11_actOf_227 : decode cX11_actOf 227 = .ok (.goto 10, 3) := by decide +kernel
theorem dX11_actOf_230 : decode cX11_actOf 230 = .ok (.aload_n 0, 1) := by decide +kernel
theorem dX11_actOf_231 : decode cX11_actOf 231 = .ok (.getfield 65, 3) := by decide +kernel
theorem dX11_actOf_234 : decode cX11_actOf 234 = .ok (.iload 8, 2) := by decide +kernel
theorem dX11_actOf_236 : decode cX11_actOf 236 = .ok (.iaload, 1) := by decide +kernel
theorem dX11_actOf_237 : decode cX11_actOf 237 = .ok (.ireturn, 1) := by decide +kernel
theorem dX11_actOf_238 : decode cX11_actOf 238 = .ok (.iinc 8 (-1), 3) := by decide +kernel
theorem dX11_actOf_241 : decode cX11_actOf 241 = .ok (.goto (-194), 3) := by decide +kernel
theorem dX11_actOf_244 : decode cX11_actOf 244 = .ok (.iload 5, 2) := by decide +kernel
theorem dX11_actOf_246 : decode cX11_actOf 246 = .ok (.ireturn, 1) := by decide +kernel
theorem dX11_mayBe_0 : decode cX11_mayBe 0 = .ok (.aload_n 0, 1) := by decide +kernel
theorem dX11_mayBe_1 : decode cX11_mayBe 1 = .ok (.iconst 0, 1) := by decide +kernel
theorem dX11_mayBe_2 : decode cX11_mayBe 2 = .ok (.iload_n 1, 1) := by decide +kernel
theorem dX11_mayBe_3 : decode cX11_mayBe 3 = .ok (.iload_n 2, 1) := by decide +kernel
theorem dX11_mayBe_4 : decode cX11_mayBe 4 = .ok (.aload_n 0, 1) := by decide +kernel
theorem dX11_mayBe_5 : decode cX11_mayBe 5 = .ok (.getfield 208, 3) := by decide +kernel
theorem dX11_mayBe_8 : decode cX11_mayBe 8 = .ok (.iconst 1, 1) := by decide +kernel
theorem dX11_mayBe_9 : decode cX11_mayBe 9 = .ok (.invokevirtual 217, 3) := by decide +kernel
theorem dX11_mayBe_12 : decode cX11_mayBe 12 = .ok (.iconst 1, 1) := by decide +kernel
theorem dX11_mayBe_13 : decode cX11_mayBe 13 = .ok (.if_icmp .ne 7, 3) := by decide +kernel
theorem dX11_mayBe_16 : decode cX11_mayBe 16 = .ok (.iconst 1, 1) := by decide +kernel
theorem dX11_mayBe_17 : decode cX11_mayBe 17 = .ok (.goto 4, 3) := by decide +kernel
theorem dX11_mayBe_20 : decode cX11_mayBe 20 = .ok (.iconst 0, 1) := by decide +kernel
theorem dX11_mayBe_21 : decode cX11_mayBe 21 = .ok (.ireturn, 1) := by decide +kernel
theorem dX11_priceOf_0 : decode cX11_priceOf 0 = .ok (.aload_n 0, 1) := by decide +kernel
theorem dX11_priceOf_1 : decode cX11_priceOf 1 = .ok (.iconst 2, 1) := by decide +kernel
theorem dX11_priceOf_2 : decode cX11_priceOf 2 = .ok (.iload_n 1, 1) := by decide +kernel
theorem dX11_priceOf_3 : decode cX11_priceOf 3 = .ok (.iload_n 2, 1) := by decide +kernel
theorem dX11_priceOf_4 : decode cX11_priceOf 4 = .ok (.aload_n 0, 1) := by decide +kernel
theorem dX11_priceOf_5 : decode cX11_priceOf 5 = .ok (.getfield 208, 3) := by decide +kernel
theorem dX11_priceOf_8 : decode cX11_priceOf 8 = .ok (.bipush 10, 2) := by decide +kernel
theorem dX11_priceOf_10 : decode cX11_priceOf 10 = .ok (.invokevirtual 217, 3) := by decide +kernel
theorem dX11_priceOf_13 : decode cX11_priceOf 13 = .ok (.ireturn, 1) := by decide +kernel
theorem dX11_lumpOf_0 : decode cX11_lumpOf 0 = .ok (.aload_n 0, 1) := by decide +kernel
theorem dX11_lumpOf_1 : decode cX11_lumpOf 1 = .ok (.iconst 3, 1) := by decide +kernel
theorem dX11_lumpOf_2 : decode cX11_lumpOf 2 = .ok (.iload_n 1, 1) := by decide +kernel
theorem dX11_lumpOf_3 : decode cX11_lumpOf 3 = .ok (.iload_n 2, 1) := by decide +kernel
theorem dX11_lumpOf_4 : decode cX11_lumpOf 4 = .ok (.aload_n 0, 1) := by decide +kernel
theorem dX11_lumpOf_5 : decode cX11_lumpOf 5 = .ok (.getfield 208, 3) := by decide +kernel
theorem dX11_lumpOf_8 : decode cX11_lumpOf 8 = .ok (.iconst 0, 1) := by decide +kernel
theorem dX11_lumpOf_9 : decode cX11_lumpOf 9 = .ok (.invokevirtual 217, 3) := by decide +kernel
theorem dX11_lumpOf_12 : decode cX11_lumpOf 12 = .ok (.ireturn, 1) := by decide +kernel
theorem dX11_asks_0 : decode cX11_asks 0 = .ok (.aload_n 0, 1) := by decide +kernel
theorem dX11_asks_1 : decode cX11_asks 1 = .ok (.iconst 0, 1) := by decide +kernel
theorem dX11_asks_2 : decode cX11_asks 2 = .ok (.putfield 129, 3) := by decide +kernel
theorem dX11_asks_5 : decode cX11_asks 5 = .ok (.aload_n 0, 1) := by decide +kernel
theorem dX11_asks_6 : decode cX11_asks 6 = .ok (.iload_n 1, 1) := by decide +kernel
theorem dX11_asks_7 : decode cX11_asks 7 = .ok (.invokevirtual 221, 3) := by decide +kernel
theorem dX11_asks_10 : decode cX11_asks 10 = .ok (.ifCond .eq 12, 3) := by decide +kernel
theorem dX11_asks_13 : decode cX11_asks 13 = .ok (.iload_n 2, 1) := by decide +kernel
theorem dX11_asks_14 : decode cX11_asks 14 = .ok (.iconst 0, 1) := by decide +kernel
theorem dX11_asks_15 : decode cX11_asks 15 = .ok (.iconst 2, 1) := by decide +kernel
theorem dX11_asks_16 : decode cX11_asks 16 = .ok (.invokestatic 204, 3) := by decide +kernel
theorem dX11_asks_19 : decode cX11_asks 19 = .ok (.ifCond .ne 5, 3) := by decide +kernel
theorem dX11_asks_22 : decode cX11_asks 22 = .ok (.iconst (-1), 1) := by decide +kernel
theorem dX11_asks_23 : decode cX11_asks 23 = .ok (.ireturn, 1) := by decide +kernel
theorem dX11_asks_24 : decode cX11_asks 24 = .ok (.iload_n 2, 1) := by decide +kernel
theorem dX11_asks_25 : decode cX11_asks 25 = .ok (.ifCond .ne 20, 3) := by decide +kernel
theorem dX11_asks_28 : decode cX11_asks 28 = .ok (.aload_n 0, 1) := by decide +kernel
theorem dX11_asks_29 : decode cX11_asks 29 = .ok (.iload_n 1, 1) := by decide +kernel
theorem dX11_asks_30 : decode cX11_asks 30 = .ok (.iconst (-1), 1) := by decide +kernel
theorem dX11_asks_31 : decode cX11_asks 31 = .ok (.invokevirtual 224, 3) := by decide +kernel
theorem dX11_asks_34 : decode cX11_asks 34 = .ok (.ifCond .eq 7, 3) := by decide +kernel
theorem dX11_asks_37 : decode cX11_asks 37 = .ok (.iconst 1, 1) := by decide +kernel
theorem dX11_asks_38 : decode cX11_asks 38 = .ok (.goto 27, 3) := by decide +kernel
theorem dX11_asks_41 : decode cX11_asks 41 = .ok (.iconst 0, 1) := by decide +kernel
theorem dX11_asks_42 : decode cX11_asks 42 = .ok (.goto 23, 3) := by decide +kernel
theorem dX11_asks_45 : decode cX11_asks 45 = .ok (.iload_n 2, 1) := by decide +kernel
theorem dX11_asks_46 : decode cX11_asks 46 = .ok (.iconst 1, 1) := by decide +kernel
theorem dX11_asks_47 : decode cX11_asks 47 = .ok (.if_icmp .ne 12, 3) := by decide +kernel
theorem dX11_asks_50 : decode cX11_asks 50 = .ok (.aload_n 0, 1) := by decide +kernel
theorem dX11_asks_51 : decode cX11_asks 51 = .ok (.iload_n 1, 1) := by decide +kernel
theorem dX11_asks_52 : decode cX11_asks 52 = .ok (.iconst (-1), 1) := by decide +kernel
theorem dX11_asks_53 : decode cX11_asks 53 = .ok (.invokevirtual 227, 3) := by decide +kernel
theorem dX11_asks_56 : decode cX11_asks 56 = .ok (.goto 9, 3) := by decide +kernel
theorem dX11_asks_59 : decode cX11_asks 59 = .ok (.aload_n 0, 1) := by decide +kernel
theorem dX11_asks_60 : decode cX11_asks 60 = .ok (.iload_n 1, 1) := by decide +kernel
theorem dX11_asks_61 : decode cX11_asks 61 = .ok (.iconst (-1), 1) := by decide +kernel
theorem dX11_asks_62 : decode cX11_asks 62 = .ok (.invokevirtual 230, 3) := by decide +kernel
theorem dX11_asks_65 : decode cX11_asks 65 = .ok (.ireturn, 1) := by decide +kernel
theorem dX11_isHolder_0 : decode cX11_isHolder 0 = .ok (.iload_n 0, 1) := by decide +kernel
theorem dX11_isHolder_1 : decode cX11_isHolder 1 = .ok (.ifCond .lt 13, 3) := by decide +kernel
theorem dX11_isHolder_4 : decode cX11_isHolder 4 = .ok (.iload_n 0, 1) := by decide +kernel
theorem dX11_isHolder_5 : decode cX11_isHolder 5 = .ok (.bipush 8, 2) := by decide +kernel
theorem dX11_isHolder_7 : decode cX11_isHolder 7 = .ok (.if_icmp .ge 7, 3) := by decide +kernel
theorem dX11_isHolder_10 : decode cX11_isHolder 10 = .ok (.iconst 1, 1) := by decide +kernel
theorem dX11_isHolder_11 : decode cX11_isHolder 11 = .ok (.goto 4, 3) := by decide +kernel
theorem dX11_isHolder_14 : decode cX11_isHolder 14 = .ok (.iconst 0, 1) := by decide +kernel
theorem dX11_isHolder_15 : decode cX11_isHolder 15 = .ok (.ireturn, 1) := by decide +kernel
theorem dX11_rent_0 : decode cX11_rent 0 = .ok (.aload_n 0, 1) := by decide +kernel
theorem dX11_rent_1 : decode cX11_rent 1 = .ok (.iconst 0, 1) := by decide +kernel
theorem dX11_rent_2 : decode cX11_rent 2 = .ok (.putfield 129, 3) := by decide +kernel
theorem dX11_rent_5 : decode cX11_rent 5 = .ok (.aload_n 0, 1) := by decide +kernel
theorem dX11_rent_6 : decode cX11_rent 6 = .ok (.getfield 233, 3) := by decide +kernel
theorem dX11_rent_9 : decode cX11_rent 9 = .ok (.bipush 16, 2) := by decide +kernel
theorem dX11_rent_11 : decode cX11_rent 11 = .ok (.if_icmp .eq 56, 3) := by decide +kernel
theorem dX11_rent_14 : decode cX11_rent 14 = .ok (.iload_n 1, 1) := by decide +kernel
theorem dX11_rent_15 : decode cX11_rent 15 = .ok (.invokestatic 236, 3) := by decide +kernel
theorem dX11_rent_18 : decode cX11_rent 18 = .ok (.ifCond .eq 49, 3) := by decide +kernel
theorem dX11_rent_21 : decode cX11_rent 21 = .ok (.aload_n 0, 1) := by decide +kernel
theorem dX11_rent_22 : decode cX11_rent 22 = .ok (.iload_n 2, 1) := by decide +kernel
theorem dX11_rent_23 : decode cX11_rent 23 = .ok (.invokevirtual 221, 3) := by decide +kernel
theorem dX11_rent_26 : decode cX11_rent 26 = .ok (.ifCond .eq 41, 3) := by decide +kernel
theorem dX11_rent_29 : decode cX11_rent 29 = .ok (.iload_n 3, 1) := by decide +kernel
theorem dX11_rent_30 : decode cX11_rent 30 = .ok (.iconst (-1), 1) := by decide +kernel
theorem dX11_rent_31 : decode cX11_rent 31 = .ok (.if_icmp .eq 16, 3) := by decide +kernel
theorem dX11_rent_34 : decode cX11_rent 34 = .ok (.aload_n 0, 1) := by decide +kernel
theorem dX11_rent_35 : decode cX11_rent 35 = .ok (.iload_n 3, 1) := by decide +kernel
theorem dX11_rent_36 : decode cX11_rent 36 = .ok (.invokevirtual 221, 3) := by decide +kernel
theorem dX11_rent_39 : decode cX11_rent 39 = .ok (.ifCond .eq 28, 3) := by decide +kernel
theorem dX11_rent_42 : decode cX11_rent 42 = .ok (.iload_n 2, 1) := by decide +kernel
theorem dX11_rent_43 : decode cX11_rent 43 = .ok (.iload_n 3, 1) := by decide +kernel
theorem dX11_rent_44 : decode cX11_rent 44 = .ok (.if_icmp .eq 23, 3) := by decide +kernel
theorem dX11_rent_47 : decode cX11_rent 47 = .ok (.iload 4, 2) := by decide +kernel
theorem dX11_rent_49 : decode cX11_rent 49 = .ok (.iconst 1, 1) := by decide +kernel
theorem dX11_rent_50 : decode cX11_rent 50 = .ok (.bipush 99, 2) := by decide +kernel
theorem dX11_rent_52 : decode cX11_rent 52 = .ok (.invokestatic 204, 3) := by decide +kernel
theorem dX11_rent_55 : decode cX11_rent 55 = .ok (.ifCond .eq 12, 3) := by decide +kernel
theorem dX11_rent_58 : decode cX11_rent 58 = .ok (.aload_n 0, 1) := by decide +kernel
theorem dX11_rent_59 : decode cX11_rent 59 = .ok (.iload_n 2, 1) := by decide +kernel
theorem dX11_rent_60 : decode cX11_rent 60 = .ok (.iload_n 3, 1) := by decide +kernel
theorem dX11_rent_61 : decode cX11_rent 61 = .ok (.invokevirtual 224, 3) := by decide +kernel
theorem dX11_rent_64 : decode cX11_rent 64 = .ok (.ifCond .ne 5, 3) := by decide +kernel
theorem dX11_rent_67 : decode cX11_rent 67 = .ok (.iconst (-1), 1) := by decide +kernel
theorem dX11_rent_68 : decode cX11_rent 68 = .ok (.ireturn, 1) := by decide +kernel
theorem dX11_rent_69 : decode cX11_rent 69 = .ok (.aload_n 0, 1) := by decide +kernel
theorem dX11_rent_70 : decode cX11_rent 70 = .ok (.getfield 19, 3) := by decide +kernel
theorem dX11_rent_73 : decode cX11_rent 73 = .ok (.aload_n 0, 1) := by decide +kernel
theorem dX11_rent_74 : decode cX11_rent 74 = .ok (.getfield 233, 3) := by decide +kernel
theorem dX11_rent_77 : decode cX11_rent 77 = .ok (.aload_n 0, 1) := by decide +kernel
theorem dX11_rent_78 : decode cX11_rent 78 = .ok (.getfield 208, 3) := by decide +kernel
theorem dX11_rent_81 : decode cX11_rent 81 = .ok (.iastore, 1) := by decide +kernel
theorem dX11_rent_82 : decode cX11_rent 82 = .ok (.aload_n 0, 1) := by decide +kernel
theorem dX11_rent_83 : decode cX11_rent 83 = .ok (.getfield 22, 3) := by decide +kernel
theorem dX11_rent_86 : decode cX11_rent 86 = .ok (.aload_n 0, 1) := by decide +kernel
theorem dX11_rent_87 : decode cX11_rent 87 = .ok (.getfield 233, 3) := by decide +kernel
theorem dX11_rent_90 : decode cX11_rent 90 = .ok (.iload_n 1, 1) := by decide +kernel
theorem dX11_rent_91 : decode cX11_rent 91 = .ok (.iastore, 1) := by decide +kernel
theorem dX11_rent_92 : decode cX11_rent 92 = .ok (.aload_n 0, 1) := by decide +kernel
theorem dX11_rent_93 : decode cX11_rent 93 = .ok (.getfield 25, 3) := by decide +kernel
theorem dX11_rent_96 : decode cX11_rent 96 = .ok (.aload_n 0, 1) := by decide +kernel
theorem dX11_rent_97 : decode cX11_rent 97 = .ok (.getfield 233, 3) := by decide +kernel
theorem dX11_rent_100 : decode cX11_rent 100 = .ok (.iload_n 2, 1) := by decide +kernel
theorem dX11_rent_101 : decode cX11_rent 101 = .ok (.iastore, 1) := by decide +kernel
theorem dX11_rent_102 : decode cX11_rent 102 = .ok (.aload_n 0, 1) := by decide +kernel
theorem dX11_rent_103 : decode cX11_rent 103 = .ok (.getfield 28, 3) := by decide +kernel
theorem dX11_rent_106 : decode cX11_rent 106 = .ok (.aload_n 0, 1) := by decide +kernel
theorem dX11_rent_107 : decode cX11_rent 107 = .ok (.getfield 233, 3) := by decide +kernel
theorem dX11_rent_110 : decode cX11_rent 110 = .ok (.iload_n 3, 1) := by decide +kernel
theorem dX11_rent_111 : decode cX11_rent 111 = .ok (.iastore, 1) := by decide +kernel
theorem dX11_rent_112 : decode cX11_rent 112 = .ok (.aload_n 0, 1) := by decide +kernel
theorem dX11_rent_113 : decode cX11_rent 113 = .ok (.getfield 31, 3) := by decide +kernel
theorem dX11_rent_116 : decode cX11_rent 116 = .ok (.aload_n 0, 1) := by decide +kernel
theorem dX11_rent_117 : decode cX11_rent 117 = .ok (.getfield 233, 3) := by decide +kernel
theorem dX11_rent_120 : decode cX11_rent 120 = .ok (.iload 4, 2) := by decide +kernel
theorem dX11_rent_122 : decode cX11_rent 122 = .ok (.iastore, 1) := by decide +kernel
theorem dX11_rent_123 : decode cX11_rent 123 = .ok (.aload_n 0, 1) := by decide +kernel
theorem dX11_rent_124 : decode cX11_rent 124 = .ok (.getfield 34, 3) := by decide +kernel
theorem dX11_rent_127 : decode cX11_rent 127 = .ok (.aload_n 0, 1) := by decide +kernel
theorem dX11_rent_128 : decode cX11_rent 128 = .ok (.getfield 233, 3) := by decide +kernel
theorem dX11_rent_131 : decode cX11_rent 131 = .ok (.iload 4, 2) := by decide +kernel
theorem dX11_rent_133 : decode cX11_rent 133 = .ok (.aload_n 0, 1) := by decide +kernel
theorem dX11_rent_134 : decode cX11_rent 134 = .ok (.iload_n 2, 1) := by decide +kernel
theorem dX11_rent_135 : decode cX11_rent 135 = .ok (.iload_n 3, 1) := by decide +kernel
theorem dX11_rent_136 : decode cX11_rent 136 = .ok (.invokevirtual 227, 3) := by decide +kernel
theorem dX11_rent_139 : decode cX11_rent 139 = .ok (.imul, 1) := by decide +kernel
theorem dX11_rent_140 : decode cX11_rent 140 = .ok (.iastore, 1) := by decide +kernel
theorem dX11_rent_141 : decode cX11_rent 141 = .ok (.aload_n 0, 1) := by decide +kernel
theorem dX11_rent_142 : decode cX11_rent 142 = .ok (.dup, 1) := by decide +kernel
theorem dX11_rent_143 : decode cX11_rent 143 = .ok (.getfield 233, 3) := by decide +kernel
theorem dX11_rent_146 : decode cX11_rent 146 = .ok (.iconst 1, 1) := by decide +kernel
theorem dX11_rent_147 : decode cX11_rent 147 = .ok (.iadd, 1) := by decide +kernel
theorem dX11_rent_148 : decode cX11_rent 148 = .ok (.putfield 233, 3) := by decide +kernel
theorem dX11_rent_151 : decode cX11_rent 151 = .ok (.aload_n 0, 1) := by decide +kernel
theorem dX11_rent_152 : decode cX11_rent 152 = .ok (.getfield 233, 3) := by decide +kernel
theorem dX11_rent_155 : decode cX11_rent 155 = .ok (.iconst 1, 1) := by decide +kernel
theorem dX11_rent_156 : decode cX11_rent 156 = .ok (.isub, 1) := by decide +kernel
theorem dX11_rent_157 : decode cX11_rent 157 = .ok (.ireturn, 1) := by decide +kernel
theorem dX11_isRent_0 : decode cX11_isRent 0 = .ok (.iload_n 1, 1) := by decide +kernel
theorem dX11_isRent_1 : decode cX11_isRent 1 = .ok (.ifCond .lt 15, 3) := by decide +kernel
theorem dX11_isRent_4 : decode cX11_isRent 4 = .ok (.iload_n 1, 1) := by decide +kernel
theorem dX11_isRent_5 : decode cX11_isRent 5 = .ok (.aload_n 0, 1) := by decide +kernel
theorem dX11_isRent_6 : decode cX11_isRent 6 = .ok (.getfield 233, 3) := by decide +kernel
theorem dX11_isRent_9 : decode cX11_isRent 9 = .ok (.if_icmp .ge 7, 3) := by decide +kernel
theorem dX11_isRent_12 : decode cX11_isRent 12 = .ok (.iconst 1, 1) := by decide +kernel
theorem dX11_isRent_13 : decode cX11_isRent 13 = .ok (.goto 4, 3) := by decide +kernel
theorem dX11_isRent_16 : decode cX11_isRent 16 = .ok (.iconst 0, 1) := by decide +kernel
theorem dX11_isRent_17 : decode cX11_isRent 17 = .ok (.ireturn, 1) := by decide +kernel
theorem dX11_partsOf_0 : decode cX11_partsOf 0 = .ok (.iload_n 3, 1) := by decide +kernel
theorem dX11_partsOf_1 : decode cX11_partsOf 1 = .ok (.aload_n 0, 1) := by decide +kernel
theorem dX11_partsOf_2 : decode cX11_partsOf 2 = .ok (.getfield 19, 3) := by decide +kernel
theorem dX11_partsOf_5 : decode cX11_partsOf 5 = .ok (.iload_n 1, 1) := by decide +kernel
theorem dX11_partsOf_6 : decode cX11_partsOf 6 = .ok (.iaload, 1) := by decide +kernel
theorem dX11_partsOf_7 : decode cX11_partsOf 7 = .ok (.if_icmp .ge 5, 3) := by decide +kernel
theorem dX11_partsOf_10 : decode cX11_partsOf 10 = .ok (.iconst 0, 1) := by decide +kernel
theorem dX11_partsOf_11 : decode cX11_partsOf 11 = .ok (.ireturn, 1) := by decide +kernel
theorem dX11_partsOf_12 : decode cX11_partsOf 12 = .ok (.iload_n 2, 1) := by decide +kernel
theorem dX11_partsOf_13 : decode cX11_partsOf 13 = .ok (.aload_n 0, 1) := by decide +kernel
theorem dX11_partsOf_14 : decode cX11_partsOf 14 = .ok (.getfield 22, 3) := by decide +kernel
theorem dX11_partsOf_17 : decode cX11_partsOf 17 = .ok (.iload_n 1, 1) := by decide +kernel
theorem dX11_partsOf_18 : decode cX11_partsOf 18 = .ok (.iaload, 1) := by decide +kernel
theorem dX11_partsOf_19 : decode cX11_partsOf 19 = .ok (.if_icmp .ne 8, 3) := by decide +kernel
theorem dX11_partsOf_22 : decode cX11_partsOf 22 = .ok (.bipush 60, 2) := by decide +kernel
theorem dX11_partsOf_24 : decode cX11_partsOf 24 = .ok (.goto 4, 3) := by decide +kernel
theorem dX11_partsOf_27 : decode cX11_partsOf 27 = .ok (.iconst 0, 1) := by decide +kernel
theorem dX11_partsOf_28 : decode cX11_partsOf 28 = .ok (.istore 4, 2) := by decide +kernel
theorem dX11_partsOf_30 : decode cX11_partsOf 30 = .ok (.iconst 0, 1) := by decide +kernel
theorem dX11_partsOf_31 : decode cX11_partsOf 31 = .ok (.istore 5, 2) := by decide +kernel
theorem dX11_partsOf_33 : decode cX11_partsOf 33 = .ok (.iload 5, 2) := by decide +kernel
theorem dX11_partsOf_35 : decode cX11_partsOf 35 = .ok (.aload_n 0, 1) := by decide +kernel
theorem dX11_partsOf_36 : decode cX11_partsOf 36 = .ok (.getfield 239, 3) := by decide +kernel
theorem dX11_partsOf_39 : decode cX11_partsOf 39 = .ok (.if_icmp .ge 106, 3) := by decide +kernel
theorem dX11_partsOf_42 : decode cX11_partsOf 42 = .ok (.aload_n 0, 1) := by decide +kernel
theorem dX11_partsOf_43 : decode cX11_partsOf 43 = .ok (.getfield 37, 3) := by decide +kernel
theorem dX11_partsOf_46 : decode cX11_partsOf 46 = .ok (.iconst 5, 1) := by decide +kernel
theorem dX11_partsOf_47 : decode cX11_partsOf 47 = .ok (.iload 5, 2) := by decide +kernel
theorem dX11_partsOf_49 : decode cX11_partsOf 49 = .ok (.imul, 1) := by decide +kernel
theorem dX11_partsOf_50 : decode cX11_partsOf 50 = .ok (.iaload, 1) := by decide +kernel
theorem dX11_partsOf_51 : decode cX11_partsOf 51 = .ok (.iload_n 1, 1) := by decide +kernel
theorem dX11_partsOf_52 : decode cX11_partsOf 52 = .ok (.if_icmp .ne 87, 3) := by decide +kernel
theorem dX11_partsOf_55 : decode cX11_partsOf 55 = .ok (.aload_n 0, 1) := by decide +kernel
theorem dX11_partsOf_56 : decode cX11_partsOf 56 = .ok (.getfield 37, 3) := by decide +kernel
theorem dX11_partsOf_59 : decode cX11_partsOf 59 = .ok (.iconst 5, 1) := by decide +kernel
theorem dX11_partsOf_60 : decode cX11_partsOf 60 = .ok (.iload 5, 2) := by decide +kernel
theorem dX11_partsOf_62 : decode cX11_partsOf 62 = .ok (.imul, 1) := by decide +kernel
theorem dX11_partsOf_63 : decode cX11_partsOf 63 = .ok (.iconst 4, 1) := by decide +kernel
theorem dX11_partsOf_64 : decode cX11_partsOf 64 = .ok (.iadd, 1) := by decide +kernel
theorem dX11_partsOf_65 : decode cX11_partsOf 65 = .ok (.iaload, 1) := by decide +kernel
theorem dX11_partsOf_66 : decode cX11_partsOf 66 = .ok (.iload_n 3, 1) := by decide +kernel
theorem dX11_partsOf_67 : decode cX11_partsOf 67 = .ok (.if_icmp .le 6, 3) := by decide +kernel
theorem dX11_partsOf_70 : decode cX11_partsOf 70 = .ok (.goto 69, 3) := by decide +kernel
theorem dX11_partsOf_73 : decode cX11_partsOf 73 = .ok (.iload 4, 2) := by decide +kernel
theorem dX11_partsOf_75 : decode cX11_partsOf 75 = .ok (.aload_n 0, 1) := by decide +kernel
theorem dX11_partsOf_76 : decode cX11_partsOf 76 = .ok (.getfield 37, 3) := by decide +kernel
theorem dX11_partsOf_79 : decode cX11_partsOf 79 = .ok (.iconst 5, 1) := by decide +kernel
theorem dX11_partsOf_80 : decode cX11_partsOf 80 = .ok (.iload 5, 2) := by decide +kernel
theorem dX11_partsOf_82 : decode cX11_partsOf 82 = .ok (.imul, 1) := by decide +kernel
theorem dX11_partsOf_83 : decode cX11_partsOf 83 = .ok (.iconst 2, 1) := by decide +kernel
theorem dX11_partsOf_84 : decode cX11_partsOf 84 = .ok (.iadd, 1) := by decide +kernel
theorem dX11_partsOf_85 : decode cX11_partsOf 85 = .ok (.iaload, 1) := by decide +kernel
theorem dX11_partsOf_86 : decode cX11_partsOf 86 = .ok (.iload_n 2, 1) := by decide +kernel
theorem dX11_partsOf_87 : decode cX11_partsOf 87 = .ok (.if_icmp .ne 17, 3) := by decide +kernel
theorem dX11_partsOf_90 : decode cX11_partsOf 90 = .ok (.aload_n 0, 1) := by decide +kernel
theorem dX11_partsOf_91 : decode cX11_partsOf 91 = .ok (.getfield 37, 3) := by decide +kernel
theorem dX11_partsOf_94 : decode cX11_partsOf 94 = .ok (.iconst 5, 1) := by decide +kernel
theorem dX11_partsOf_95 : decode cX11_partsOf 95 = .ok (.iload 5, 2) := by decide +kernel
theorem dX11_partsOf_97 : decode cX11_partsOf 97 = .ok (.imul, 1) := by decide +kernel
theorem dX11_partsOf_98 : decode cX11_partsOf 98 = .ok (.iconst 3, 1) := by decide +kernel
theorem dX11_partsOf_99 : decode cX11_partsOf 99 = .ok (.iadd, 1) := by decide +kernel
theorem dX11_partsOf_100 : decode cX11_partsOf 100 = .ok (.iaload, 1) := by decide +kernel
theorem dX11_partsOf_101 : decode cX11_partsOf 101 = .ok (.goto 4, 3) := by decide +kernel
theorem dX11_partsOf_104 : decode cX11_partsOf 104 = .ok (.iconst 0, 1) := by decide +kernel
theorem dX11_partsOf_105 : decode cX11_partsOf 105 = .ok (.aload_n 0, 1) := by decide +kernel
theorem dX11_partsOf_106 : decode cX11_partsOf 106 = .ok (.getfield 37, 3) := by decide +kernel
theorem dX11_partsOf_109 : decode cX11_partsOf 109 = .ok (.iconst 5, 1) := by decide +kernel
theorem dX11_partsOf_110 : decode cX11_partsOf 110 = .ok (.iload 5, 2) := by decide +kernel
theorem dX11_partsOf_112 : decode cX11_partsOf 112 = .ok (.imul, 1) := by decide +kernel
theorem dX11_partsOf_113 : decode cX11_partsOf 113 = .ok (.iconst 1, 1) := by decide +kernel
theorem dX11_partsOf_114 : decode cX11_partsOf 114 = .ok (.iadd, 1) := by decide +kernel
theorem dX11_partsOf_115 : decode cX11_partsOf 115 = .ok (.iaload, 1) := by decide +kernel
theorem dX11_partsOf_116 : decode cX11_partsOf 116 = .ok (.iload_n 2, 1) := by decide +kernel
theorem dX11_partsOf_117 : decode cX11_partsOf 117 = .ok (.if_icmp .ne 17, 3) := by decide +kernel
theorem dX11_partsOf_120 : decode cX11_partsOf 120 = .ok (.aload_n 0, 1) := by decide +kernel
theorem dX11_partsOf_121 : decode cX11_partsOf 121 = .ok (.getfield 37, 3) := by decide +kernel
theorem dX11_partsOf_124 : decode cX11_partsOf 124 = .ok (.iconst 5, 1) := by decide +kernel
theorem dX11_partsOf_125 : decode cX11_partsOf 125 = .ok (.iload 5, 2) := by decide +kernel
theorem dX11_partsOf_127 : decode cX11_partsOf 127 = .ok (.imul, 1) := by decide +kernel
theorem dX11_partsOf_128 : decode cX11_partsOf 128 = .ok (.iconst 3, 1) := by decide +kernel
theorem dX11_partsOf_129 : decode cX11_partsOf 129 = .ok (.iadd, 1) := by decide +kernel
theorem dX11_partsOf_130 : decode cX11_partsOf 130 = .ok (.iaload, 1) := by decide +kernel
theorem dX11_partsOf_131 : decode cX11_partsOf 131 = .ok (.goto 4, 3) := by decide +kernel
theorem dX11_partsOf_134 : decode cX11_partsOf 134 = .ok (.iconst 0, 1) := by decide +kernel
theorem dX11_partsOf_135 : decode cX11_partsOf 135 = .ok (.isub, 1) := by decide +kernel
theorem dX11_partsOf_136 : decode cX11_partsOf 136 = .ok (.iadd, 1) := by decide +kernel
theorem dX11_partsOf_137 : decode cX11_partsOf 137 = .ok (.istore 4, 2) := by decide +kernel
theorem dX11_partsOf_139 : decode cX11_partsOf 139 = .ok (.iinc 5 1, 3) := by decide +kernel
theorem dX11_partsOf_142 : decode cX11_partsOf 142 = .ok (.goto (-109), 3) := by decide +kernel
theorem dX11_partsOf_145 : decode cX11_partsOf 145 = .ok (.iload 4, 2) := by decide +kernel
theorem dX11_partsOf_147 : decode cX11_partsOf 147 = .ok (.ireturn, 1) := by decide +kernel
theorem dX11_sell_0 : decode cX11_sell 0 = .ok (.aload_n 0, 1) := by decide +kernel
theorem dX11_sell_1 : decode cX11_sell 1 = .ok (.iconst 0, 1) := by decide +kernel
theorem dX11_sell_2 : decode cX11_sell 2 = .ok (.putfield 129, 3) := by decide +kernel
theorem dX11_sell_5 : decode cX11_sell 5 = .ok (.aload_n 0, 1) := by decide +kernel
theorem dX11_sell_6 : decode cX11_sell 6 = .ok (.iload_n 1, 1) := by decide +kernel
theorem dX11_sell_7 : decode cX11_sell 7 = .ok (.invokevirtual 242, 3) := by decide +kernel
theorem dX11_sell_10 : decode cX11_sell 10 = .ok (.ifCond .eq 52, 3) := by decide +kernel
theorem dX11_sell_13 : decode cX11_sell 13 = .ok (.iload_n 2, 1) := by decide +kernel
theorem dX11_sell_14 : decode cX11_sell 14 = .ok (.invokestatic 236, 3) := by decide +kernel
theorem dX11_sell_17 : decode cX11_sell 17 = .ok (.ifCond .eq 45, 3) := by decide +kernel
theorem dX11_sell_20 : decode cX11_sell 20 = .ok (.iload_n 3, 1) := by decide +kernel
theorem dX11_sell_21 : decode cX11_sell 21 = .ok (.invokestatic 236, 3) := by decide +kernel
theorem dX11_sell_24 : decode cX11_sell 24 = .ok (.ifCond .eq 38, 3) := by decide +kernel
theorem dX11_sell_27 : decode cX11_sell 27 = .ok (.iload_n 2, 1) := by decide +kernel
theorem dX11_sell_28 : decode cX11_sell 28 = .ok (.iload_n 3, 1) := by decide +kernel
theorem dX11_sell_29 : decode cX11_sell 29 = .ok (.if_icmp .eq 33, 3) := by decide +kernel
theorem dX11_sell_32 : decode cX11_sell 32 = .ok (.iload 4, 2) := by decide +kernel
theorem dX11_sell_34 : decode cX11_sell 34 = .ok (.iconst 1, 1) := by decide +kernel
theorem dX11_sell_35 : decode cX11_sell 35 = .ok (.if_icmp .lt 27, 3) := by decide +kernel
theorem dX11_sell_38 : decode cX11_sell 38 = .ok (.iload 4, 2) := by decide +kernel
theorem dX11_sell_40 : decode cX11_sell 40 = .ok (.aload_n 0, 1) := by decide +kernel
theorem dX11_sell_41 : decode cX11_sell 41 = .ok (.iload_n 1, 1) := by decide +kernel
theorem dX11_sell_42 : decode cX11_sell 42 = .ok (.iload_n 2, 1) := by decide +kernel
theorem dX11_sell_43 : decode cX11_sell 43 = .ok (.aload_n 0, 1) := by decide +kernel
theorem dX11_sell_44 : decode cX11_sell 44 = .ok (.getfield 208, 3) := by decide +kernel
theorem dX11_sell_47 : decode cX11_sell 47 = .ok (.invokevirtual 245, 3) := by decide +kernel
theorem dX11_sell_50 : decode cX11_sell 50 = .ok (.if_icmp .gt 12, 3) := by decide +kernel
theorem dX11_sell_53 : decode cX11_sell 53 = .ok (.aload_n 0, 1) := by decide +kernel
theorem dX11_sell_54 : decode cX11_sell 54 = .ok (.getfield 239, 3) := by decide +kernel
theorem dX11_sell_57 : decode cX11_sell 57 = .ok (.bipush 40, 2) := by decide +kernel
theorem dX11_sell_59 : decode cX11_sell 59 = .ok (.if_icmp .ne 5, 3) := by decide +kernel
theorem dX11_sell_62 : decode cX11_sell 62 = .ok (.iconst 0, 1) := by decide +kernel
theorem dX11_sell_63 : decode cX11_sell 63 = .ok (.ireturn, 1) := by decide +kernel
theorem dX11_sell_64 : decode cX11_sell 64 = .ok (.aload_n 0, 1) := by decide +kernel
theorem dX11_sell_65 : decode cX11_sell 65 = .ok (.getfield 37, 3) := by decide +kernel
theorem dX11_sell_68 : decode cX11_sell 68 = .ok (.iconst 5, 1) := by decide +kernel
theorem dX11_sell_69 : decode cX11_sell 69 = .ok (.aload_n 0, 1) := by decide +kernel
theorem dX11_sell_70 : decode cX11_sell 70 = .ok (.getfield 239, 3) := by decide +kernel
theorem dX11_sell_73 : decode cX11_sell 73 = .ok (.imul, 1) := by decide +kernel
theorem dX11_sell_74 : decode cX11_sell 74 = .ok (.iload_n 1, 1) := by decide +kernel
theorem dX11_sell_75 : decode cX11_sell 75 = .ok (.iastore, 1) := by decide +kernel
theorem dX11_sell_76 : decode cX11_sell 76 = .ok (.aload_n 0, 1) := by decide +kernel
theorem dX11_sell_77 : decode cX11_sell 77 = .ok (.getfield 37, 3) := by decide +kernel
theorem dX11_sell_80 : decode cX11_sell 80 = .ok (.iconst 5, 1) := by decide +kernel
theorem dX11_sell_81 : decode cX11_sell 81 = .ok (.aload_n 0, 1) := by decide +kernel
theorem dX11_sell_82 : decode cX11_sell 82 = .ok (.getfield 239, 3) := by decide +kernel
theorem dX11_sell_85 : decode cX11_sell 85 = .ok (.imul, 1) := by decide +kernel
theorem dX11_sell_86 : decode cX11_sell 86 = .ok (.iconst 1, 1) := by decide +kernel
theorem dX11_sell_87 : decode cX11_sell 87 = .ok (.iadd, 1) := by decide +kernel
theorem dX11_sell_88 : decode cX11_sell 88 = .ok (.iload_n 2, 1) := by decide +kernel
theorem dX11_sell_89 : decode cX11_sell 89 = .ok (.iastore, 1) := by decide +kernel
theorem dX11_sell_90 : decode cX11_sell 90 = .ok (.aload_n 0, 1) := by decide +kernel
theorem dX11_sell_91 : decode cX11_sell 91 = .ok (.getfield 37, 3) := by decide +kernel
theorem dX11_sell_94 : decode cX11_sell 94 = .ok (.iconst 5, 1) := by decide +kernel
theorem dX11_sell_95 : decode cX11_sell 95 = .ok (.aload_n 0, 1) := by decide +kernel
theorem dX11_sell_96 : decode cX11_sell 96 = .ok (.getfield 239, 3) := by decide +kernel
theorem dX11_sell_99 : decode cX11_sell 99 = .ok (.imul, 1) := by decide +kernel
theorem dX11_sell_100 : decode cX11_sell 100 = .ok (.iconst 2, 1) := by decide +kernel
theorem dX11_sell_101 : decode cX11_sell 101 = .ok (.iadd, 1) := by decide +kernel
theorem dX11_sell_102 : decode cX11_sell 102 = .ok (.iload_n 3, 1) := by decide +kernel
theorem dX11_sell_103 : decode cX11_sell 103 = .ok (.iastore, 1) := by decide +kernel
theorem dX11_sell_104 : decode cX11_sell 104 = .ok (.aload_n 0, 1) := by decide +kernel
theorem dX11_sell_105 : decode cX11_sell 105 = .ok (.getfield 37, 3) := by decide +kernel
theorem dX11_sell_108 : decode cX11_sell 108 = .ok (.iconst 5, 1) := by decide +kernel
theorem dX11_sell_109 : decode cX11_sell 109 = .ok (.aload_n 0, 1) := by decide +kernel
theorem dX11_sell_110 : decode cX11_sell 110 = .ok (.getfield 239, 3) := by decide +kernel
theorem dX11_sell_113 : decode cX11_sell 113 = .ok (.imul, 1) := by decide +kernel
theorem dX11_sell_114 : decode cX11_sell 114 = .ok (.iconst 3, 1) := by decide +kernel
theorem dX11_sell_115 : decode cX11_sell 115 = .ok (.iadd, 1) := by decide +kernel
theorem dX11_sell_116 : decode cX11_sell 116 = .ok (.iload 4, 2) := by decide +kernel
theorem dX11_sell_118 : decode cX11_sell 118 = .ok (.iastore, 1) := by decide +kernel
theorem dX11_sell_119 : decode cX11_sell 119 = .ok (.aload_n 0, 1) := by decide +kernel
theorem dX11_sell_120 : decode cX11_sell 120 = .ok (.getfield 37, 3) := by decide +kernel
theorem dX11_sell_123 : decode cX11_sell 123 = .ok (.iconst 5, 1) := by decide +kernel
theorem dX11_sell_124 : decode cX11_sell 124 = .ok (.aload_n 0, 1) := by decide +kernel
theorem dX11_sell_125 : decode cX11_sell 125 = .ok (.getfield 239, 3) := by decide +kernel
theorem dX11_sell_128 : decode cX11_sell 128 = .ok (.imul, 1) := by decide +kernel
theorem dX11_sell_129 : decode cX11_sell 129 = .ok (.iconst 4, 1) := by decide +kernel
theorem dX11_sell_130 : decode cX11_sell 130 = .ok (.iadd, 1) := by decide +kernel
theorem dX11_sell_131 : decode cX11_sell 131 = .ok (.aload_n 0, 1) := by decide +kernel
theorem dX11_sell_132 : decode cX11_sell 132 = .ok (.getfield 208, 3) := by decide +kernel
theorem dX11_sell_135 : decode cX11_sell 135 = .ok (.iastore, 1) := by decide +kernel
theorem dX11_sell_136 : decode cX11_sell 136 = .ok (.aload_n 0, 1) := by decide +kernel
theorem dX11_sell_137 : decode cX11_sell 137 = .ok (.dup, 1) := by decide +kernel
theorem dX11_sell_138 : decode cX11_sell 138 = .ok (.getfield 239, 3) := by decide +kernel
theorem dX11_sell_141 : decode cX11_sell 141 = .ok (.iconst 1, 1) := by decide +kernel
theorem dX11_sell_142 : decode cX11_sell 142 = .ok (.iadd, 1) := by decide +kernel
theorem dX11_sell_143 : decode cX11_sell 143 = .ok (.putfield 239, 3) := by decide +kernel
theorem dX11_sell_146 : decode cX11_sell 146 = .ok (.iconst 1, 1) := by decide +kernel
theorem dX11_sell_147 : decode cX11_sell 147 = .ok (.ireturn, 1) := by decide +kernel
theorem dX11_parts_0 : decode cX11_parts 0 = .ok (.aload_n 0, 1) := by decide +kernel
theorem dX11_parts_1 : decode cX11_parts 1 = .ok (.iconst 0, 1) := by decide +kernel
theorem dX11_parts_2 : decode cX11_parts 2 = .ok (.putfield 129, 3) := by decide +kernel
theorem dX11_parts_5 : decode cX11_parts 5 = .ok (.aload_n 0, 1) := by decide +kernel
theorem dX11_parts_6 : decode cX11_parts 6 = .ok (.iload_n 1, 1) := by decide +kernel
theorem dX11_parts_7 : decode cX11_parts 7 = .ok (.invokevirtual 242, 3) := by decide +kernel
theorem dX11_parts_10 : decode cX11_parts 10 = .ok (.ifCond .eq 27, 3) := by decide +kernel
theorem dX11_parts_13 : decode cX11_parts 13 = .ok (.iload_n 2, 1) := by decide +kernel
theorem dX11_parts_14 : decode cX11_parts 14 = .ok (.invokestatic 236, 3) := by decide +kernel
theorem dX11_parts_17 : decode cX11_parts 17 = .ok (.ifCond .eq 20, 3) := by decide +kernel
theorem dX11_parts_20 : decode cX11_parts 20 = .ok (.iload_n 3, 1) := by decide +kernel
theorem dX11_parts_21 : decode cX11_parts 21 = .ok (.invokestatic 249, 3) := by decide +kernel
theorem dX11_parts_24 : decode cX11_parts 24 = .ok (.ifCond .eq 13, 3) := by decide +kernel
theorem dX11_parts_27 : decode cX11_parts 27 = .ok (.aload_n 0, 1) := by decide +kernel
theorem dX11_parts_28 : decode cX11_parts 28 = .ok (.iload_n 1, 1) := by decide +kernel
theorem dX11_parts_29 : decode cX11_parts 29 = .ok (.iload_n 2, 1) := by decide +kernel
theorem dX11_parts_30 : decode cX11_parts 30 = .ok (.iload_n 3, 1) := by decide +kernel
theorem dX11_parts_31 : decode cX11_parts 31 = .ok (.invokevirtual 245, 3) := by decide +kernel
theorem dX11_parts_34 : decode cX11_parts 34 = .ok (.goto 4, 3) := by decide +kernel
theorem dX11_parts_37 : decode cX11_parts 37 = .ok (.iconst (-1), 1) := by decide +kernel
theorem dX11_parts_38 : decode cX11_parts 38 = .ok (.ireturn, 1) := by decide +kernel
theorem dX11_told_0 : decode cX11_told 0 = .ok (.aload_n 0, 1) := by decide +kernel
theorem dX11_told_1 : decode cX11_told 1 = .ok (.getfield 40, 3) := by decide +kernel
theorem dX11_told_4 : decode cX11_told 4 = .ok (.aload_n 0, 1) := by decide +kernel
theorem dX11_told_5 : decode cX11_told 5 = .ok (.getfield 252, 3) := by decide +kernel
theorem dX11_told_8 : decode cX11_told 8 = .ok (.iload_n 1, 1) := by decide +kernel
theorem dX11_told_9 : decode cX11_told 9 = .ok (.iastore, 1) := by decide +kernel
theorem dX11_told_10 : decode cX11_told 10 = .ok (.aload_n 0, 1) := by decide +kernel
theorem dX11_told_11 : decode cX11_told 11 = .ok (.getfield 43, 3) := by decide +kernel
theorem dX11_told_14 : decode cX11_told 14 = .ok (.aload_n 0, 1) := by decide +kernel
theorem dX11_told_15 : decode cX11_told 15 = .ok (.getfield 252, 3) := by decide +kernel
theorem dX11_told_18 : decode cX11_told 18 = .ok (.iload_n 2, 1) := by decide +kernel
theorem dX11_told_19 : decode cX11_told 19 = .ok (.iastore, 1) := by decide +kernel
theorem dX11_told_20 : decode cX11_told 20 = .ok (.aload_n 0, 1) := by decide +kernel
theorem dX11_told_21 : decode cX11_told 21 = .ok (.getfield 46, 3) := by decide +kernel
theorem dX11_told_24 : decode cX11_told 24 = .ok (.aload_n 0, 1) := by decide +kernel
theorem dX11_told_25 : decode cX11_told 25 = .ok (.getfield 252, 3) := by decide +kernel
theorem dX11_told_28 : decode cX11_told 28 = .ok (.iload_n 3, 1) := by decide +kernel
theorem dX11_told_29 : decode cX11_told 29 = .ok (.iastore, 1) := by decide +kernel
theorem dX11_told_30 : decode cX11_told 30 = .ok (.aload_n 0, 1) := by decide +kernel
theorem dX11_told_31 : decode cX11_told 31 = .ok (.getfield 49, 3) := by decide +kernel
theorem dX11_told_34 : decode cX11_told 34 = .ok (.aload_n 0, 1) := by decide +kernel
theorem dX11_told_35 : decode cX11_told 35 = .ok (.getfield 252, 3) := by decide +kernel
theorem dX11_told_38 : decode cX11_told 38 = .ok (.aload_n 0, 1) := by decide +kernel
theorem dX11_told_39 : decode cX11_told 39 = .ok (.getfield 208, 3) := by decide +kernel
theorem dX11_told_42 : decode cX11_told 42 = .ok (.iastore, 1) := by decide +kernel
theorem dX11_told_43 : decode cX11_told 43 = .ok (.aload_n 0, 1) := by decide +kernel
theorem dX11_told_44 : decode cX11_told 44 = .ok (.dup, 1) := by decide +kernel
theorem dX11_told_45 : decode cX11_told 45 = .ok (.getfield 252, 3) := by decide +kernel
theorem dX11_told_48 : decode cX11_told 48 = .ok (.iconst 1, 1) := by decide +kernel
theorem dX11_told_49 : decode cX11_told 49 = .ok (.iadd, 1) := by decide +kernel
theorem dX11_told_50 : decode cX11_told 50 = .ok (.putfield 252, 3) := by decide +kernel
theorem dX11_told_53 : decode cX11_told 53 = .ok (.aload_n 0, 1) := by decide +kernel
theorem dX11_told_54 : decode cX11_told 54 = .ok (.getfield 252, 3) := by decide +kernel
theorem dX11_told_57 : decode cX11_told 57 = .ok (.iconst 1, 1) := by decide +kernel
theorem dX11_told_58 : decode cX11_told 58 = .ok (.isub, 1) := by decide +kernel
theorem dX11_told_59 : decode cX11_told 59 = .ok (.ireturn, 1) := by decide +kernel
theorem dX11_note_0 : decode cX11_note 0 = .ok (.aload_n 0, 1) := by decide +kernel
theorem dX11_note_1 : decode cX11_note 1 = .ok (.iconst 0, 1) := by decide +kernel
theorem dX11_note_2 : decode cX11_note 2 = .ok (.putfield 129, 3) := by decide +kernel
theorem dX11_note_5 : decode cX11_note 5 = .ok (.aload_n 0, 1) := by decide +kernel
theorem dX11_note_6 : decode cX11_note 6 = .ok (.getfield 252, 3) := by decide +kernel
theorem dX11_note_9 : decode cX11_note 9 = .ok (.bipush 60, 2) := by decide +kernel
theorem dX11_note_11 : decode cX11_note 11 = .ok (.if_icmp .eq 23, 3) := by decide +kernel
theorem dX11_note_14 : decode cX11_note 14 = .ok (.aload_n 0, 1) := by decide +kernel
theorem dX11_note_15 : decode cX11_note 15 = .ok (.iload_n 1, 1) := by decide +kernel
theorem dX11_note_16 : decode cX11_note 16 = .ok (.invokevirtual 221, 3) := by decide +kernel
theorem dX11_note_19 : decode cX11_note 19 = .ok (.ifCond .eq 15, 3) := by decide +kernel
theorem dX11_note_22 : decode cX11_note 22 = .ok (.iload_n 2, 1) := by decide +kernel
theorem dX11_note_23 : decode cX11_note 23 = .ok (.iconst 0, 1) := by decide +kernel
theorem dX11_note_24 : decode cX11_note 24 = .ok (.aload_n 0, 1) := by decide +kernel
theorem dX11_note_25 : decode cX11_note 25 = .ok (.getfield 208, 3) := by decide +kernel
theorem dX11_note_28 : decode cX11_note 28 = .ok (.invokestatic 204, 3) := by decide +kernel
theorem dX11_note_31 : decode cX11_note 31 = .ok (.ifCond .ne 7, 3) := by decide +kernel
theorem dX11_note_34 : decode cX11_note 34 = .ok (.iconst (-1), 1) := by decide +kernel
theorem dX11_note_35 : decode cX11_note 35 = .ok (.goto 18, 3) := by decide +kernel
theorem dX11_note_38 : decode cX11_note 38 = .ok (.aload_n 0, 1) := by decide +kernel
theorem dX11_note_39 : decode cX11_note 39 = .ok (.iload_n 3, 1) := by decide +kernel
theorem dX11_note_40 : decode cX11_note 40 = .ok (.ifCond .eq 7, 3) := by decide +kernel
theorem dX11_note_43 : decode cX11_note 43 = .ok (.iconst 1, 1) := by decide +kernel
theorem dX11_note_44 : decode cX11_note 44 = .ok (.goto 4, 3) := by decide +kernel
theorem dX11_note_47 : decode cX11_note 47 = .ok (.iconst 0, 1) := by decide +kernel
theorem dX11_note_48 : decode cX11_note 48 = .ok (.iload_n 1, 1) := by decide +kernel
theorem dX11_note_49 : decode cX11_note 49 = .ok (.iload_n 2, 1) := by decide +kernel
theorem dX11_note_50 : decode cX11_note 50 = .ok (.invokevirtual 255, 3) := by decide +kernel
theorem dX11_note_53 : decode cX11_note 53 = .ok (.ireturn, 1) := by decide +kernel
theorem dX11_strike_0 : decode cX11_strike 0 = .ok (.aload_n 0, 1) := by decide +kernel
theorem dX11_strike_1 : decode cX11_strike 1 = .ok (.iconst 0, 1) := by decide +kernel
theorem dX11_strike_2 : decode cX11_strike 2 = .ok (.putfield 129, 3) := by decide +kernel
theorem dX11_strike_5 : decode cX11_strike 5 = .ok (.aload_n 0, 1) := by decide +kernel
theorem dX11_strike_6 : decode cX11_strike 6 = .ok (.getfield 252, 3) := by decide +kernel
theorem dX11_strike_9 : decode cX11_strike 9 = .ok (.bipush 60, 2) := by decide +kernel
theorem dX11_strike_11 : decode cX11_strike 11 = .ok (.if_icmp .eq 15, 3) := by decide +kernel
theorem dX11_strike_14 : decode cX11_strike 14 = .ok (.iload_n 1, 1) := by decide +kernel
theorem dX11_strike_15 : decode cX11_strike 15 = .ok (.ifCond .lt 11, 3) := by decide +kernel
theorem dX11_strike_18 : decode cX11_strike 18 = .ok (.iload_n 1, 1) := by decide +kernel
theorem dX11_strike_19 : decode cX11_strike 19 = .ok (.aload_n 0, 1) := by decide +kernel
theorem dX11_strike_20 : decode cX11_strike 20 = .ok (.getfield 252, 3) := by decide +kernel
theorem dX11_strike_23 : decode cX11_strike 23 = .ok (.if_icmp .lt 7, 3) := by decide +kernel
theorem dX11_strike_26 : decode cX11_strike 26 = .ok (.iconst (-1), 1) := by decide +kernel
theorem dX11_strike_27 : decode cX11_strike 27 = .ok (.goto 10, 3) := by decide +kernel
theorem dX11_strike_30 : decode cX11_strike 30 = .ok (.aload_n 0, 1) := by decide +kernel
theorem dX11_strike_31 : decode cX11_strike 31 = .ok (.iconst 2, 1) := by decide +kernel
theorem dX11_strike_32 : decode cX11_strike 32 = .ok (.iload_n 1, 1) := by decide +kernel
theorem dX11_strike_33 : decode cX11_strike 33 = .ok (.iconst 0, 1) := by decide +kernel
theorem dX11_strike_34 : decode cX11_strike 34 = .ok (.invokevirtual 255, 3) := by decide +kernel
theorem dX11_strike_37 : decode cX11_strike 37 = .ok (.ireturn, 1) := by decide +kernel
theorem dX11_know_0 : decode cX11_know 0 = .ok (.iconst 0, 1) := by decide +kernel
theorem dX11_know_1 : decode cX11_know 1 = .ok (.istore_n 2, 1) := by decide +kernel
theorem dX11_know_2 : decode cX11_know 2 = .ok (.iload_n 2, 1) := by decide +kernel
theorem dX11_know_3 : decode cX11_know 3 = .ok (.aload_n 0, 1) := by decide +kernel
theorem dX11_know_4 : decode cX11_know 4 = .ok (.getfield 252, 3) := by decide +kernel
theorem dX11_know_7 : decode cX11_know 7 = .ok (.if_icmp .ge 30, 3) := by decide +kernel
theorem dX11_know_10 : decode cX11_know 10 = .ok (.aload_n 0, 1) := by decide +kernel
theorem dX11_know_11 : decode cX11_know 11 = .ok (.getfield 93, 3) := by decide +kernel
theorem dX11_know_14 : decode cX11_know 14 = .ok (.iload_n 2, 1) := by decide +kernel
theorem dX11_know_15 : decode cX11_know 15 = .ok (.aload_n 0, 1) := by decide +kernel
theorem dX11_know_16 : decode cX11_know 16 = .ok (.getfield 49, 3) := by decide +kernel
theorem dX11_know_19 : decode cX11_know 19 = .ok (.iload_n 2, 1) := by decide +kernel
theorem dX11_know_20 : decode cX11_know 20 = .ok (.iaload, 1) := by decide +kernel
