theorem dX0_clear_0 : decode cX0_clear 0 = .ok (.aload_n 0, 1) := by decide +kernel
theorem dX0_clear_1 : decode cX0_clear 1 = .ok (.iconst 0, 1) := by decide +kernel
theorem dX0_clear_2 : decode cX0_clear 2 = .ok (.putfield 28, 3) := by decide +kernel
theorem dX0_clear_5 : decode cX0_clear 5 = .ok (.aload_n 0, 1) := by decide +kernel
theorem dX0_clear_6 : decode cX0_clear 6 = .ok (.getfield 21, 3) := by decide +kernel
theorem dX0_clear_9 : decode cX0_clear 9 = .ok (.iconst (-1), 1) := by decide +kernel
theorem dX0_clear_10 : decode cX0_clear 10 = .ok (.invokestatic 32, 3) := by decide +kernel
theorem dX0_clear_13 : decode cX0_clear 13 = .ok (.return_, 1) := by decide +kernel
theorem dX0_setting_0 : decode cX0_setting 0 = .ok (.aload_n 0, 1) := by decide +kernel
theorem dX0_setting_1 : decode cX0_setting 1 = .ok (.getfield 21, 3) := by decide +kernel
theorem dX0_setting_4 : decode cX0_setting 4 = .ok (.iload_n 1, 1) := by decide +kernel
theorem dX0_setting_5 : decode cX0_setting 5 = .ok (.iaload, 1) := by decide +kernel
theorem dX0_setting_6 : decode cX0_setting 6 = .ok (.iconst (-1), 1) := by decide +kernel
theorem dX0_setting_7 : decode cX0_setting 7 = .ok (.if_icmp .ne 11, 3) := by decide +kernel
theorem dX0_setting_10 : decode cX0_setting 10 = .ok (.getstatic 17, 3) := by decide +kernel
theorem dX0_setting_13 : decode cX0_setting 13 = .ok (.iload_n 1, 1) := by decide +kernel
theorem dX0_setting_14 : decode cX0_setting 14 = .ok (.iaload, 1) := by decide +kernel
theorem dX0_setting_15 : decode cX0_setting 15 = .ok (.goto 9, 3) := by decide +kernel
theorem dX0_setting_18 : decode cX0_setting 18 = .ok (.aload_n 0, 1) := by decide +kernel
theorem dX0_setting_19 : decode cX0_setting 19 = .ok (.getfield 21, 3) := by decide +kernel
theorem dX0_setting_22 : decode cX0_setting 22 = .ok (.iload_n 1, 1) := by decide +kernel
theorem dX0_setting_23 : decode cX0_setting 23 = .ok (.iaload, 1) := by decide +kernel
theorem dX0_setting_24 : decode cX0_setting 24 = .ok (.ireturn, 1) := by decide +kernel
theorem dX0_latest_0 : decode cX0_latest 0 = .ok (.aload_n 0, 1) := by decide +kernel
theorem dX0_latest_1 : decode cX0_latest 1 = .ok (.getfield 28, 3) := by decide +kernel
theorem dX0_latest_4 : decode cX0_latest 4 = .ok (.iconst 1, 1) := by decide +kernel
theorem dX0_latest_5 : decode cX0_latest 5 = .ok (.isub, 1) := by decide +kernel
theorem dX0_latest_6 : decode cX0_latest 6 = .ok (.istore 7, 2) := by decide +kernel
theorem dX0_latest_8 : decode cX0_latest 8 = .ok (.iload 7, 2) := by decide +kernel
theorem dX0_latest_10 : decode cX0_latest 10 = .ok (.ifCond .lt 54, 3) := by decide +kernel
theorem dX0_latest_13 : decode cX0_latest 13 = .ok (.aload_n 0, 1) := by decide +kernel
theorem dX0_latest_14 : decode cX0_latest 14 = .ok (.getfield 11, 3) := by decide +kernel
theorem dX0_latest_17 : decode cX0_latest 17 = .ok (.iload 7, 2) := by decide +kernel
theorem dX0_latest_19 : decode cX0_latest 19 = .ok (.aaload, 1) := by decide +kernel
theorem dX0_latest_20 : decode cX0_latest 20 = .ok (.astore 8, 2) := by decide +kernel
theorem dX0_latest_22 : decode cX0_latest 22 = .ok (.aload 8, 2) := by decide +kernel
theorem dX0_latest_24 : decode cX0_latest 24 = .ok (.getfield 38, 3) := by decide +kernel
theorem dX0_latest_27 : decode cX0_latest 27 = .ok (.aload_n 1, 1) := by decide +kernel
theorem dX0_latest_28 : decode cX0_latest 28 = .ok (.if_acmp .eq 12, 3) := by decide +kernel
theorem dX0_latest_31 : decode cX0_latest 31 = .ok (.aload 8, 2) := by decide +kernel
theorem dX0_latest_33 : decode cX0_latest 33 = .ok (.getfield 38, 3) := by decide +kernel
theorem dX0_latest_36 : decode cX0_latest 36 = .ok (.aload_n 2, 1) := by decide +kernel
theorem dX0_latest_37 : decode cX0_latest 37 = .ok (.if_acmp .ne 21, 3) := by decide +kernel
theorem dX0_latest_40 : decode cX0_latest 40 = .ok (.aload 8, 2) := by decide +kernel
theorem dX0_latest_42 : decode cX0_latest 42 = .ok (.iload_n 3, 1) := by decide +kernel
theorem dX0_latest_43 : decode cX0_latest 43 = .ok (.iload 4, 2) := by decide +kernel
theorem dX0_latest_45 : decode cX0_latest 45 = .ok (.iload 5, 2) := by decide +kernel
theorem dX0_latest_47 : decode cX0_latest 47 = .ok (.iload 6, 2) := by decide +kernel
theorem dX0_latest_49 : decode cX0_latest 49 = .ok (.invokevirtual 42, 3) := by decide +kernel
theorem dX0_latest_52 : decode cX0_latest 52 = .ok (.ifCond .eq 6, 3) := by decide +kernel
theorem dX0_latest_55 : decode cX0_latest 55 = .ok (.aload 8, 2) := by decide +kernel
theorem dX0_latest_57 : decode cX0_latest 57 = .ok (.areturn, 1) := by decide +kernel
theorem dX0_latest_58 : decode cX0_latest 58 = .ok (.iinc 7 (-1), 3) := by decide +kernel
theorem dX0_latest_61 : decode cX0_latest 61 = .ok (.goto (-53), 3) := by decide +kernel
theorem dX0_latest_64 : decode cX0_latest 64 = .ok (.aconst_null, 1) := by decide +kernel
theorem dX0_latest_65 : decode cX0_latest 65 = .ok (.areturn, 1) := by decide +kernel
theorem dX1_has_0 : decode cX1_has 0 = .ok (.iload_n 1, 1) := by decide +kernel
theorem dX1_has_1 : decode cX1_has 1 = .ok (.ifCond .lt 15, 3) := by decide +kernel
theorem dX1_has_4 : decode cX1_has 4 = .ok (.iload_n 1, 1) := by decide +kernel
theorem dX1_has_5 : decode cX1_has 5 = .ok (.aload_n 0, 1) := by decide +kernel
theorem dX1_has_6 : decode cX1_has 6 = .ok (.getfield 48, 3) := by decide +kernel
theorem dX1_has_9 : decode cX1_has 9 = .ok (.if_icmp .ge 7, 3) := by decide +kernel
theorem dX1_has_12 : decode cX1_has 12 = .ok (.iconst 1, 1) := by decide +kernel
theorem dX1_has_13 : decode cX1_has 13 = .ok (.goto 4, 3) := by decide +kernel
theorem dX1_has_16 : decode cX1_has 16 = .ok (.iconst 0, 1) := by decide +kernel
theorem dX1_has_17 : decode cX1_has 17 = .ok (.ireturn, 1) := by decide +kernel
theorem dX1_write_0 : decode cX1_write 0 = .ok (.aload_n 0, 1) := by decide +kernel
theorem dX1_write_1 : decode cX1_write 1 = .ok (.getfield 48, 3) := by decide +kernel
theorem dX1_write_4 : decode cX1_write 4 = .ok (.bipush 60, 2) := by decide +kernel
theorem dX1_write_6 : decode cX1_write 6 = .ok (.if_icmp .lt 5, 3) := by decide +kernel
theorem dX1_write_9 : decode cX1_write 9 = .ok (.iconst (-1), 1) := by decide +kernel
theorem dX1_write_10 : decode cX1_write 10 = .ok (.ireturn, 1) := by decide +kernel
theorem dX1_write_11 : decode cX1_write 11 = .ok (.aload_n 0, 1) := by decide +kernel
theorem dX1_write_12 : decode cX1_write 12 = .ok (.getfield 9, 3) := by decide +kernel
theorem dX1_write_15 : decode cX1_write 15 = .ok (.aload_n 0, 1) := by decide +kernel
theorem dX1_write_16 : decode cX1_write 16 = .ok (.getfield 48, 3) := by decide +kernel
theorem dX1_write_19 : decode cX1_write 19 = .ok (.iload_n 1, 1) := by decide +kernel
theorem dX1_write_20 : decode cX1_write 20 = .ok (.iastore, 1) := by decide +kernel
theorem dX1_write_21 : decode cX1_write 21 = .ok (.aload_n 0, 1) := by decide +kernel
theorem dX1_write_22 : decode cX1_write 22 = .ok (.getfield 15, 3) := by decide +kernel
theorem dX1_write_25 : decode cX1_write 25 = .ok (.aload_n 0, 1) := by decide +kernel
theorem dX1_write_26 : decode cX1_write 26 = .ok (.getfield 48, 3) := by decide +kernel
theorem dX1_write_29 : decode cX1_write 29 = .ok (.iload_n 2, 1) := by decide +kernel
theorem dX1_write_30 : decode cX1_write 30 = .ok (.iastore, 1) := by decide +kernel
theorem dX1_write_31 : decode cX1_write 31 = .ok (.aload_n 0, 1) := by decide +kernel
theorem dX1_write_32 : decode cX1_write 32 = .ok (.getfield 18, 3) := by decide +kernel
theorem dX1_write_35 : decode cX1_write 35 = .ok (.aload_n 0, 1) := by decide +kernel
theorem dX1_write_36 : decode cX1_write 36 = .ok (.getfield 48, 3) := by decide +kernel
theorem dX1_write_39 : decode cX1_write 39 = .ok (.iload_n 3, 1) := by decide +kernel
theorem dX1_write_40 : decode cX1_write 40 = .ok (.iastore, 1) := by decide +kernel
theorem dX1_write_41 : decode cX1_write 41 = .ok (.aload_n 0, 1) := by decide +kernel
theorem dX1_write_42 : decode cX1_write 42 = .ok (.getfield 21, 3) := by decide +kernel
theorem dX1_write_45 : decode cX1_write 45 = .ok (.aload_n 0, 1) := by decide +kernel
theorem dX1_write_46 : decode cX1_write 46 = .ok (.getfield 48, 3) := by decide +kernel
theorem dX1_write_49 : decode cX1_write 49 = .ok (.iload 4, 2) := by decide +kernel
theorem dX1_write_51 : decode cX1_write 51 = .ok (.iastore, 1) := by decide +kernel
theorem dX1_write_52 : decode cX1_write 52 = .ok (.aload_n 0, 1) := by decide +kernel
theorem dX1_write_53 : decode cX1_write 53 = .ok (.dup, 1) := by decide +kernel
theorem dX1_write_54 : decode cX1_write 54 = .ok (.getfield 48, 3) := by decide +kernel
theorem dX1_write_57 : decode cX1_write 57 = .ok (.iconst 1, 1) := by decide +kernel
theorem dX1_write_58 : decode cX1_write 58 = .ok (.iadd, 1) := by decide +kernel
theorem dX1_write_59 : decode cX1_write 59 = .ok (.putfield 48, 3) := by decide +kernel
theorem dX1_write_62 : decode cX1_write 62 = .ok (.aload_n 0, 1) := by decide +kernel
theorem dX1_write_63 : decode cX1_write 63 = .ok (.iconst (-1), 1) := by decide +kernel
theorem dX1_write_64 : decode cX1_write 64 = .ok (.putfield 24, 3) := by decide +kernel
theorem dX1_write_67 : decode cX1_write 67 = .ok (.aload_n 0, 1) := by decide +kernel
theorem dX1_write_68 : decode cX1_write 68 = .ok (.getfield 48, 3) := by decide +kernel
theorem dX1_write_71 : decode cX1_write 71 = .ok (.iconst 1, 1) := by decide +kernel
theorem dX1_write_72 : decode cX1_write 72 = .ok (.isub, 1) := by decide +kernel
theorem dX1_write_73 : decode cX1_write 73 = .ok (.ireturn, 1) := by decide +kernel
theorem dX1_know_0 : decode cX1_know 0 = .ok (.iload_n 1, 1) := by decide +kernel
theorem dX1_know_1 : decode cX1_know 1 = .ok (.aload_n 0, 1) := by decide +kernel
theorem dX1_know_2 : decode cX1_know 2 = .ok (.getfield 24, 3) := by decide +kernel
theorem dX1_know_5 : decode cX1_know 5 = .ok (.if_icmp .ne 4, 3) := by decide +kernel
theorem dX1_know_8 : decode cX1_know 8 = .ok (.return_, 1) := by decide +kernel
theorem dX1_know_9 : decode cX1_know 9 = .ok (.aload_n 0, 1) := by decide +kernel
theorem dX1_know_10 : decode cX1_know 10 = .ok (.iload_n 1, 1) := by decide +kernel
theorem dX1_know_11 : decode cX1_know 11 = .ok (.putfield 24, 3) := by decide +kernel
theorem dX1_know_14 : decode cX1_know 14 = .ok (.iconst 0, 1) := by decide +kernel
theorem dX1_know_15 : decode cX1_know 15 = .ok (.istore_n 2, 1) := by decide +kernel
theorem dX1_know_16 : decode cX1_know 16 = .ok (.iload_n 2, 1) := by decide +kernel
theorem dX1_know_17 : decode cX1_know 17 = .ok (.aload_n 0, 1) := by decide +kernel
theorem dX1_know_18 : decode cX1_know 18 = .ok (.getfield 48, 3) := by decide +kernel
theorem dX1_know_21 : decode cX1_know 21 = .ok (.if_icmp .ge 30, 3) := by decide +kernel
theorem dX1_know_24 : decode cX1_know 24 = .ok (.aload_n 0, 1) := by decide +kernel
theorem dX1_know_25 : decode cX1_know 25 = .ok (.getfield 28, 3) := by decide +kernel
theorem dX1_know_28 : decode cX1_know 28 = .ok (.iload_n 2, 1) := by decide +kernel
theorem dX1_know_29 : decode cX1_know 29 = .ok (.aload_n 0, 1) := by decide +kernel
theorem dX1_know_30 : decode cX1_know 30 = .ok (.getfield 21, 3) := by decide +kernel
theorem dX1_know_33 : decode cX1_know 33 = .ok (.iload_n 2, 1) := by decide +kernel
theorem dX1_know_34 : decode cX1_know 34 = .ok (.iaload, 1) := by decide +kernel
theorem dX1_know_35 : decode cX1_know 35 = .ok (.iload_n 1, 1) := by decide +kernel
theorem dX1_know_36 : decode cX1_know 36 = .ok (.if_icmp .gt 7, 3) := by decide +kernel
theorem dX1_know_39 : decode cX1_know 39 = .ok (.iconst 1, 1) := by decide +kernel
theorem dX1_know_40 : decode cX1_know 40 = .ok (.goto 4, 3) := by decide +kernel
theorem dX1_know_43 : decode cX1_know 43 = .ok (.iconst 0, 1) := by decide +kernel
theorem dX1_know_44 : decode cX1_know 44 = .ok (.bastore, 1) := by decide +kernel
theorem dX1_know_45 : decode cX1_know 45 = .ok (.iinc 2 1, 3) := by decide +kernel
theorem dX1_know_48 : decode cX1_know 48 = .ok (.goto (-32), 3) := by decide +kernel
theorem dX1_know_51 : decode cX1_know 51 = .ok (.aload_n 0, 1) := by decide +kernel
theorem dX1_know_52 : decode cX1_know 52 = .ok (.getfield 48, 3) := by decide +kernel
theorem dX1_know_55 : decode cX1_know 55 = .ok (.iconst 1, 1) := by decide +kernel
theorem dX1_know_56 : decode cX1_know 56 = .ok (.isub, 1) := by decide +kernel
theorem dX1_know_57 : decode cX1_know 57 = .ok (.istore_n 2, 1) := by decide +kernel
theorem dX1_know_58 : decode cX1_know 58 = .ok (.iload_n 2, 1) := by decide +kernel
theorem dX1_know_59 : decode cX1_know 59 = .ok (.ifCond .lt 40, 3) := by decide +kernel
theorem dX1_know_62 : decode cX1_know 62 = .ok (.aload_n 0, 1) := by decide +kernel
theorem dX1_know_63 : decode cX1_know 63 = .ok (.getfield 28, 3) := by decide +kernel
theorem dX1_know_66 : decode cX1_know 66 = .ok (.iload_n 2, 1) := by decide +kernel
theorem dX1_know_67 : decode cX1_know 67 = .ok (.baload, 1) := by decide +kernel
theorem dX1_know_68 : decode cX1_know 68 = .ok (.ifCond .eq 25, 3) := by decide +kernel
theorem dX1_know_71 : decode cX1_know 71 = .ok (.aload_n 0, 1) := by decide +kernel
theorem dX1_know_72 : decode cX1_know 72 = .ok (.getfield 9, 3) := by decide +kernel
theorem dX1_know_75 : decode cX1_know 75 = .ok (.iload_n 2, 1) := by decide +kernel
theorem dX1_know_76 : decode cX1_know 76 = .ok (.iaload, 1) := by decide +kernel
theorem dX1_know_77 : decode cX1_know 77 = .ok (.iconst 2, 1) := by decide +kernel
theorem dX1_know_78 : decode cX1_know 78 = .ok (.if_icmp .ne 15, 3) := by decide +kernel
theorem dX1_know_81 : decode cX1_know 81 = .ok (.aload_n 0, 1) := by decide +kernel
theorem dX1_know_82 : decode cX1_know 82 = .ok (.getfield 28, 3) := by decide +kernel
theorem dX1_know_85 : decode cX1_know 85 = .ok (.aload_n 0, 1) := by decide +kernel
theorem dX1_know_86 : decode cX1_know 86 = .ok (.getfield 15, 3) := by decide +kernel
theorem dX1_know_89 : decode cX1_know 89 = .ok (.iload_n 2, 1) := by decide +kernel
theorem dX1_know_90 : decode cX1_know 90 = .ok (.iaload, 1) := by decide +kernel
theorem dX1_know_91 : decode cX1_know 91 = .ok (.iconst 0, 1) := by decide +kernel
theorem dX1_know_92 : decode cX1_know 92 = .ok (.bastore, 1) := by decide +kernel
theorem dX1_know_93 : decode cX1_know 93 = .ok (.iinc 2 (-1), 3) := by decide +kernel
theorem dX1_know_96 : decode cX1_know 96 = .ok (.goto (-38), 3) := by decide +kernel
theorem dX1_know_99 : decode cX1_know 99 = .ok (.aload_n 0, 1) := by decide +kernel
theorem dX1_know_100 : decode cX1_know 100 = .ok (.invokevirtual 51, 3) := by decide +kernel
theorem dX1_know_103 : decode cX1_know 103 = .ok (.iconst 0, 1) := by decide +kernel
theorem dX1_know_104 : decode cX1_know 104 = .ok (.istore_n 2, 1) := by decide +kernel
theorem dX1_know_105 : decode cX1_know 105 = .ok (.iload_n 2, 1) := by decide +kernel
theorem dX1_know_106 : decode cX1_know 106 = .ok (.aload_n 0, 1) := by decide +kernel
theorem dX1_know_107 : decode cX1_know 107 = .ok (.getfield 48, 3) := by decide +kernel
theorem dX1_know_110 : decode cX1_know 110 = .ok (.if_icmp .ge 57, 3) := by decide +kernel
theorem dX1_know_113 : decode cX1_know 113 = .ok (.aload_n 0, 1) := by decide +kernel
theorem dX1_know_114 : decode cX1_know 114 = .ok (.getfield 32, 3) := by decide +kernel
theorem dX1_know_117 : decode cX1_know 117 = .ok (.iload_n 2, 1) := by decide +kernel
theorem dX1_know_118 : decode cX1_know 118 = .ok (.aload_n 0, 1) := by decide +kernel
theorem dX1_know_119 : decode cX1_know 119 = .ok (.getfield 28, 3) := by decide +kernel
theorem dX1_know_122 : decode cX1_know 122 = .ok (.iload_n 2, 1) := by decide +kernel
theorem dX1_know_123 : decode cX1_know 123 = .ok (.baload, 1) := by decide +kernel
theorem dX1_know_124 : decode cX1_know 124 = .ok (.ifCond .eq 35, 3) := by decide +kernel
theorem dX1_know_127 : decode cX1_know 127 = .ok (.aload_n 0, 1) := by decide +kernel
theorem dX1_know_128 : decode cX1_know 128 = .ok (.getfield 9, 3) := by decide +kernel
theorem dX1_know_131 : decode cX1_know 131 = .ok (.iload_n 2, 1) := by decide +kernel
theorem dX1_know_132 : decode cX1_know 132 = .ok (.iaload, 1) := by decide +kernel
theorem dX1_know_133 : decode cX1_know 133 = .ok (.ifCond .ne 26, 3) := by decide +kernel
theorem dX1_know_136 : decode cX1_know 136 = .ok (.aload_n 0, 1) := by decide +kernel
theorem dX1_know_137 : decode cX1_know 137 = .ok (.aload_n 0, 1) := by decide +kernel
theorem dX1_know_138 : decode cX1_know 138 = .ok (.getfield 15, 3) := by decide +kernel
theorem dX1_know_141 : decode cX1_know 141 = .ok (.iload_n 2, 1) := by decide +kernel
theorem dX1_know_142 : decode cX1_know 142 = .ok (.iaload, 1) := by decide +kernel
theorem dX1_know_143 : decode cX1_know 143 = .ok (.aload_n 0, 1) := by decide +kernel
theorem dX1_know_144 : decode cX1_know 144 = .ok (.getfield 18, 3) := by decide +kernel
theorem dX1_know_147 : decode cX1_know 147 = .ok (.iload_n 2, 1) := by decide +kernel
theorem dX1_know_148 : decode cX1_know 148 = .ok (.iaload, 1) := by decide +kernel
theorem dX1_know_149 : decode cX1_know 149 = .ok (.invokevirtual 54, 3) := by decide +kernel
theorem dX1_know_152 : decode cX1_know 152 = .ok (.ifCond .eq 7, 3) := by decide +kernel
theorem dX1_know_155 : decode cX1_know 155 = .ok (.iconst 1, 1) := by decide +kernel
theorem dX1_know_156 : decode cX1_know 156 = .ok (.goto 4, 3) := by decide +kernel
theorem dX1_know_159 : decode cX1_know 159 = .ok (.iconst 0, 1) := by decide +kernel
theorem dX1_know_160 : decode cX1_know 160 = .ok (.bastore, 1) := by decide +kernel
theorem dX1_know_161 : decode cX1_know 161 = .ok (.iinc 2 1, 3) := by decide +kernel
theorem dX1_know_164 : decode cX1_know 164 = .ok (.goto (-59), 3) := by decide +kernel
theorem dX1_know_167 : decode cX1_know 167 = .ok (.return_, 1) := by decide +kernel
theorem dX1_knowDeaths_0 : decode cX1_knowDeaths 0 = .ok (.aload_n 0, 1) := by decide +kernel
theorem dX1_knowDeaths_1 : decode cX1_knowDeaths 1 = .ok (.getfield 35, 3) := by decide +kernel
theorem dX1_knowDeaths_4 : decode cX1_knowDeaths 4 = .ok (.iconst (-1), 1) := by decide +kernel
theorem dX1_knowDeaths_5 : decode cX1_knowDeaths 5 = .ok (.invokestatic 42, 3) := by decide +kernel
theorem dX1_knowDeaths_8 : decode cX1_knowDeaths 8 = .ok (.iconst 0, 1) := by decide +kernel
theorem dX1_knowDeaths_9 : decode cX1_knowDeaths 9 = .ok (.istore_n 1, 1) := by decide +kernel
theorem dX1_knowDeaths_10 : decode cX1_knowDeaths 10 = .ok (.iload_n 1, 1) := by decide +kernel
theorem dX1_knowDeaths_11 : decode cX1_knowDeaths 11 = .ok (.aload_n 0, 1) := by decide +kernel
theorem dX1_knowDeaths_12 : decode cX1_knowDeaths 12 = .ok (.getfield 48, 3) := by decide +kernel
theorem dX1_knowDeaths_15 : decode cX1_knowDeaths 15 = .ok (.if_icmp .ge 45, 3) := by decide +kernel
theorem dX1_knowDeaths_18 : decode cX1_knowDeaths 18 = .ok (.aload_n 0, 1) := by decide +kernel
theorem dX1_knowDeaths_19 : decode cX1_knowDeaths 19 = .ok (.getfield 28, 3) := by decide +kernel
theorem dX1_knowDeaths_22 : decode cX1_knowDeaths 22 = .ok (.iload_n 1, 1) := by decide +kernel
theorem dX1_knowDeaths_23 : decode cX1_knowDeaths 23 = .ok (.baload, 1) := by decide +kernel
theorem dX1_knowDeaths_24 : decode cX1_knowDeaths 24 = .ok (.ifCond .eq 30, 3) := by decide +kernel
theorem dX1_knowDeaths_27 : decode cX1_knowDeaths 27 = .ok (.aload_n 0, 1) := by decide +kernel
theorem dX1_knowDeaths_28 : decode cX1_knowDeaths 28 = .ok (.getfield 9, 3) := by decide +kernel
theorem dX1_knowDeaths_31 : decode cX1_knowDeaths 31 = .ok (.iload_n 1, 1) := by decide +kernel
theorem dX1_knowDeaths_32 : decode cX1_knowDeaths 32 = .ok (.iaload, 1) := by decide +kernel
theorem dX1_knowDeaths_33 : decode cX1_knowDeaths 33 = .ok (.iconst 1, 1) := by decide +kernel
theorem dX1_knowDeaths_34 : decode cX1_knowDeaths 34 = .ok (.if_icmp .ne 20, 3) := by decide +kernel
theorem dX1_knowDeaths_37 : decode cX1_knowDeaths 37 = .ok (.aload_n 0, 1) := by decide +kernel
theorem dX1_knowDeaths_38 : decode cX1_knowDeaths 38 = .ok (.getfield 35, 3) := by decide +kernel
theorem dX1_knowDeaths_41 : decode cX1_knowDeaths 41 = .ok (.aload_n 0, 1) := by decide +kernel
theorem dX1_knowDeaths_42 : decode cX1_knowDeaths 42 = .ok (.getfield 15, 3) := by decide +kernel
theorem dX1_knowDeaths_45 : decode cX1_knowDeaths 45 = .ok (.iload_n 1, 1) := by decide +kernel
theorem dX1_knowDeaths_46 : decode cX1_knowDeaths 46 = .ok (.iaload, 1) := by decide +kernel
theorem dX1_knowDeaths_47 : decode cX1_knowDeaths 47 = .ok (.aload_n 0, 1) := by decide +kernel
theorem dX1_knowDeaths_48 : decode cX1_knowDeaths 48 = .ok (.getfield 18, 3) := by decide +kernel
theorem dX1_knowDeaths_51 : decode cX1_knowDeaths 51 = .ok (.iload_n 1, 1) := by decide +kernel
theorem dX1_knowDeaths_52 : decode cX1_knowDeaths 52 = .ok (.iaload, 1) := by decide +kernel
theorem dX1_knowDeaths_53 : decode cX1_knowDeaths 53 = .ok (.iastore, 1) := by decide +kernel
theorem dX1_knowDeaths_54 : decode cX1_knowDeaths 54 = .ok (.iinc 1 1, 3) := by decide +kernel
theorem dX1_knowDeaths_57 : decode cX1_knowDeaths 57 = .ok (.goto (-47), 3) := by decide +kernel
theorem dX1_knowDeaths_60 : decode cX1_knowDeaths 60 = .ok (.return_, 1) := by decide +kernel
theorem dX1_livedIn_0 : decode cX1_livedIn 0 = .ok (.aload_n 0, 1) := by decide +kernel
theorem dX1_livedIn_1 : decode cX1_livedIn 1 = .ok (.iload_n 1, 1) := by decide +kernel
theorem dX1_livedIn_2 : decode cX1_livedIn 2 = .ok (.iload_n 2, 1) := by decide +kernel
theorem dX1_livedIn_3 : decode cX1_livedIn 3 = .ok (.invokevirtual 58, 3) := by decide +kernel
theorem dX1_livedIn_6 : decode cX1_livedIn 6 = .ok (.ifCond .eq 20, 3) := by decide +kernel
theorem dX1_livedIn_9 : decode cX1_livedIn 9 = .ok (.iload_n 2, 1) := by decide +kernel
theorem dX1_livedIn_10 : decode cX1_livedIn 10 = .ok (.aload_n 0, 1) := by decide +kernel
theorem dX1_livedIn_11 : decode cX1_livedIn 11 = .ok (.getfield 38, 3) := by decide +kernel
theorem dX1_livedIn_14 : decode cX1_livedIn 14 = .ok (.getfield 61, 3) := by decide +kernel
theorem dX1_livedIn_17 : decode cX1_livedIn 17 = .ok (.iload_n 1, 1) := by decide +kernel
theorem dX1_livedIn_18 : decode cX1_livedIn 18 = .ok (.iaload, 1) := by decide +kernel
theorem dX1_livedIn_19 : decode cX1_livedIn 19 = .ok (.if_icmp .lt 7, 3) := by decide +kernel
theorem dX1_livedIn_22 : decode cX1_livedIn 22 = .ok (.iconst 1, 1) := by decide +kernel
theorem dX1_livedIn_23 : decode cX1_livedIn 23 = .ok (.goto 4, 3) := by decide +kernel
theorem dX1_livedIn_26 : decode cX1_livedIn 26 = .ok (.iconst 0, 1) := by decide +kernel
theorem dX1_livedIn_27 : decode cX1_livedIn 27 = .ok (.ireturn, 1) := by decide +kernel
theorem dX1_isDead_0 : decode cX1_isDead 0 = .ok (.aload_n 0, 1) := by decide +kernel
theorem dX1_isDead_1 : decode cX1_isDead 1 = .ok (.getfield 35, 3) := by decide +kernel
theorem dX1_isDead_4 : decode cX1_isDead 4 = .ok (.iload_n 1, 1) := by decide +kernel
theorem dX1_isDead_5 : decode cX1_isDead 5 = .ok (.iaload, 1) := by decide +kernel
theorem dX1_isDead_6 : decode cX1_isDead 6 = .ok (.iconst (-1), 1) := by decide +kernel
theorem dX1_isDead_7 : decode cX1_isDead 7 = .ok (.if_icmp .eq 7, 3) := by decide +kernel
theorem dX1_isDead_10 : decode cX1_isDead 10 = .ok (.iconst 1, 1) := by decide +kernel
theorem dX1_isDead_11 : decode cX1_isDead 11 = .ok (.goto 4, 3) := by decide +kernel
theorem dX1_isDead_14 : decode cX1_isDead 14 = .ok (.iconst 0, 1) := by decide +kernel
theorem dX1_isDead_15 : decode cX1_isDead 15 = .ok (.ireturn, 1) := by decide +kernel
theorem dX1_isAliveIn_0 : decode cX1_isAliveIn 0 = .ok (.aload_n 0, 1) := by decide +kernel
theorem dX1_isAliveIn_1 : decode cX1_isAliveIn 1 = .ok (.getfield 35, 3) := by decide +kernel
theorem dX1_isAliveIn_4 : decode cX1_isAliveIn 4 = .ok (.iload_n 1, 1) := by decide +kernel
theorem dX1_isAliveIn_5 : decode cX1_isAliveIn 5 = .ok (.iaload, 1) := by decide +kernel
theorem dX1_isAliveIn_6 : decode cX1_isAliveIn 6 = .ok (.iconst (-1), 1) := by decide +kernel
theorem dX1_isAliveIn_7 : decode cX1_isAliveIn 7 = .ok (.if_icmp .eq 13, 3) := by decide +kernel
theorem dX1_isAliveIn_10 : decode cX1_isAliveIn 10 = .ok (.aload_n 0, 1) := by decide +kernel
theorem dX1_isAliveIn_11 : decode cX1_isAliveIn 11 = .ok (.getfield 35, 3) := by decide +kernel
theorem dX1_isAliveIn_14 : decode cX1_isAliveIn 14 = .ok (.iload_n 1, 1) := by decide +kernel
theorem dX1_isAliveIn_15 : decode cX1_isAliveIn 15 = .ok (.iaload, 1) := by decide +kernel
theorem dX1_isAliveIn_16 : decode cX1_isAliveIn 16 = .ok (.iload_n 2, 1) := by decide +kernel
theorem dX1_isAliveIn_17 : decode cX1_isAliveIn 17 = .ok (.if_icmp .lt 7, 3) := by decide +kernel
theorem dX1_isAliveIn_20 : decode cX1_isAliveIn 20 = .ok (.iconst 1, 1) := by decide +kernel
theorem dX1_isAliveIn_21 : decode cX1_isAliveIn 21 = .ok (.goto 4, 3) := by decide +kernel
theorem dX1_isAliveIn_24 : decode cX1_isAliveIn 24 = .ok (.iconst 0, 1) := by decide +kernel
theorem dX1_isAliveIn_25 : decode cX1_isAliveIn 25 = .ok (.ireturn, 1) := by decide +kernel
theorem dX1_isFalse_0 : decode cX1_isFalse 0 = .ok (.aload_n 0, 1) := by decide +kernel
theorem dX1_isFalse_1 : decode cX1_isFalse 1 = .ok (.getfield 28, 3) := by decide +kernel
theorem dX1_isFalse_4 : decode cX1_isFalse 4 = .ok (.iload_n 1, 1) := by decide +kernel
theorem dX1_isFalse_5 : decode cX1_isFalse 5 = .ok (.baload, 1) := by decide +kernel
theorem dX1_isFalse_6 : decode cX1_isFalse 6 = .ok (.ifCond .eq 25, 3) := by decide +kernel
theorem dX1_isFalse_9 : decode cX1_isFalse 9 = .ok (.aload_n 0, 1) := by decide +kernel
theorem dX1_isFalse_10 : decode cX1_isFalse 10 = .ok (.getfield 9, 3) := by decide +kernel
theorem dX1_isFalse_13 : decode cX1_isFalse 13 = .ok (.iload_n 1, 1) := by decide +kernel
theorem dX1_isFalse_14 : decode cX1_isFalse 14 = .ok (.iaload, 1) := by decide +kernel
theorem dX1_isFalse_15 : decode cX1_isFalse 15 = .ok (.ifCond .ne 16, 3) := by decide +kernel
theorem dX1_isFalse_18 : decode cX1_isFalse 18 = .ok (.aload_n 0, 1) := by decide +kernel
theorem dX1_isFalse_19 : decode cX1_isFalse 19 = .ok (.getfield 32, 3) := by decide +kernel
theorem dX1_isFalse_22 : decode cX1_isFalse 22 = .ok (.iload_n 1, 1) := by decide +kernel
theorem dX1_isFalse_23 : decode cX1_isFalse 23 = .ok (.baload, 1) := by decide +kernel
theorem dX1_isFalse_24 : decode cX1_isFalse 24 = .ok (.ifCond .ne 7, 3) := by decide +kernel
theorem dX1_isFalse_27 : decode cX1_isFalse 27 = .ok (.iconst 1, 1) := by decide +kernel
theorem dX1_isFalse_28 : decode cX1_isFalse 28 = .ok (.goto 4, 3) := by decide +kernel
theorem dX1_isFalse_31 : decode cX1_isFalse 31 = .ok (.iconst 0, 1) := by decide +kernel
theorem dX1_isFalse_32 : decode cX1_isFalse 32 = .ok (.ireturn, 1) := by decide +kernel
theorem dX1_hasProof_0 : decode cX1_hasProof 0 = .ok (.iconst 0, 1) := by decide +kernel
theorem dX1_hasProof_1 : decode cX1_hasProof 1 = .ok (.istore 4, 2) := by decide +kernel
theorem dX1_hasProof_3 : decode cX1_hasProof 3 = .ok (.iload 4, 2) := by decide +kernel
theorem dX1_hasProof_5 : decode cX1_hasProof 5 = .ok (.aload_n 0, 1) := by decide +kernel
theorem dX1_hasProof_6 : decode cX1_hasProof 6 = .ok (.getfield 48, 3) := by decide +kernel
theorem dX1_hasProof_9 : decode cX1_hasProof 9 = .ok (.if_icmp .ge 54, 3) := by decide +kernel
theorem dX1_hasProof_12 : decode cX1_hasProof 12 = .ok (.aload_n 0, 1) := by decide +kernel
theorem dX1_hasProof_13 : decode cX1_hasProof 13 = .ok (.getfield 18, 3) := by decide +kernel
theorem dX1_hasProof_16 : decode cX1_hasProof 16 = .ok (.iload 4, 2) := by decide +kernel
theorem dX1_hasProof_18 : decode cX1_hasProof 18 = .ok (.iaload, 1) := by decide +kernel
theorem dX1_hasProof_19 : decode cX1_hasProof 19 = .ok (.iload_n 2, 1) := by decide +kernel
theorem dX1_hasProof_20 : decode cX1_hasProof 20 = .ok (.if_icmp .lt 37, 3) := by decide +kernel
theorem dX1_hasProof_23 : decode cX1_hasProof 23 = .ok (.aload_n 0, 1) := by decide +kernel
theorem dX1_hasProof_24 : decode cX1_hasProof 24 = .ok (.getfield 18, 3) := by decide +kernel
theorem dX1_hasProof_27 : decode cX1_hasProof 27 = .ok (.iload 4, 2) := by decide +kernel
theorem dX1_hasProof_29 : decode cX1_hasProof 29 = .ok (.iaload, 1) := by decide +kernel
theorem dX1_hasProof_30 : decode cX1_hasProof 30 = .ok (.iload_n 3, 1) := by decide +kernel
theorem dX1_hasProof_31 : decode cX1_hasProof 31 = .ok (.if_icmp .gt 26, 3) := by decide +kernel
theorem dX1_hasProof_34 : decode cX1_hasProof 34 = .ok (.aload_n 0, 1) := by decide +kernel
theorem dX1_hasProof_35 : decode cX1_hasProof 35 = .ok (.getfield 32, 3) := by decide +kernel
theorem dX1_hasProof_38 : decode cX1_hasProof 38 = .ok (.iload 4, 2) := by decide +kernel
theorem dX1_hasProof_40 : decode cX1_hasProof 40 = .ok (.baload, 1) := by decide +kernel
theorem dX1_hasProof_41 : decode cX1_hasProof 41 = .ok (.ifCond .eq 16, 3) := by decide +kernel
theorem dX1_hasProof_44 : decode cX1_hasProof 44 = .ok (.aload_n 0, 1) := by decide +kernel
theorem dX1_hasProof_45 : decode cX1_hasProof 45 = .ok (.getfield 15, 3) := by decide +kernel
theorem dX1_hasProof_48 : decode cX1_hasProof 48 = .ok (.iload 4, 2) := by decide +kernel
theorem dX1_hasProof_50 : decode cX1_hasProof 50 = .ok (.iaload, 1) := by decide +kernel
theorem dX1_hasProof_51 : decode cX1_hasProof 51 = .ok (.iload_n 1, 1) := by decide +kernel
theorem dX1_hasProof_52 : decode cX1_hasProof 52 = .ok (.if_icmp .ne 5, 3) := by decide +kernel
theorem dX1_hasProof_55 : decode cX1_hasProof 55 = .ok (.iconst 1, 1) := by decide +kernel
theorem dX1_hasProof_56 : decode cX1_hasProof 56 = .ok (.ireturn, 1) := by decide +kernel
theorem dX1_hasProof_57 : decode cX1_hasProof 57 = .ok (.iinc 4 1, 3) := by decide +kernel
theorem dX1_hasProof_60 : decode cX1_hasProof 60 = .ok (.goto (-57), 3) := by decide +kernel
theorem dX1_hasProof_63 : decode cX1_hasProof 63 = .ok (.iconst 0, 1) := by decide +kernel
theorem dX1_hasProof_64 : decode cX1_hasProof 64 = .ok (.ireturn, 1) := by decide +kernel
theorem dX1_latestProof_0 : decode cX1_latestProof 0 = .ok (.iconst (-1), 1) := by decide +kernel
theorem dX1_latestProof_1 : decode cX1_latestProof 1 = .ok (.istore_n 2, 1) := by decide +kernel
theorem dX1_latestProof_2 : decode cX1_latestProof 2 = .ok (.iconst 0, 1) := by decide +kernel
theorem dX1_latestProof_3 : decode cX1_latestProof 3 = .ok (.istore_n 3, 1) := by decide +kernel
theorem dX1_latestProof_4 : decode cX1_latestProof 4 = .ok (.iload_n 3, 1) := by decide +kernel
theorem dX1_latestProof_5 : decode cX1_latestProof 5 = .ok (.aload_n 0, 1) := by decide +kernel
theorem dX1_latestProof_6 : decode cX1_latestProof 6 = .ok (.getfield 48, 3) := by decide +kernel
theorem dX1_latestProof_9 : decode cX1_latestProof 9 = .ok (.if_icmp .ge 45, 3) := by decide +kernel
theorem dX1_latestProof_12 : decode cX1_latestProof 12 = .ok (.aload_n 0, 1) := by decide +kernel
theorem dX1_latestProof_13 : decode cX1_latestProof 13 = .ok (.getfield 18, 3) := by decide +kernel
theorem dX1_latestProof_16 : decode cX1_latestProof 16 = .ok (.iload_n 3, 1) := by decide +kernel
theorem dX1_latestProof_17 : decode cX1_latestProof 17 = .ok (.iaload, 1) := by decide +kernel
theorem dX1_latestProof_18 : decode cX1_latestProof 18 = .ok (.iload_n 2, 1) := by decide +kernel
theorem dX1_latestProof_19 : decode cX1_latestProof 19 = .ok (.if_icmp .le 29, 3) := by decide +kernel
theorem dX1_latestProof_22 : decode cX1_latestProof 22 = .ok (.aload_n 0, 1) := by decide +kernel
theorem dX1_latestProof_23 : decode cX1_latestProof 23 = .ok (.getfield 32, 3) := by decide +kernel
theorem dX1_latestProof_26 : decode cX1_latestProof 26 = .ok (.iload_n 3, 1) := by decide +kernel
theorem dX1_latestProof_27 : decode cX1_latestProof 27 = .ok (.baload, 1) := by decide +kernel
theorem dX1_latestProof_28 : decode cX1_latestProof 28 = .ok (.ifCond .eq 20, 3) := by decide +kernel
theorem dX1_latestProof_31 : decode cX1_latestProof 31 = .ok (.aload_n 0, 1) := by decide +kernel
theorem dX1_latestProof_32 : decode cX1_latestProof 32 = .ok (.getfield 15, 3) := by decide +kernel
theorem dX1_latestProof_35 : decode cX1_latestProof 35 = .ok (.iload_n 3, 1) := by decide +kernel
theorem dX1_latestProof_36 : decode cX1_latestProof 36 = .ok (.iaload, 1) := by decide +kernel
theorem dX1_latestProof_37 : decode cX1_latestProof 37 = .ok (.iload_n 1, 1) := by decide +kernel
theorem dX1_latestProof_38 : decode cX1_latestProof 38 = .ok (.if_icmp .ne 10, 3) := by decide +kernel
theorem dX1_latestProof_41 : decode cX1_latestProof 41 = .ok (.aload_n 0, 1) := by decide +kernel
theorem dX1_latestProof_42 : decode cX1_latestProof 42 = .ok (.getfield 18, 3) := by decide +kernel
theorem dX1_latestProof_45 : decode cX1_latestProof 45 = .ok (.iload_n 3, 1) := by decide +kernel
theorem dX1_latestProof_46 : decode cX1_latestProof 46 = .ok (.iaload, 1) := by decide +kernel
theorem dX1_latestProof_47 : decode cX1_latestProof 47 = .ok (.istore_n 2, 1) := by decide +kernel
theorem dX1_latestProof_48 : decode cX1_latestProof 48 = .ok (.iinc 3 1, 3) := by decide +kernel
theorem dX1_latestProof_51 : decode cX1_latestProof 51 = .ok (.goto (-47), 3) := by decide +kernel
theorem dX1_latestProof_54 : decode cX1_latestProof 54 = .ok (.iload_n 2, 1) := by decide +kernel
theorem dX1_latestProof_55 : decode cX1_latestProof 55 = .ok (.ireturn, 1) := by decide +kernel
theorem dX2_clearOffers_0 : decode cX2_clearOffers 0 = .ok (.aload_n 0, 1) := by decide +kernel
theorem dX2_clearOffers_1 : decode cX2_clearOffers 1 = .ok (.iconst 0, 1) := by decide +kernel
theorem dX2_clearOffers_2 : decode cX2_clearOffers 2 = .ok (.putfield 27, 3) := by decide +kernel
theorem dX2_clearOffers_5 : decode cX2_clearOffers 5 = .ok (.return_, 1) := by decide +kernel
theorem dX2_offer_0 : decode cX2_offer 0 = .ok (.aload_n 0, 1) := by decide +kernel
theorem dX2_offer_1 : decode cX2_offer 1 = .ok (.getfield 27, 3) := by decide +kernel
theorem dX2_offer_4 : decode cX2_offer 4 = .ok (.bipush 12, 2) := by decide +kernel
theorem dX2_offer_6 : decode cX2_offer 6 = .ok (.if_icmp .lt 4, 3) := by decide +kernel
theorem dX2_offer_9 : decode cX2_offer 9 = .ok (.return_, 1) := by decide +kernel
theorem dX2_offer_10 : decode cX2_offer 10 = .ok (.aload_n 0, 1) := by decide +kernel
theorem dX2_offer_11 : decode cX2_offer 11 = .ok (.getfield 9, 3) := by decide +kernel
theorem dX2_offer_14 : decode cX2_offer 14 = .ok (.aload_n 0, 1) := by decide +kernel
theorem dX2_offer_15 : decode cX2_offer 15 = .ok (.getfield 27, 3) := by decide +kernel
theorem dX2_offer_18 : decode cX2_offer 18 = .ok (.iload_n 1, 1) := by decide +kernel
theorem dX2_offer_19 : decode cX2_offer 19 = .ok (.iastore, 1) := by decide +kernel
theorem dX2_offer_20 : decode cX2_offer 20 = .ok (.aload_n 0, 1) := by decide +kernel
theorem dX2_offer_21 : decode cX2_offer 21 = .ok (.getfield 15, 3) := by decide +kernel
theorem dX2_offer_24 : decode cX2_offer 24 = .ok (.aload_n 0, 1) := by decide +kernel
theorem dX2_offer_25 : decode cX2_offer 25 = .ok (.getfield 27, 3) := by decide +kernel
theorem dX2_offer_28 : decode cX2_offer 28 = .ok (.iload_n 2, 1) := by decide +kernel
theorem dX2_offer_29 : decode cX2_offer 29 = .ok (.iastore, 1) := by decide +kernel
theorem dX2_offer_30 : decode cX2_offer 30 = .ok (.aload_n 0, 1) := by decide +kernel
theorem dX2_offer_31 : decode cX2_offer 31 = .ok (.getfield 18, 3) := by decide +kernel
theorem dX2_offer_34 : decode cX2_offer 34 = .ok (.aload_n 0, 1) := by decide +kernel
theorem dX2_offer_35 : decode cX2_offer 35 = .ok (.getfield 27, 3) := by decide +kernel
theorem dX2_offer_38 : decode cX2_offer 38 = .ok (.iload_n 3, 1) := by decide +kernel
theorem dX2_offer_39 : decode cX2_offer 39 = .ok (.iastore, 1) := by decide +kernel
theorem dX2_offer_40 : decode cX2_offer 40 = .ok (.aload_n 0, 1) := by decide +kernel
theorem dX2_offer_41 : decode cX2_offer 41 = .ok (.dup, 1) := by decide +kernel
theorem dX2_offer_42 : decode cX2_offer 42 = .ok (.getfield 27, 3) := by decide +kernel
theorem dX2_offer_45 : decode cX2_offer 45 = .ok (.iconst 1, 1) := by decide +kernel
theorem dX2_offer_46 : decode cX2_offer 46 = .ok (.iadd, 1) := by decide +kernel
theorem dX2_offer_47 : decode cX2_offer 47 = .ok (.putfield 27, 3) := by decide +kernel
theorem dX2_offer_50 : decode cX2_offer 50 = .ok (.return_, 1) := by decide +kernel
theorem dX2_choose_0 : decode cX2_choose 0 = .ok (.aload_n 0, 1) := by decide +kernel
theorem dX2_choose_1 : decode cX2_choose 1 = .ok (.iload_n 2, 1) := by decide +kernel
theorem dX2_choose_2 : decode cX2_choose 2 = .ok (.invokevirtual 31, 3) := by decide +kernel
theorem dX2_choose_5 : decode cX2_choose 5 = .ok (.istore_n 3, 1) := by decide +kernel
theorem dX2_choose_6 : decode cX2_choose 6 = .ok (.iload_n 3, 1) := by decide +kernel
theorem dX2_choose_7 : decode cX2_choose 7 = .ok (.sipush 5000, 3) := by decide +kernel
theorem dX2_choose_10 : decode cX2_choose 10 = .ok (.if_icmp .le 6, 3) := by decide +kernel
theorem dX2_choose_13 : decode cX2_choose 13 = .ok (.ldc 37, 2) := by decide +kernel
theorem dX2_choose_15 : decode cX2_choose 15 = .ok (.ireturn, 1) := by decide +kernel
theorem dX2_choose_16 : decode cX2_choose 16 = .ok (.aload_n 0, 1) := by decide +kernel
theorem dX2_choose_17 : decode cX2_choose 17 = .ok (.getfield 21, 3) := by decide +kernel
theorem dX2_choose_20 : decode cX2_choose 20 = .ok (.iconst 0, 1) := by decide +kernel
theorem dX2_choose_21 : decode cX2_choose 21 = .ok (.invokestatic 38, 3) := by decide +kernel
theorem dX2_choose_24 : decode cX2_choose 24 = .ok (.aload_n 0, 1) := by decide +kernel
theorem dX2_choose_25 : decode cX2_choose 25 = .ok (.getfield 24, 3) := by decide +kernel
theorem dX2_choose_28 : decode cX2_choose 28 = .ok (.iconst 0, 1) := by decide +kernel
theorem dX2_choose_29 : decode cX2_choose 29 = .ok (.invokestatic 38, 3) := by decide +kernel
theorem dX2_choose_32 : decode cX2_choose 32 = .ok (.aload_n 0, 1) := by decide +kernel
theorem dX2_choose_33 : decode cX2_choose 33 = .ok (.iconst 0, 1) := by decide +kernel
theorem dX2_choose_34 : decode cX2_choose 34 = .ok (.putfield 44, 3) := by decide +kernel
theorem dX2_choose_37 : decode cX2_choose 37 = .ok (.aload_n 0, 1) := by decide +kernel
theorem dX2_choose_38 : decode cX2_choose 38 = .ok (.iconst 0, 1) := by decide +kernel
theorem dX2_choose_39 : decode cX2_choose 39 = .ok (.putfield 47, 3) := by decide +kernel
theorem dX2_choose_42 : decode cX2_choose 42 = .ok (.aload_n 0, 1) := by decide +kernel
theorem dX2_choose_43 : decode cX2_choose 43 = .ok (.iconst 0, 1) := by decide +kernel
theorem dX2_choose_44 : decode cX2_choose 44 = .ok (.putfield 50, 3) := by decide +kernel
theorem dX2_choose_47 : decode cX2_choose 47 = .ok (.aload_n 0, 1) := by decide +kernel
theorem dX2_choose_48 : decode cX2_choose 48 = .ok (.iconst 0, 1) := by decide +kernel
theorem dX2_choose_49 : decode cX2_choose 49 = .ok (.putfield 53, 3) := by decide +kernel
theorem dX2_choose_52 : decode cX2_choose 52 = .ok (.aload_n 0, 1) := by decide +kernel
theorem dX2_choose_53 : decode cX2_choose 53 = .ok (.iconst 1, 1) := by decide +kernel
theorem dX2_choose_54 : decode cX2_choose 54 = .ok (.putfield 56, 3) := by decide +kernel
theorem dX2_choose_57 : decode cX2_choose 57 = .ok (.iconst 1, 1) := by decide +kernel
theorem dX2_choose_58 : decode cX2_choose 58 = .ok (.istore 4, 2) := by decide +kernel
theorem dX2_choose_60 : decode cX2_choose 60 = .ok (.iload 4, 2) := by decide +kernel
theorem dX2_choose_62 : decode cX2_choose 62 = .ok (.iload_n 3, 1) := by decide +kernel
theorem dX2_choose_63 : decode cX2_choose 63 = .ok (.if_icmp .ge 59, 3) := by decide +kernel
theorem dX2_choose_66 : decode cX2_choose 66 = .ok (.aload_n 0, 1) := by decide +kernel
theorem dX2_choose_67 : decode cX2_choose 67 = .ok (.iload_n 2, 1) := by decide +kernel
theorem dX2_choose_68 : decode cX2_choose 68 = .ok (.invokevirtual 60, 3) := by decide +kernel
theorem dX2_choose_71 : decode cX2_choose 71 = .ok (.aload_n 0, 1) := by decide +kernel
theorem dX2_choose_72 : decode cX2_choose 72 = .ok (.getfield 44, 3) := by decide +kernel
theorem dX2_choose_75 : decode cX2_choose 75 = .ok (.iload_n 1, 1) := by decide +kernel
theorem dX2_choose_76 : decode cX2_choose 76 = .ok (.if_icmp .gt 40, 3) := by decide +kernel
theorem dX2_choose_79 : decode cX2_choose 79 = .ok (.aload_n 0, 1) := by decide +kernel
theorem dX2_choose_80 : decode cX2_choose 80 = .ok (.getfield 47, 3) := by decide +kernel
theorem dX2_choose_83 : decode cX2_choose 83 = .ok (.aload_n 0, 1) := by decide +kernel
theorem dX2_choose_84 : decode cX2_choose 84 = .ok (.getfield 53, 3) := by decide +kernel
theorem dX2_choose_87 : decode cX2_choose 87 = .ok (.if_icmp .gt 25, 3) := by decide +kernel
theorem dX2_choose_90 : decode cX2_choose 90 = .ok (.aload_n 0, 1) := by decide +kernel
theorem dX2_choose_91 : decode cX2_choose 91 = .ok (.getfield 47, 3) := by decide +kernel
theorem dX2_choose_94 : decode cX2_choose 94 = .ok (.aload_n 0, 1) := by decide +kernel
theorem dX2_choose_95 : decode cX2_choose 95 = .ok (.getfield 53, 3) := by decide +kernel
theorem dX2_choose_98 : decode cX2_choose 98 = .ok (.if_icmp .ne 18, 3) := by decide +kernel
theorem dX2_choose_101 : decode cX2_choose 101 = .ok (.aload_n 0, 1) := by decide +kernel
theorem dX2_choose_102 : decode cX2_choose 102 = .ok (.getfield 44, 3) := by decide +kernel
theorem dX2_choose_105 : decode cX2_choose 105 = .ok (.aload_n 0, 1) := by decide +kernel
theorem dX2_choose_106 : decode cX2_choose 106 = .ok (.getfield 50, 3) := by decide +kernel
theorem dX2_choose_109 : decode cX2_choose 109 = .ok (.if_icmp .ge 7, 3) := by decide +kernel
theorem dX2_choose_112 : decode cX2_choose 112 = .ok (.aload_n 0, 1) := by decide +kernel
theorem dX2_choose_113 : decode cX2_choose 113 = .ok (.invokevirtual 64, 3) := by decide +kernel
theorem dX2_choose_116 : decode cX2_choose 116 = .ok (.iinc 4 1, 3) := by decide +kernel
theorem dX2_choose_119 : decode cX2_choose 119 = .ok (.goto (-59), 3) := by decide +kernel
theorem dX2_choose_122 : decode cX2_choose 122 = .ok (.aload_n 0, 1) := by decide +kernel
theorem dX2_choose_123 : decode cX2_choose 123 = .ok (.getfield 53, 3) := by decide +kernel
theorem dX2_choose_126 : decode cX2_choose 126 = .ok (.ireturn, 1) := by decide +kernel
theorem dX2_countRows_0 : decode cX2_countRows 0 = .ok (.iconst 1, 1) := by decide +kernel
theorem dX2_countRows_1 : decode cX2_countRows 1 = .ok (.istore_n 2, 1) := by decide +kernel
theorem dX2_countRows_2 : decode cX2_countRows 2 = .ok (.iconst 0, 1) := by decide +kernel
theorem dX2_countRows_3 : decode cX2_countRows 3 = .ok (.istore_n 3, 1) := by decide +kernel
theorem dX2_countRows_4 : decode cX2_countRows 4 = .ok (.iload_n 3, 1) := by decide +kernel
theorem dX2_countRows_5 : decode cX2_countRows 5 = .ok (.aload_n 0, 1) := by decide +kernel
theorem dX2_countRows_6 : decode cX2_countRows 6 = .ok (.getfield 27, 3) := by decide +kernel
theorem dX2_countRows_9 : decode cX2_countRows 9 = .ok (.if_icmp .ge 22, 3) := by decide +kernel
theorem dX2_countRows_12 : decode cX2_countRows 12 = .ok (.iload_n 2, 1) := by decide +kernel
theorem dX2_countRows_13 : decode cX2_countRows 13 = .ok (.sipush 5000, 3) := by decide +kernel
theorem dX2_countRows_16 : decode cX2_countRows 16 = .ok (.if_icmp .gt 15, 3) := by decide +kernel
theorem dX2_countRows_19 : decode cX2_countRows 19 = .ok (.iload_n 2, 1) := by decide +kernel
theorem dX2_countRows_20 : decode cX2_countRows 20 = .ok (.iload_n 1, 1) := by decide +kernel
theorem dX2_countRows_21 : decode cX2_countRows 21 = .ok (.iconst 1, 1) := by decide +kernel
theorem dX2_countRows_22 : decode cX2_countRows 22 = .ok (.iadd, 1) := by decide +kernel
theorem dX2_countRows_23 : decode cX2_countRows 23 = .ok (.imul, 1) := by decide +kernel
theorem dX2_countRows_24 : decode cX2_countRows 24 = .ok (.istore_n 2, 1) := by decide +kernel
theorem dX2_countRows_25 : decode cX2_countRows 25 = .ok (.iinc 3 1, 3) := by decide +kernel
theorem dX2_countRows_28 : decode cX2_countRows 28 = .ok (.goto (-24), 3) := by decide +kernel
theorem dX2_countRows_31 : decode cX2_countRows 31 = .ok (.iload_n 2, 1) := by decide +kernel
theorem dX2_countRows_32 : decode cX2_countRows 32 = .ok (.ireturn, 1) := by decide +kernel
theorem dX2_turn_0 : decode cX2_turn 0 = .ok (.aload_n 0, 1) := by decide +kernel
theorem dX2_turn_1 : decode cX2_turn 1 = .ok (.getfield 27, 3) := by decide +kernel
theorem dX2_turn_4 : decode cX2_turn 4 = .ok (.iconst 1, 1) := by decide +kernel
theorem dX2_turn_5 : decode cX2_turn 5 = .ok (.isub, 1) := by decide +kernel
theorem dX2_turn_6 : decode cX2_turn 6 = .ok (.istore_n 2, 1) := by decide +kernel
theorem dX2_turn_7 : decode cX2_turn 7 = .ok (.iload_n 2, 1) := by decide +kernel
theorem dX2_turn_8 : decode cX2_turn 8 = .ok (.ifCond .lt 111, 3) := by decide +kernel
theorem dX2_turn_11 : decode cX2_turn 11 = .ok (.aload_n 0, 1) := by decide +kernel
theorem dX2_turn_12 : decode cX2_turn 12 = .ok (.getfield 21, 3) := by decide +kernel
theorem dX2_turn_15 : decode cX2_turn 15 = .ok (.iload_n 2, 1) := by decide +kernel
theorem dX2_turn_16 : decode cX2_turn 16 = .ok (.iaload, 1) := by decide +kernel
theorem dX2_turn_17 : decode cX2_turn 17 = .ok (.iload_n 1, 1) := by decide +kernel
theorem dX2_turn_18 : decode cX2_turn 18 = .ok (.if_icmp .ge 44, 3) := by decide +kernel
theorem dX2_turn_21 : decode cX2_turn 21 = .ok (.aload_n 0, 1) := by decide +kernel
theorem dX2_turn_22 : decode cX2_turn 22 = .ok (.getfield 21, 3) := by decide +kernel
theorem dX2_turn_25 : decode cX2_turn 25 = .ok (.iload_n 2, 1) := by decide +kernel
theorem dX2_turn_26 : decode cX2_turn 26 = .ok (.dup2, 1) := by decide +kernel
theorem dX2_turn_27 : decode cX2_turn 27 = .ok (.iaload, 1) := by decide +kernel
theorem dX2_turn_28 : decode cX2_turn 28 = .ok (.iconst 1, 1) := by decide +kernel
theorem dX2_turn_29 : decode cX2_turn 29 = .ok (.iadd, 1) := by decide +kernel
theorem dX2_turn_30 : decode cX2_turn 30 = .ok (.iastore, 1) := by decide +kernel
theorem dX2_turn_31 : decode cX2_turn 31 = .ok (.aload_n 0, 1) := by decide +kernel
theorem dX2_turn_32 : decode cX2_turn 32 = .ok (.dup, 1) := by decide +kernel
theorem dX2_turn_33 : decode cX2_turn 33 = .ok (.getfield 44, 3) := by decide +kernel
theorem dX2_turn_36 : decode cX2_turn 36 = .ok (.aload_n 0, 1) := by decide +kernel
theorem dX2_turn_37 : decode cX2_turn 37 = .ok (.getfield 15, 3) := by decide +kernel
theorem dX2_turn_40 : decode cX2_turn 40 = .ok (.iload_n 2, 1) := by decide +kernel
theorem dX2_turn_41 : decode cX2_turn 41 = .ok (.iaload, 1) := by decide +kernel
theorem dX2_turn_42 : decode cX2_turn 42 = .ok (.iadd, 1) := by decide +kernel
theorem dX2_turn_43 : decode cX2_turn 43 = .ok (.putfield 44, 3) := by decide +kernel
theorem dX2_turn_46 : decode cX2_turn 46 = .ok (.aload_n 0, 1) := by decide +kernel
theorem dX2_turn_47 : decode cX2_turn 47 = .ok (.dup, 1) := by decide +kernel
theorem dX2_turn_48 : decode cX2_turn 48 = .ok (.getfield 47, 3) := by decide +kernel
theorem dX2_turn_51 : decode cX2_turn 51 = .ok (.aload_n 0, 1) := by decide +kernel
theorem dX2_turn_52 : decode cX2_turn 52 = .ok (.getfield 18, 3) := by decide +kernel
theorem dX2_turn_55 : decode cX2_turn 55 = .ok (.iload_n 2, 1) := by decide +kernel
theorem dX2_turn_56 : decode cX2_turn 56 = .ok (.iaload, 1) := by decide +kernel
theorem dX2_turn_57 : decode cX2_turn 57 = .ok (.iadd, 1) := by decide +kernel
theorem dX2_turn_58 : decode cX2_turn 58 = .ok (.putfield 47, 3) := by decide +kernel
theorem dX2_turn_61 : decode cX2_turn 61 = .ok (.return_, 1) := by decide +kernel
theorem dX2_turn_62 : decode cX2_turn 62 = .ok (.aload_n 0, 1) := by decide +kernel
theorem dX2_turn_63 : decode cX2_turn 63 = .ok (.dup, 1) := by decide +kernel
theorem dX2_turn_64 : decode cX2_turn 64 = .ok (.getfield 44, 3) := by decide +kernel
theorem dX2_turn_67 : decode cX2_turn 67 = .ok (.aload_n 0, 1) := by decide +kernel
theorem dX2_turn_68 : decode cX2_turn 68 = .ok (.getfield 21, 3) := by decide +kernel
theorem dX2_turn_71 : decode cX2_turn 71 = .ok (.iload_n 2, 1) := by decide +kernel
theorem dX2_turn_72 : decode cX2_turn 72 = .ok (.iaload, 1) := by decide +kernel
theorem dX2_turn_73 : decode cX2_turn 73 = .ok (.aload_n 0, 1) := by decide +kernel
theorem dX2_turn_74 : decode cX2_turn 74 = .ok (.getfield 15, 3) := by decide +kernel
theorem dX2_turn_77 : decode cX2_turn 77 = .ok (.iload_n 2, 1) := by decide +kernel
theorem dX2_turn_78 : decode cX2_turn 78 = .ok (.iaload, 1) := by decide +kernel
theorem dX2_turn_79 : decode cX2_turn 79 = .ok (.imul, 1) := by decide +kernel
theorem dX2_turn_80 : decode cX2_turn 80 = .ok (.isub, 1) := by decide +kernel
theorem dX2_turn_81 : decode cX2_turn 81 = .ok (.putfield 44, 3) := by decide +kernel
theorem dX2_turn_84 : decode cX2_turn 84 = .ok (.aload_n 0, 1) := by decide +kernel
theorem dX2_turn_85 : decode cX2_turn 85 = .ok (.dup, 1) := by decide +kernel
theorem dX2_turn_86 : decode cX2_turn 86 = .ok (.getfield 47, 3) := by decide +kernel
theorem dX2_turn_89 : decode cX2_turn 89 = .ok (.aload_n 0, 1) := by decide +kernel
theorem dX2_turn_90 : decode cX2_turn 90 = .ok (.getfield 21, 3) := by decide +kernel
theorem dX2_turn_93 : decode cX2_turn 93 = .ok (.iload_n 2, 1) := by decide +kernel
theorem dX2_turn_94 : decode cX2_turn 94 = .ok (.iaload, 1) := by decide +kernel
theorem dX2_turn_95 : decode cX2_turn 95 = .ok (.aload_n 0, 1) := by decide +kernel
theorem dX2_turn_96 : decode cX2_turn 96 = .ok (.getfield 18, 3) := by decide +kernel
theorem dX2_turn_99 : decode cX2_turn 99 = .ok (.iload_n 2, 1) := by decide +kernel
theorem dX2_turn_100 : decode cX2_turn 100 = .ok (.iaload, 1) := by decide +kernel
theorem dX2_turn_101 : decode cX2_turn 101 = .ok (.imul, 1) := by decide +kernel
theorem dX2_turn_102 : decode cX2_turn 102 = .ok (.isub, 1) := by decide +kernel
theorem dX2_turn_103 : decode cX2_turn 103 = .ok (.putfield 47, 3) := by decide +kernel
theorem dX2_turn_106 : decode cX2_turn 106 = .ok (.aload_n 0, 1) := by decide +kernel
theorem dX2_turn_107 : decode cX2_turn 107 = .ok (.getfield 21, 3) := by decide +kernel
theorem dX2_turn_110 : decode cX2_turn 110 = .ok (.iload_n 2, 1) := by decide +kernel
theorem dX2_turn_111 : decode cX2_turn 111 = .ok (.iconst 0, 1) := by decide +kernel
theorem dX2_turn_112 : decode cX2_turn 112 = .ok (.iastore, 1) := by decide +kernel
theorem dX2_turn_113 : decode cX2_turn 113 = .ok (.iinc 2 (-1), 3) := by decide +kernel
theorem dX2_turn_116 : decode cX2_turn 116 = .ok (.goto (-109), 3) := by decide +kernel
theorem dX2_turn_119 : decode cX2_turn 119 = .ok (.return_, 1) := by decide +kernel
theorem dX2_keep_0 : decode cX2_keep 0 = .ok (.aload_n 0, 1) := by decide +kernel
theorem dX2_keep_1 : decode cX2_keep 1 = .ok (.aload_n 0, 1) := by decide +kernel
theorem dX2_keep_2 : decode cX2_keep 2 = .ok (.getfield 44, 3) := by decide +kernel
theorem dX2_keep_5 : decode cX2_keep 5 = .ok (.putfield 50, 3) := by decide +kernel
theorem dX2_keep_8 : decode cX2_keep 8 = .ok (.aload_n 0, 1) := by decide +kernel
theorem dX2_keep_9 : decode cX2_keep 9 = .ok (.aload_n 0, 1) := by decide +kernel
theorem dX2_keep_10 : decode cX2_keep 10 = .ok (.getfield 47, 3) := by decide +kernel
theorem dX2_keep_13 : decode cX2_keep 13 = .ok (.putfield 53, 3) := by decide +kernel
theorem dX2_keep_16 : decode cX2_keep 16 = .ok (.iconst 0, 1) := by decide +kernel
theorem dX2_keep_17 : decode cX2_keep 17 = .ok (.istore_n 1, 1) := by decide +kernel
theorem dX2_keep_18 : decode cX2_keep 18 = .ok (.iload_n 1, 1) := by decide +kernel
theorem dX2_keep_19 : decode cX2_keep 19 = .ok (.aload_n 0, 1) := by decide +kernel
theorem dX2_keep_20 : decode cX2_keep 20 = .ok (.getfield 27, 3) := by decide +kernel
theorem dX2_keep_23 : decode cX2_keep 23 = .ok (.if_icmp .ge 26, 3) := by decide +kernel
theorem dX2_keep_26 : decode cX2_keep 26 = .ok (.aload_n 0, 1) := by decide +kernel
theorem dX2_keep_27 : decode cX2_keep 27 = .ok (.getfield 24, 3) := by decide +kernel
theorem dX2_keep_30 : decode cX2_keep 30 = .ok (.aload_n 0, 1) := by decide +kernel
theorem dX2_keep_31 : decode cX2_keep 31 = .ok (.getfield 9, 3) := by decide +kernel
theorem dX2_keep_34 : decode cX2_keep 34 = .ok (.iload_n 1, 1) := by decide +kernel
theorem dX2_keep_35 : decode cX2_keep 35 = .ok (.iaload, 1) := by decide +kernel
theorem dX2_keep_36 : decode cX2_keep 36 = .ok (.aload_n 0, 1) := by decide +kernel
theorem dX2_keep_37 : decode cX2_keep 37 = .ok (.getfield 21, 3) := by decide +kernel
theorem dX2_keep_40 : decode cX2_keep 40 = .ok (.iload_n 1, 1) := by decide +kernel
theorem dX2_keep_41 : decode cX2_keep 41 = .ok (.iaload, 1) := by decide +kernel
theorem dX2_keep_42 : decode cX2_keep 42 = .ok (.iastore, 1) := by decide +kernel
theorem dX2_keep_43 : decode cX2_keep 43 = .ok (.iinc 1 1, 3) := by decide +kernel
theorem dX2_keep_46 : decode cX2_keep 46 = .ok (.goto (-28), 3) := by decide +kernel
theorem dX2_keep_49 : decode cX2_keep 49 = .ok (.return_, 1) := by decide +kernel
theorem dX3_has_0 : decode cX3_has 0 = .ok (.iload_n 1, 1) := by decide +kernel
theorem dX3_has_1 : decode cX3_has 1 = .ok (.ifCond .lt 15, 3) := by decide +kernel
theorem dX3_has_4 : decode cX3_has 4 = .ok (.iload_n 1, 1) := by decide +kernel
theorem dX3_has_5 : decode cX3_has 5 = .ok (.aload_n 0, 1) := by decide +kernel
theorem dX3_has_6 : decode cX3_has 6 = .ok (.getfield 40, 3) := by decide +kernel
theorem dX3_has_9 : decode cX3_has 9 = .ok (.if_icmp .ge 7, 3) := by decide +kernel
theorem dX3_has_12 : decode cX3_has 12 = .ok (.iconst 1, 1) := by decide +kernel
theorem dX3_has_13 : decode cX3_has 13 = .ok (.goto 4, 3) := by decide +kernel
theorem dX3_has_16 : decode cX3_has 16 = .ok (.iconst 0, 1) := by decide +kernel
theorem dX3_has_17 : decode cX3_has 17 = .ok (.ireturn, 1) := by decide +kernel
theorem dX3_isFull_0 : decode cX3_isFull 0 = .ok (.aload_n 0, 1) := by decide +kernel
theorem dX3_isFull_1 : decode cX3_isFull 1 = .ok (.getfield 40, 3) := by decide +kernel
theorem dX3_isFull_4 : decode cX3_isFull 4 = .ok (.bipush 16, 2) := by decide +kernel
theorem dX3_isFull_6 : decode cX3_isFull 6 = .ok (.if_icmp .lt 7, 3) := by decide +kernel
theorem dX3_isFull_9 : decode cX3_isFull 9 = .ok (.iconst 1, 1) := by decide +kernel
theorem dX3_isFull_10 : decode cX3_isFull 10 = .ok (.goto 4, 3) := by decide +kernel
theorem dX3_isFull_13 : decode cX3_isFull 13 = .ok (.iconst 0, 1) := by decide +kernel
theorem dX3_isFull_14 : decode cX3_isFull 14 = .ok (.ireturn, 1) := by decide +kernel
theorem dX3_buy_0 : decode cX3_buy 0 = .ok (.aload_n 0, 1) := by decide +kernel
theorem dX3_buy_1 : decode cX3_buy 1 = .ok (.invokevirtual 44, 3) := by decide +kernel
theorem dX3_buy_4 : decode cX3_buy 4 = .ok (.ifCond .eq 5, 3) := by decide +kernel
theorem dX3_buy_7 : decode cX3_buy 7 = .ok (.iconst (-1), 1) := by decide +kernel
theorem dX3_buy_8 : decode cX3_buy 8 = .ok (.ireturn, 1) := by decide +kernel
theorem dX3_buy_9 : decode cX3_buy 9 = .ok (.aload_n 0, 1) := by decide +kernel
theorem dX3_buy_10 : decode cX3_buy 10 = .ok (.getfield 11, 3) := by decide +kernel
theorem dX3_buy_13 : decode cX3_buy 13 = .ok (.aload_n 0, 1) := by decide +kernel
theorem dX3_buy_14 : decode cX3_buy 14 = .ok (.getfield 40, 3) := by decide +kernel
theorem dX3_buy_17 : decode cX3_buy 17 = .ok (.aload_n 1, 1) := by decide +kernel
theorem dX3_buy_18 : decode cX3_buy 18 = .ok (.aastore, 1) := by decide +kernel
theorem dX3_buy_19 : decode cX3_buy 19 = .ok (.aload_n 0, 1) := by decide +kernel
theorem dX3_buy_20 : decode cX3_buy 20 = .ok (.dup, 1) := by decide +kernel
theorem dX3_buy_21 : decode cX3_buy 21 = .ok (.getfield 40, 3) := by decide +kernel
theorem dX3_buy_24 : decode cX3_buy 24 = .ok (.iconst 1, 1) := by decide +kernel
theorem dX3_buy_25 : decode cX3_buy 25 = .ok (.iadd, 1) := by decide +kernel
theorem dX3_buy_26 : decode cX3_buy 26 = .ok (.putfield 40, 3) := by decide +kernel
theorem dX3_buy_29 : decode cX3_buy 29 = .ok (.aload_n 0, 1) := by decide +kernel
theorem dX3_buy_30 : decode cX3_buy 30 = .ok (.getfield 40, 3) := by decide +kernel
theorem dX3_buy_33 : decode cX3_buy 33 = .ok (.iconst 1, 1) := by decide +kernel
theorem dX3_buy_34 : decode cX3_buy 34 = .ok (.isub, 1) := by decide +kernel
theorem dX3_buy_35 : decode cX3_buy 35 = .ok (.ireturn, 1) := by decide +kernel
theorem dX3_passOn_0 : decode cX3_passOn 0 = .ok (.aload_n 0, 1) := by decide +kernel
theorem dX3_passOn_1 : decode cX3_passOn 1 = .ok (.getfield 48, 3) := by decide +kernel
theorem dX3_passOn_4 : decode cX3_passOn 4 = .ok (.bipush 40, 2) := by decide +kernel
theorem dX3_passOn_6 : decode cX3_passOn 6 = .ok (.if_icmp .lt 5, 3) := by decide +kernel
theorem dX3_passOn_9 : decode cX3_passOn 9 = .ok (.iconst 0, 1) := by decide +kernel
theorem dX3_passOn_10 : decode cX3_passOn 10 = .ok (.ireturn, 1) := by decide +kernel
theorem dX3_passOn_11 : decode cX3_passOn 11 = .ok (.aload_n 0, 1) := by decide +kernel
theorem dX3_passOn_12 : decode cX3_passOn 12 = .ok (.getfield 17, 3) := by decide +kernel
theorem dX3_passOn_15 : decode cX3_passOn 15 = .ok (.aload_n 0, 1) := by decide +kernel
theorem dX3_passOn_16 : decode cX3_passOn 16 = .ok (.getfield 48, 3) := by decide +kernel
theorem dX3_passOn_19 : decode cX3_passOn 19 = .ok (.iload_n 1, 1) := by decide +kernel
theorem dX3_passOn_20 : decode cX3_passOn 20 = .ok (.iastore, 1) := by decide +kernel
theorem dX3_passOn_21 : decode cX3_passOn 21 = .ok (.aload_n 0, 1) := by decide +kernel
theorem dX3_passOn_22 : decode cX3_passOn 22 = .ok (.getfield 21, 3) := by decide +kernel
theorem dX3_passOn_25 : decode cX3_passOn 25 = .ok (.aload_n 0, 1) := by decide +kernel
theorem dX3_passOn_26 : decode cX3_passOn 26 = .ok (.getfield 48, 3) := by decide +kernel
theorem dX3_passOn_29 : decode cX3_passOn 29 = .ok (.iload_n 2, 1) := by decide +kernel
theorem dX3_passOn_30 : decode cX3_passOn 30 = .ok (.iastore, 1) := by decide +kernel
theorem dX3_passOn_31 : decode cX3_passOn 31 = .ok (.aload_n 0, 1) := by decide +kernel
theorem dX3_passOn_32 : decode cX3_passOn 32 = .ok (.getfield 24, 3) := by decide +kernel
theorem dX3_passOn_35 : decode cX3_passOn 35 = .ok (.aload_n 0, 1) := by decide +kernel
theorem dX3_passOn_36 : decode cX3_passOn 36 = .ok (.getfield 48, 3) := by decide +kernel
theorem dX3_passOn_39 : decode cX3_passOn 39 = .ok (.iload_n 3, 1) := by decide +kernel
theorem dX3_passOn_40 : decode cX3_passOn 40 = .ok (.iastore, 1) := by decide +kernel
theorem dX3_passOn_41 : decode cX3_passOn 41 = .ok (.aload_n 0, 1) := by decide +kernel
theorem dX3_passOn_42 : decode cX3_passOn 42 = .ok (.getfield 27, 3) := by decide +kernel
theorem dX3_passOn_45 : decode cX3_passOn 45 = .ok (.aload_n 0, 1) := by decide +kernel
theorem dX3_passOn_46 : decode cX3_passOn 46 = .ok (.getfield 48, 3) := by decide +kernel
theorem dX3_passOn_49 : decode cX3_passOn 49 = .ok (.iload 4, 2) := by decide +kernel
theorem dX3_passOn_51 : decode cX3_passOn 51 = .ok (.iastore, 1) := by decide +kernel
theorem dX3_passOn_52 : decode cX3_passOn 52 = .ok (.aload_n 0, 1) := by decide +kernel
theorem dX3_passOn_53 : decode cX3_passOn 53 = .ok (.getfield 30, 3) := by decide +kernel
theorem dX3_passOn_56 : decode cX3_passOn 56 = .ok (.aload_n 0, 1) := by decide +kernel
theorem dX3_passOn_57 : decode cX3_passOn 57 = .ok (.getfield 48, 3) := by decide +kernel
theorem dX3_passOn_60 : decode cX3_passOn 60 = .ok (.iload 5, 2) := by decide +kernel
theorem dX3_passOn_62 : decode cX3_passOn 62 = .ok (.iastore, 1) := by decide +kernel
theorem dX3_passOn_63 : decode cX3_passOn 63 = .ok (.aload_n 0, 1) := by decide +kernel
theorem dX3_passOn_64 : decode cX3_passOn 64 = .ok (.dup, 1) := by decide +kernel
theorem dX3_passOn_65 : decode cX3_passOn 65 = .ok (.getfield 48, 3) := by decide +kernel
theorem dX3_passOn_68 : decode cX3_passOn 68 = .ok (.iconst 1, 1) := by decide +kernel
theorem dX3_passOn_69 : decode cX3_passOn 69 = .ok (.iadd, 1) := by decide +kernel
theorem dX3_passOn_70 : decode cX3_passOn 70 = .ok (.putfield 48, 3) := by decide +kernel
theorem dX3_passOn_73 : decode cX3_passOn 73 = .ok (.iconst 1, 1) := by decide +kernel
theorem dX3_passOn_74 : decode cX3_passOn 74 = .ok (.ireturn, 1) := by decide +kernel
theorem dX3_heldBy_0 : decode cX3_heldBy 0 = .ok (.aload_n 0, 1) := by decide +kernel
theorem dX3_heldBy_1 : decode cX3_heldBy 1 = .ok (.iload_n 1, 1) := by decide +kernel
theorem dX3_heldBy_2 : decode cX3_heldBy 2 = .ok (.iload_n 3, 1) := by decide +kernel
theorem dX3_heldBy_3 : decode cX3_heldBy 3 = .ok (.invokevirtual 51, 3) := by decide +kernel
theorem dX3_heldBy_6 : decode cX3_heldBy 6 = .ok (.aload_n 0, 1) := by decide +kernel
theorem dX3_heldBy_7 : decode cX3_heldBy 7 = .ok (.getfield 33, 3) := by decide +kernel
theorem dX3_heldBy_10 : decode cX3_heldBy 10 = .ok (.iload_n 2, 1) := by decide +kernel
theorem dX3_heldBy_11 : decode cX3_heldBy 11 = .ok (.iaload, 1) := by decide +kernel
theorem dX3_heldBy_12 : decode cX3_heldBy 12 = .ok (.ireturn, 1) := by decide +kernel
theorem dX3_spreadParts_0 : decode cX3_spreadParts 0 = .ok (.aload_n 0, 1) := by decide +kernel
theorem dX3_spreadParts_1 : decode cX3_spreadParts 1 = .ok (.getfield 33, 3) := by decide +kernel
theorem dX3_spreadParts_4 : decode cX3_spreadParts 4 = .ok (.iconst 0, 1) := by decide +kernel
theorem dX3_spreadParts_5 : decode cX3_spreadParts 5 = .ok (.invokestatic 55, 3) := by decide +kernel
theorem dX3_spreadParts_8 : decode cX3_spreadParts 8 = .ok (.iload_n 2, 1) := by decide +kernel
theorem dX3_spreadParts_9 : decode cX3_spreadParts 9 = .ok (.aload_n 0, 1) := by decide +kernel
theorem dX3_spreadParts_10 : decode cX3_spreadParts 10 = .ok (.getfield 11, 3) := by decide +kernel
theorem dX3_spreadParts_13 : decode cX3_spreadParts 13 = .ok (.iload_n 1, 1) := by decide +kernel
theorem dX3_spreadParts_14 : decode cX3_spreadParts 14 = .ok (.aaload, 1) := by decide +kernel
theorem dX3_spreadParts_15 : decode cX3_spreadParts 15 = .ok (.getfield 61, 3) := by decide +kernel
theorem dX3_spreadParts_18 : decode cX3_spreadParts 18 = .ok (.if_icmp .ge 4, 3) := by decide +kernel
theorem dX3_spreadParts_21 : decode cX3_spreadParts 21 = .ok (.return_, 1) := by decide +kernel
theorem dX3_spreadParts_22 : decode cX3_spreadParts 22 = .ok (.aload_n 0, 1) := by decide +kernel
theorem dX3_spreadParts_23 : decode cX3_spreadParts 23 = .ok (.getfield 33, 3) := by decide +kernel
theorem dX3_spreadParts_26 : decode cX3_spreadParts 26 = .ok (.aload_n 0, 1) := by decide +kernel
theorem dX3_spreadParts_27 : decode cX3_spreadParts 27 = .ok (.getfield 11, 3) := by decide +kernel
theorem dX3_spreadParts_30 : decode cX3_spreadParts 30 = .ok (.iload_n 1, 1) := by decide +kernel
theorem dX3_spreadParts_31 : decode cX3_spreadParts 31 = .ok (.aaload, 1) := by decide +kernel
theorem dX3_spreadParts_32 : decode cX3_spreadParts 32 = .ok (.getfield 64, 3) := by decide +kernel
theorem dX3_spreadParts_35 : decode cX3_spreadParts 35 = .ok (.bipush 60, 2) := by decide +kernel
theorem dX3_spreadParts_37 : decode cX3_spreadParts 37 = .ok (.iastore, 1) := by decide +kernel
theorem dX3_spreadParts_38 : decode cX3_spreadParts 38 = .ok (.iconst 0, 1) := by decide +kernel
theorem dX3_spreadParts_39 : decode cX3_spreadParts 39 = .ok (.istore_n 3, 1) := by decide +kernel
theorem dX3_spreadParts_40 : decode cX3_spreadParts 40 = .ok (.iload_n 3, 1) := by decide +kernel
theorem dX3_spreadParts_41 : decode cX3_spreadParts 41 = .ok (.aload_n 0, 1) := by decide +kernel
theorem dX3_spreadParts_42 : decode cX3_spreadParts 42 = .ok (.getfield 48, 3) := by decide +kernel
theorem dX3_spreadParts_45 : decode cX3_spreadParts 45 = .ok (.if_icmp .ge 69, 3) := by decide +kernel
theorem dX3_spreadParts_48 : decode cX3_spreadParts 48 = .ok (.aload_n 0, 1) := by decide +kernel
theorem dX3_spreadParts_49 : decode cX3_spreadParts 49 = .ok (.getfield 17, 3) := by decide +kernel
theorem dX3_spreadParts_52 : decode cX3_spreadParts 52 = .ok (.iload_n 3, 1) := by decide +kernel
theorem dX3_spreadParts_53 : decode cX3_spreadParts 53 = .ok (.iaload, 1) := by decide +kernel
theorem dX3_spreadParts_54 : decode cX3_spreadParts 54 = .ok (.iload_n 1, 1) := by decide +kernel
theorem dX3_spreadParts_55 : decode cX3_spreadParts 55 = .ok (.if_icmp .ne 53, 3) := by decide +kernel
theorem dX3_spreadParts_58 : decode cX3_spreadParts 58 = .ok (.aload_n 0, 1) := by decide +kernel
theorem dX3_spreadParts_59 : decode cX3_spreadParts 59 = .ok (.getfield 30, 3) := by decide +kernel
theorem dX3_spreadParts_62 : decode cX3_spreadParts 62 = .ok (.iload_n 3, 1) := by decide +kernel
theorem dX3_spreadParts_63 : decode cX3_spreadParts 63 = .ok (.iaload, 1) := by decide +kernel
theorem dX3_spreadParts_64 : decode cX3_spreadParts 64 = .ok (.iload_n 2, 1) := by decide +kernel
theorem dX3_spreadParts_65 : decode cX3_spreadParts 65 = .ok (.if_icmp .gt 43, 3) := by decide +kernel
theorem dX3_spreadParts_68 : decode cX3_spreadParts 68 = .ok (.aload_n 0, 1) := by decide +kernel
theorem dX3_spreadParts_69 : decode cX3_spreadParts 69 = .ok (.getfield 33, 3) := by decide +kernel
theorem dX3_spreadParts_72 : decode cX3_spreadParts 72 = .ok (.aload_n 0, 1) := by decide +kernel
theorem dX3_spreadParts_73 : decode cX3_spreadParts 73 = .ok (.getfield 21, 3) := by decide +kernel
theorem dX3_spreadParts_76 : decode cX3_spreadParts 76 = .ok (.iload_n 3, 1) := by decide +kernel
theorem dX3_spreadParts_77 : decode cX3_spreadParts 77 = .ok (.iaload, 1) := by decide +kernel
theorem dX3_spreadParts_78 : decode cX3_spreadParts 78 = .ok (.dup2, 1) := by decide +kernel
theorem dX3_spreadParts_79 : decode cX3_spreadParts 79 = .ok (.iaload, 1) := by decide +kernel
theorem dX3_spreadParts_80 : decode cX3_spreadParts 80 = .ok (.aload_n 0, 1) := by decide +kernel
theorem dX3_spreadParts_81 : decode cX3_spreadParts 81 = .ok (.getfield 27, 3) := by decide +kernel
theorem dX3_spreadParts_84 : decode cX3_spreadParts 84 = .ok (.iload_n 3, 1) := by decide +kernel
theorem dX3_spreadParts_85 : decode cX3_spreadParts 85 = .ok (.iaload, 1) := by decide +kernel
theorem dX3_spreadParts_86 : decode cX3_spreadParts 86 = .ok (.isub, 1) := by decide +kernel
theorem dX3_spreadParts_87 : decode cX3_spreadParts 87 = .ok (.iastore, 1) := by decide +kernel
theorem dX3_spreadParts_88 : decode cX3_spreadParts 88 = .ok (.aload_n 0, 1) := by decide +kernel
theorem dX3_spreadParts_89 : decode cX3_spreadParts 89 = .ok (.getfield 33, 3) := by decide +kernel
theorem dX3_spreadParts_92 : decode cX3_spreadParts 92 = .ok (.aload_n 0, 1) := by decide +kernel
theorem dX3_spreadParts_93 : decode cX3_spreadParts 93 = .ok (.getfield 24, 3) := by decide +kernel
theorem dX3_spreadParts_96 : decode cX3_spreadParts 96 = .ok (.iload_n 3, 1) := by decide +kernel
theorem dX3_spreadParts_97 : decode cX3_spreadParts 97 = .ok (.iaload, 1) := by decide +kernel
theorem dX3_spreadParts_98 : decode cX3_spreadParts 98 = .ok (.dup2, 1) := by decide +kernel
theorem dX3_spreadParts_99 : decode cX3_spreadParts 99 = .ok (.iaload, 1) := by decide +kernel
theorem dX3_spreadParts_100 : decode cX3_spreadParts 100 = .ok (.aload_n 0, 1) := by decide +kernel
theorem dX3_spreadParts_101 : decode cX3_spreadParts 101 = .ok (.getfield 27, 3) := by decide +kernel
theorem dX3_spreadParts_104 : decode cX3_spreadParts 104 = .ok (.iload_n 3, 1) := by decide +kernel
theorem dX3_spreadParts_105 : decode cX3_spreadParts 105 = .ok (.iaload, 1) := by decide +kernel
theorem dX3_spreadParts_106 : decode cX3_spreadParts 106 = .ok (.iadd, 1) := by decide +kernel
theorem dX3_spreadParts_107 : decode cX3_spreadParts 107 = .ok (.iastore, 1) := by decide +kernel
theorem dX3_spreadParts_108 : decode cX3_spreadParts 108 = .ok (.iinc 3 1, 3) := by decide +kernel
theorem dX3_spreadParts_111 : decode cX3_spreadParts 111 = .ok (.goto (-71), 3) := by decide +kernel
theorem dX3_spreadParts_114 : decode cX3_spreadParts 114 = .ok (.return_, 1) := by decide +kernel
theorem dX3_firstAloneOn_0 : decode cX3_firstAloneOn 0 = .ok (.iconst 0, 1) := by decide +kernel
theorem dX3_firstAloneOn_1 : decode cX3_firstAloneOn 1 = .ok (.istore_n 2, 1) := by decide +kernel
theorem dX3_firstAloneOn_2 : decode cX3_firstAloneOn 2 = .ok (.iload_n 2, 1) := by decide +kernel
theorem dX3_firstAloneOn_3 : decode cX3_firstAloneOn 3 = .ok (.aload_n 0, 1) := by decide +kernel
theorem dX3_firstAloneOn_4 : decode cX3_firstAloneOn 4 = .ok (.getfield 40, 3) := by decide +kernel
theorem dX3_firstAloneOn_7 : decode cX3_firstAloneOn 7 = .ok (.if_icmp .ge 24, 3) := by decide +kernel
theorem dX3_firstAloneOn_10 : decode cX3_firstAloneOn 10 = .ok (.aload_n 0, 1) := by decide +kernel
theorem dX3_firstAloneOn_11 : decode cX3_firstAloneOn 11 = .ok (.getfield 11, 3) := by decide +kernel
theorem dX3_firstAloneOn_14 : decode cX3_firstAloneOn 14 = .ok (.iload_n 2, 1) := by decide +kernel
theorem dX3_firstAloneOn_15 : decode cX3_firstAloneOn 15 = .ok (.aaload, 1) := by decide +kernel
theorem dX3_firstAloneOn_16 : decode cX3_firstAloneOn 16 = .ok (.iload_n 1, 1) := by decide +kernel
theorem dX3_firstAloneOn_17 : decode cX3_firstAloneOn 17 = .ok (.invokevirtual 67, 3) := by decide +kernel
theorem dX3_firstAloneOn_20 : decode cX3_firstAloneOn 20 = .ok (.ifCond .eq 5, 3) := by decide +kernel
theorem dX3_firstAloneOn_23 : decode cX3_firstAloneOn 23 = .ok (.iload_n 2, 1) := by decide +kernel
theorem dX3_firstAloneOn_24 : decode cX3_firstAloneOn 24 = .ok (.ireturn, 1) := by decide +kernel
theorem dX3_firstAloneOn_25 : decode cX3_firstAloneOn 25 = .ok (.iinc 2 1, 3) := by decide +kernel
theorem dX3_firstAloneOn_28 : decode cX3_firstAloneOn 28 = .ok (.goto (-26), 3) := by decide +kernel
theorem dX3_firstAloneOn_31 : decode cX3_firstAloneOn 31 = .ok (.iconst (-1), 1) := by decide +kernel
theorem dX3_firstAloneOn_32 : decode cX3_firstAloneOn 32 = .ok (.ireturn, 1) := by decide +kernel
theorem dX3_coinsAloneOn_0 : decode cX3_coinsAloneOn 0 = .ok (.iconst 0, 1) := by decide +kernel
theorem dX3_coinsAloneOn_1 : decode cX3_coinsAloneOn 1 = .ok (.istore_n 2, 1) := by decide +kernel
theorem dX3_coinsAloneOn_2 : decode cX3_coinsAloneOn 2 = .ok (.iconst 0, 1) := by decide +kernel
theorem dX3_coinsAloneOn_3 : decode cX3_coinsAloneOn 3 = .ok (.istore_n 3, 1) := by decide +kernel
theorem dX3_coinsAloneOn_4 : decode cX3_coinsAloneOn 4 = .ok (.iload_n 3, 1) := by decide +kernel
theorem dX3_coinsAloneOn_5 : decode cX3_coinsAloneOn 5 = .ok (.aload_n 0, 1) := by decide +kernel
theorem dX3_coinsAloneOn_6 : decode cX3_coinsAloneOn 6 = .ok (.getfield 40, 3) := by decide +kernel
theorem dX3_coinsAloneOn_9 : decode cX3_coinsAloneOn 9 = .ok (.if_icmp .ge 34, 3) := by decide +kernel
theorem dX3_coinsAloneOn_12 : decode cX3_coinsAloneOn 12 = .ok (.aload_n 0, 1) := by decide +kernel
theorem dX3_coinsAloneOn_13 : decode cX3_coinsAloneOn 13 = .ok (.getfield 11, 3) := by decide +kernel
theorem dX3_coinsAloneOn_16 : decode cX3_coinsAloneOn 16 = .ok (.iload_n 3, 1) := by decide +kernel
theorem dX3_coinsAloneOn_17 : decode cX3_coinsAloneOn 17 = .ok (.aaload, 1) := by decide +kernel
theorem dX3_coinsAloneOn_18 : decode cX3_coinsAloneOn 18 = .ok (.iload_n 1, 1) := by decide +kernel
theorem dX3_coinsAloneOn_19 : decode cX3_coinsAloneOn 19 = .ok (.invokevirtual 67, 3) := by decide +kernel
theorem dX3_coinsAloneOn_22 : decode cX3_coinsAloneOn 22 = .ok (.ifCond .eq 15, 3) := by decide +kernel
theorem dX3_coinsAloneOn_25 : decode cX3_coinsAloneOn 25 = .ok (.iload_n 2, 1) := by decide +kernel
theorem dX3_coinsAloneOn_26 : decode cX3_coinsAloneOn 26 = .ok (.aload_n 0, 1) := by decide +kernel
theorem dX3_coinsAloneOn_27 : decode cX3_coinsAloneOn 27 = .ok (.getfield 11, 3) := by decide +kernel
theorem dX3_coinsAloneOn_30 : decode cX3_coinsAloneOn 30 = .ok (.iload_n 3, 1) := by decide +kernel
theorem dX3_coinsAloneOn_31 : decode cX3_coinsAloneOn 31 = .ok (.aaload, 1) := by decide +kernel
theorem dX3_coinsAloneOn_32 : decode cX3_coinsAloneOn 32 = .ok (.getfield 71, 3) := by decide +kernel
theorem dX3_coinsAloneOn_35 : decode cX3_coinsAloneOn 35 = .ok (.iadd, 1) := by decide +kernel
theorem dX3_coinsAloneOn_36 : decode cX3_coinsAloneOn 36 = .ok (.istore_n 2, 1) := by decide +kernel
theorem dX3_coinsAloneOn_37 : decode cX3_coinsAloneOn 37 = .ok (.iinc 3 1, 3) := by decide +kernel
theorem dX3_coinsAloneOn_40 : decode cX3_coinsAloneOn 40 = .ok (.goto (-36), 3) := by decide +kernel
theorem dX3_coinsAloneOn_43 : decode cX3_coinsAloneOn 43 = .ok (.iload_n 2, 1) := by decide +kernel
theorem dX3_coinsAloneOn_44 : decode cX3_coinsAloneOn 44 = .ok (.ireturn, 1) := by decide +kernel
theorem dX3_isDue_0 : decode cX3_isDue 0 = .ok (.aload_n 0, 1) := by decide +kernel
theorem dX3_isDue_1 : decode cX3_isDue 1 = .ok (.getfield 11, 3) := by decide +kernel
theorem dX3_isDue_4 : decode cX3_isDue 4 = .ok (.iload_n 1, 1) := by decide +kernel
theorem dX3_isDue_5 : decode cX3_isDue 5 = .ok (.aaload, 1) := by decide +kernel
theorem dX3_isDue_6 : decode cX3_isDue 6 = .ok (.astore_n 3, 1) := by decide +kernel
theorem dX3_isDue_7 : decode cX3_isDue 7 = .ok (.iload_n 2, 1) := by decide +kernel
theorem dX3_isDue_8 : decode cX3_isDue 8 = .ok (.aload_n 3, 1) := by decide +kernel
theorem dX3_isDue_9 : decode cX3_isDue 9 = .ok (.getfield 61, 3) := by decide +kernel
theorem dX3_isDue_12 : decode cX3_isDue 12 = .ok (.if_icmp .gt 5, 3) := by decide +kernel
theorem dX3_isDue_15 : decode cX3_isDue 15 = .ok (.iconst 0, 1) := by decide +kernel
theorem dX3_isDue_16 : decode cX3_isDue 16 = .ok (.ireturn, 1) := by decide +kernel
theorem dX3_isDue_17 : decode cX3_isDue 17 = .ok (.aload_n 0, 1) := by decide +kernel
theorem dX3_isDue_18 : decode cX3_isDue 18 = .ok (.getfield 36, 3) := by decide +kernel
theorem dX3_isDue_21 : decode cX3_isDue 21 = .ok (.aload_n 3, 1) := by decide +kernel
theorem dX3_isDue_22 : decode cX3_isDue 22 = .ok (.getfield 74, 3) := by decide +kernel
theorem dX3_isDue_25 : decode cX3_isDue 25 = .ok (.iload_n 2, 1) := by decide +kernel
theorem dX3_isDue_26 : decode cX3_isDue 26 = .ok (.invokevirtual 77, 3) := by decide +kernel
theorem dX3_isDue_29 : decode cX3_isDue 29 = .ok (.ifCond .ne 26, 3) := by decide +kernel
theorem dX3_isDue_32 : decode cX3_isDue 32 = .ok (.aload_n 3, 1) := by decide +kernel
theorem dX3_isDue_33 : decode cX3_isDue 33 = .ok (.getfield 83, 3) := by decide +kernel
theorem dX3_isDue_36 : decode cX3_isDue 36 = .ok (.iconst (-1), 1) := by decide +kernel
theorem dX3_isDue_37 : decode cX3_isDue 37 = .ok (.if_icmp .eq 22, 3) := by decide +kernel
theorem dX3_isDue_40 : decode cX3_isDue 40 = .ok (.aload_n 0, 1) := by decide +kernel
theorem dX3_isDue_41 : decode cX3_isDue 41 = .ok (.getfield 36, 3) := by decide +kernel
theorem dX3_isDue_44 : decode cX3_isDue 44 = .ok (.aload_n 3, 1) := by decide +kernel
theorem dX3_isDue_45 : decode cX3_isDue 45 = .ok (.getfield 83, 3) := by decide +kernel
theorem dX3_isDue_48 : decode cX3_isDue 48 = .ok (.iload_n 2, 1) := by decide +kernel
theorem dX3_isDue_49 : decode cX3_isDue 49 = .ok (.invokevirtual 77, 3) := by decide +kernel
theorem dX3_isDue_52 : decode cX3_isDue 52 = .ok (.ifCond .eq 7, 3) := by decide +kernel
theorem dX3_isDue_55 : decode cX3_isDue 55 = .ok (.iconst 1, 1) := by decide +kernel
theorem dX3_isDue_56 : decode cX3_isDue 56 = .ok (.goto 4, 3) := by decide +kernel
theorem dX3_isDue_59 : decode cX3_isDue 59 = .ok (.iconst 0, 1) := by decide +kernel
theorem dX3_isDue_60 : decode cX3_isDue 60 = .ok (.ireturn, 1) := by decide +kernel
theorem dX3_isProved_0 : decode cX3_isProved 0 = .ok (.aload_n 0, 1) := by decide +kernel
theorem dX3_isProved_1 : decode cX3_isProved 1 = .ok (.getfield 11, 3) := by decide +kernel
theorem dX3_isProved_4 : decode cX3_isProved 4 = .ok (.iload_n 1, 1) := by decide +kernel
theorem dX3_isProved_5 : decode cX3_isProved 5 = .ok (.aaload, 1) := by decide +kernel
theorem dX3_isProved_6 : decode cX3_isProved 6 = .ok (.astore 4, 2) := by decide +kernel
theorem dX3_isProved_8 : decode cX3_isProved 8 = .ok (.bipush 79, 2) := by decide +kernel
theorem dX3_isProved_10 : decode cX3_isProved 10 = .ok (.iload_n 2, 1) := by decide +kernel
theorem dX3_isProved_11 : decode cX3_isProved 11 = .ok (.iload_n 3, 1) := by decide +kernel
theorem dX3_isProved_12 : decode cX3_isProved 12 = .ok (.iadd, 1) := by decide +kernel
theorem dX3_isProved_13 : decode cX3_isProved 13 = .ok (.invokestatic 86, 3) := by decide +kernel
theorem dX3_isProved_16 : decode cX3_isProved 16 = .ok (.istore 5, 2) := by decide +kernel
theorem dX3_isProved_18 : decode cX3_isProved 18 = .ok (.aload_n 0, 1) := by decide +kernel
theorem dX3_isProved_19 : decode cX3_isProved 19 = .ok (.getfield 36, 3) := by decide +kernel
theorem dX3_isProved_22 : decode cX3_isProved 22 = .ok (.aload 4, 2) := by decide +kernel
theorem dX3_isProved_24 : decode cX3_isProved 24 = .ok (.getfield 74, 3) := by decide +kernel
theorem dX3_isProved_27 : decode cX3_isProved 27 = .ok (.iload_n 2, 1) := by decide +kernel
theorem dX3_isProved_28 : decode cX3_isProved 28 = .ok (.iload 5, 2) := by decide +kernel
theorem dX3_isProved_30 : decode cX3_isProved 30 = .ok (.invokevirtual 92, 3) := by decide +kernel
theorem dX3_isProved_33 : decode cX3_isProved 33 = .ok (.ifCond .ne 30, 3) := by decide +kernel
theorem dX3_isProved_36 : decode cX3_isProved 36 = .ok (.aload 4, 2) := by decide +kernel
theorem dX3_isProved_38 : decode cX3_isProved 38 = .ok (.getfield 83, 3) := by decide +kernel
theorem dX3_isProved_41 : decode cX3_isProved 41 = .ok (.iconst (-1), 1) := by decide +kernel
theorem dX3_isProved_42 : decode cX3_isProved 42 = .ok (.if_icmp .eq 25, 3) := by decide +kernel
theorem dX3_isProved_45 : decode cX3_isProved 45 = .ok (.aload_n 0, 1) := by decide +kernel
theorem dX3_isProved_46 : decode cX3_isProved 46 = .ok (.getfield 36, 3) := by decide +kernel
theorem dX3_isProved_49 : decode cX3_isProved 49 = .ok (.aload 4, 2) := by decide +kernel
theorem dX3_isProved_51 : decode cX3_isProved 51 = .ok (.getfield 83, 3) := by decide +kernel
theorem dX3_isProved_54 : decode cX3_isProved 54 = .ok (.iload_n 2, 1) := by decide +kernel
theorem dX3_isProved_55 : decode cX3_isProved 55 = .ok (.iload 5, 2) := by decide +kernel
theorem dX3_isProved_57 : decode cX3_isProved 57 = .ok (.invokevirtual 92, 3) := by decide +kernel
theorem dX3_isProved_60 : decode cX3_isProved 60 = .ok (.ifCond .eq 7, 3) := by decide +kernel
theorem dX3_isProved_63 : decode cX3_isProved 63 = .ok (.iconst 1, 1) := by decide +kernel
theorem dX3_isProved_64 : decode cX3_isProved 64 = .ok (.goto 4, 3) := by decide +kernel
theorem dX3_isProved_67 : decode cX3_isProved 67 = .ok (.iconst 0, 1) := by decide +kernel
theorem dX3_isProved_68 : decode cX3_isProved 68 = .ok (.ireturn, 1) := by decide +kernel
theorem dX3_reopen_0 : decode cX3_reopen 0 = .ok (.aload_n 0, 1) := by decide +kernel
theorem dX3_reopen_1 : decode cX3_reopen 1 = .ok (.iconst 0, 1) := by decide +kernel
theorem dX3_reopen_2 : decode cX3_reopen 2 = .ok (.putfield 96, 3) := by decide +kernel
theorem dX3_reopen_5 : decode cX3_reopen 5 = .ok (.return_, 1) := by decide +kernel
theorem dX3_settle_0 : decode cX3_settle 0 = .ok (.iconst 0, 1) := by decide +kernel
theorem dX3_settle_1 : decode cX3_settle 1 = .ok (.istore_n 3, 1) := by decide +kernel
theorem dX3_settle_2 : decode cX3_settle 2 = .ok (.iload_n 3, 1) := by decide +kernel
theorem dX3_settle_3 : decode cX3_settle 3 = .ok (.aload_n 0, 1) := by decide +kernel
theorem dX3_settle_4 : decode cX3_settle 4 = .ok (.getfield 40, 3) := by decide +kernel
theorem dX3_settle_7 : decode cX3_settle 7 = .ok (.if_icmp .ge 22, 3) := by decide +kernel
theorem dX3_settle_10 : decode cX3_settle 10 = .ok (.aload_n 0, 1) := by decide +kernel
theorem dX3_settle_11 : decode cX3_settle 11 = .ok (.getfield 11, 3) := by decide +kernel
theorem dX3_settle_14 : decode cX3_settle 14 = .ok (.iload_n 3, 1) := by decide +kernel
theorem dX3_settle_15 : decode cX3_settle 15 = .ok (.aaload, 1) := by decide +kernel
theorem dX3_settle_16 : decode cX3_settle 16 = .ok (.aload_n 0, 1) := by decide +kernel
theorem dX3_settle_17 : decode cX3_settle 17 = .ok (.getfield 96, 3) := by decide +kernel
theorem dX3_settle_20 : decode cX3_settle 20 = .ok (.invokevirtual 99, 3) := by decide +kernel
theorem dX3_settle_23 : decode cX3_settle 23 = .ok (.iinc 3 1, 3) := by decide +kernel
theorem dX3_settle_26 : decode cX3_settle 26 = .ok (.goto (-24), 3) := by decide +kernel
theorem dX3_settle_29 : decode cX3_settle 29 = .ok (.aload_n 0, 1) := by decide +kernel
theorem dX3_settle_30 : decode cX3_settle 30 = .ok (.getfield 96, 3) := by decide +kernel
theorem dX3_settle_33 : decode cX3_settle 33 = .ok (.istore_n 3, 1) := by decide +kernel
theorem dX3_settle_34 : decode cX3_settle 34 = .ok (.iload_n 3, 1) := by decide +kernel
theorem dX3_settle_35 : decode cX3_settle 35 = .ok (.iload_n 1, 1) := by decide +kernel
theorem dX3_settle_36 : decode cX3_settle 36 = .ok (.if_icmp .gt 52, 3) := by decide +kernel
theorem dX3_settle_39 : decode cX3_settle 39 = .ok (.aload_n 0, 1) := by decide +kernel
theorem dX3_settle_40 : decode cX3_settle 40 = .ok (.getfield 36, 3) := by decide +kernel
theorem dX3_settle_43 : decode cX3_settle 43 = .ok (.iload_n 3, 1) := by decide +kernel
theorem dX3_settle_44 : decode cX3_settle 44 = .ok (.invokevirtual 103, 3) := by decide +kernel
theorem dX3_settle_47 : decode cX3_settle 47 = .ok (.iconst 0, 1) := by decide +kernel
theorem dX3_settle_48 : decode cX3_settle 48 = .ok (.istore 4, 2) := by decide +kernel
theorem dX3_settle_50 : decode cX3_settle 50 = .ok (.iload 4, 2) := by decide +kernel
theorem dX3_settle_52 : decode cX3_settle 52 = .ok (.aload_n 0, 1) := by decide +kernel
theorem dX3_settle_53 : decode cX3_settle 53 = .ok (.getfield 40, 3) := by decide +kernel
theorem dX3_settle_56 : decode cX3_settle 56 = .ok (.if_icmp .ge 26, 3) := by decide +kernel
theorem dX3_settle_59 : decode cX3_settle 59 = .ok (.aload_n 0, 1) := by decide +kernel
theorem dX3_settle_60 : decode cX3_settle 60 = .ok (.iload 4, 2) := by decide +kernel
theorem dX3_settle_62 : decode cX3_settle 62 = .ok (.iload_n 3, 1) := by decide +kernel
theorem dX3_settle_63 : decode cX3_settle 63 = .ok (.aload_n 2, 1) := by decide +kernel
theorem dX3_settle_64 : decode cX3_settle 64 = .ok (.iconst 0, 1) := by decide +kernel
theorem dX3_settle_65 : decode cX3_settle 65 = .ok (.invokevirtual 106, 3) := by decide +kernel
theorem dX3_settle_68 : decode cX3_settle 68 = .ok (.aload_n 2, 1) := by decide +kernel
theorem dX3_settle_69 : decode cX3_settle 69 = .ok (.iconst 1, 1) := by decide +kernel
theorem dX3_settle_70 : decode cX3_settle 70 = .ok (.invokevirtual 106, 3) := by decide +kernel
theorem dX3_settle_73 : decode cX3_settle 73 = .ok (.invokevirtual 112, 3) := by decide +kernel
theorem dX3_settle_76 : decode cX3_settle 76 = .ok (.iinc 4 1, 3) := by decide +kernel
theorem dX3_settle_79 : decode cX3_settle 79 = .ok (.goto (-29), 3) := by decide +kernel
theorem dX3_settle_82 : decode cX3_settle 82 = .ok (.iinc 3 1, 3) := by decide +kernel
theorem dX3_settle_85 : decode cX3_settle 85 = .ok (.goto (-51), 3) := by decide +kernel
theorem dX3_settle_88 : decode cX3_settle 88 = .ok (.aload_n 0, 1) := by decide +kernel
theorem dX3_settle_89 : decode cX3_settle 89 = .ok (.iload_n 1, 1) := by decide +kernel
theorem dX3_settle_90 : decode cX3_settle 90 = .ok (.putfield 96, 3) := by decide +kernel
theorem dX3_settle_93 : decode cX3_settle 93 = .ok (.return_, 1) := by decide +kernel
theorem dX3_pay_0 : decode cX3_pay 0 = .ok (.aload_n 0, 1) := by decide +kernel
theorem dX3_pay_1 : decode cX3_pay 1 = .ok (.getfield 11, 3) := by decide +kernel
theorem dX3_pay_4 : decode cX3_pay 4 = .ok (.iload_n 1, 1) := by decide +kernel
theorem dX3_pay_5 : decode cX3_pay 5 = .ok (.aaload, 1) := by decide +kernel
theorem dX3_pay_6 : decode cX3_pay 6 = .ok (.getfield 116, 3) := by decide +kernel
theorem dX3_pay_9 : decode cX3_pay 9 = .ok (.astore 5, 2) := by decide +kernel
theorem dX3_pay_11 : decode cX3_pay 11 = .ok (.iconst 0, 1) := by decide +kernel
theorem dX3_pay_12 : decode cX3_pay 12 = .ok (.iload_n 2, 1) := by decide +kernel
theorem dX3_pay_13 : decode cX3_pay 13 = .ok (.iload_n 3, 1) := by decide +kernel
theorem dX3_pay_14 : decode cX3_pay 14 = .ok (.isub, 1) := by decide +kernel
theorem dX3_pay_15 : decode cX3_pay 15 = .ok (.invokestatic 119, 3) := by decide +kernel
theorem dX3_pay_18 : decode cX3_pay 18 = .ok (.istore 6, 2) := by decide +kernel
theorem dX3_pay_20 : decode cX3_pay 20 = .ok (.iload 6, 2) := by decide +kernel
theorem dX3_pay_22 : decode cX3_pay 22 = .ok (.iload_n 2, 1) := by decide +kernel
theorem dX3_pay_23 : decode cX3_pay 23 = .ok (.if_icmp .gt 46, 3) := by decide +kernel
theorem dX3_pay_26 : decode cX3_pay 26 = .ok (.aload 5, 2) := by decide +kernel
theorem dX3_pay_28 : decode cX3_pay 28 = .ok (.iload 6, 2) := by decide +kernel
theorem dX3_pay_30 : decode cX3_pay 30 = .ok (.iaload, 1) := by decide +kernel
theorem dX3_pay_31 : decode cX3_pay 31 = .ok (.iconst (-1), 1) := by decide +kernel
theorem dX3_pay_32 : decode cX3_pay 32 = .ok (.if_icmp .ne 31, 3) := by decide +kernel
theorem dX3_pay_35 : decode cX3_pay 35 = .ok (.aload_n 0, 1) := by decide +kernel
theorem dX3_pay_36 : decode cX3_pay 36 = .ok (.iload_n 1, 1) := by decide +kernel
theorem dX3_pay_37 : decode cX3_pay 37 = .ok (.iload 6, 2) := by decide +kernel
theorem dX3_pay_39 : decode cX3_pay 39 = .ok (.invokevirtual 122, 3) := by decide +kernel
theorem dX3_pay_42 : decode cX3_pay 42 = .ok (.ifCond .eq 21, 3) := by decide +kernel
theorem dX3_pay_45 : decode cX3_pay 45 = .ok (.aload_n 0, 1) := by decide +kernel
theorem dX3_pay_46 : decode cX3_pay 46 = .ok (.iload_n 1, 1) := by decide +kernel
theorem dX3_pay_47 : decode cX3_pay 47 = .ok (.iload 6, 2) := by decide +kernel
theorem dX3_pay_49 : decode cX3_pay 49 = .ok (.iload 4, 2) := by decide +kernel
theorem dX3_pay_51 : decode cX3_pay 51 = .ok (.invokevirtual 125, 3) := by decide +kernel
theorem dX3_pay_54 : decode cX3_pay 54 = .ok (.ifCond .eq 9, 3) := by decide +kernel
theorem dX3_pay_57 : decode cX3_pay 57 = .ok (.aload 5, 2) := by decide +kernel
theorem dX3_pay_59 : decode cX3_pay 59 = .ok (.iload 6, 2) := by decide +kernel
theorem dX3_pay_61 : decode cX3_pay 61 = .ok (.iload_n 2, 1) := by decide +kernel
theorem dX3_pay_62 : decode cX3_pay 62 = .ok (.iastore, 1) := by decide +kernel
theorem dX3_pay_63 : decode cX3_pay 63 = .ok (.iinc 6 1, 3) := by decide +kernel
theorem dX3_pay_66 : decode cX3_pay 66 = .ok (.goto (-46), 3) := by decide +kernel
theorem dX3_pay_69 : decode cX3_pay 69 = .ok (.return_, 1) := by decide +kernel
theorem dX3_gainsOf_0 : decode cX3_gainsOf 0 = .ok (.iconst 0, 1) := by decide +kernel
theorem dX3_gainsOf_1 : decode cX3_gainsOf 1 = .ok (.istore_n 3, 1) := by decide +kernel
theorem dX3_gainsOf_2 : decode cX3_gainsOf 2 = .ok (.iconst 0, 1) := by decide +kernel
theorem dX3_gainsOf_3 : decode cX3_gainsOf 3 = .ok (.istore 4, 2) := by decide +kernel
theorem dX3_gainsOf_5 : decode cX3_gainsOf 5 = .ok (.iload 4, 2) := by decide +kernel
theorem dX3_gainsOf_7 : decode cX3_gainsOf 7 = .ok (.aload_n 0, 1) := by decide +kernel
theorem dX3_gainsOf_8 : decode cX3_gainsOf 8 = .ok (.getfield 40, 3) := by decide +kernel
theorem dX3_gainsOf_11 : decode cX3_gainsOf 11 = .ok (.if_icmp .ge 63, 3) := by decide +kernel
theorem dX3_gainsOf_14 : decode cX3_gainsOf 14 = .ok (.iconst 0, 1) := by decide +kernel
theorem dX3_gainsOf_15 : decode cX3_gainsOf 15 = .ok (.istore 5, 2) := by decide +kernel
theorem dX3_gainsOf_17 : decode cX3_gainsOf 17 = .ok (.iload 5, 2) := by decide +kernel
theorem dX3_gainsOf_19 : decode cX3_gainsOf 19 = .ok (.iload_n 2, 1) := by decide +kernel
theorem dX3_gainsOf_20 : decode cX3_gainsOf 20 = .ok (.if_icmp .gt 48, 3) := by decide +kernel
theorem dX3_gainsOf_23 : decode cX3_gainsOf 23 = .ok (.aload_n 0, 1) := by decide +kernel
theorem dX3_gainsOf_24 : decode cX3_gainsOf 24 = .ok (.getfield 11, 3) := by decide +kernel
theorem dX3_gainsOf_27 : decode cX3_gainsOf 27 = .ok (.iload 4, 2) := by decide +kernel
theorem dX3_gainsOf_29 : decode cX3_gainsOf 29 = .ok (.aaload, 1) := by decide +kernel
theorem dX3_gainsOf_30 : decode cX3_gainsOf 30 = .ok (.iload 5, 2) := by decide +kernel
theorem dX3_gainsOf_32 : decode cX3_gainsOf 32 = .ok (.iload_n 2, 1) := by decide +kernel
theorem dX3_gainsOf_33 : decode cX3_gainsOf 33 = .ok (.invokevirtual 128, 3) := by decide +kernel
theorem dX3_gainsOf_36 : decode cX3_gainsOf 36 = .ok (.ifCond .eq 26, 3) := by decide +kernel
theorem dX3_gainsOf_39 : decode cX3_gainsOf 39 = .ok (.iload_n 3, 1) := by decide +kernel
theorem dX3_gainsOf_40 : decode cX3_gainsOf 40 = .ok (.aload_n 0, 1) := by decide +kernel
theorem dX3_gainsOf_41 : decode cX3_gainsOf 41 = .ok (.iload_n 1, 1) := by decide +kernel
theorem dX3_gainsOf_42 : decode cX3_gainsOf 42 = .ok (.iload 4, 2) := by decide +kernel
theorem dX3_gainsOf_44 : decode cX3_gainsOf 44 = .ok (.aload_n 0, 1) := by decide +kernel
theorem dX3_gainsOf_45 : decode cX3_gainsOf 45 = .ok (.getfield 11, 3) := by decide +kernel
theorem dX3_gainsOf_48 : decode cX3_gainsOf 48 = .ok (.iload 4, 2) := by decide +kernel
theorem dX3_gainsOf_50 : decode cX3_gainsOf 50 = .ok (.aaload, 1) := by decide +kernel
theorem dX3_gainsOf_51 : decode cX3_gainsOf 51 = .ok (.getfield 116, 3) := by decide +kernel
theorem dX3_gainsOf_54 : decode cX3_gainsOf 54 = .ok (.iload 5, 2) := by decide +kernel
theorem dX3_gainsOf_56 : decode cX3_gainsOf 56 = .ok (.iaload, 1) := by decide +kernel
theorem dX3_gainsOf_57 : decode cX3_gainsOf 57 = .ok (.invokevirtual 131, 3) := by decide +kernel
theorem dX3_gainsOf_60 : decode cX3_gainsOf 60 = .ok (.iadd, 1) := by decide +kernel
theorem dX3_gainsOf_61 : decode cX3_gainsOf 61 = .ok (.istore_n 3, 1) := by decide +kernel
theorem dX3_gainsOf_62 : decode cX3_gainsOf 62 = .ok (.iinc 5 1, 3) := by decide +kernel
theorem dX3_gainsOf_65 : decode cX3_gainsOf 65 = .ok (.goto (-48), 3) := by decide +kernel
theorem dX3_gainsOf_68 : decode cX3_gainsOf 68 = .ok (.iinc 4 1, 3) := by decide +kernel
theorem dX3_gainsOf_71 : decode cX3_gainsOf 71 = .ok (.goto (-66), 3) := by decide +kernel
theorem dX3_gainsOf_74 : decode cX3_gainsOf 74 = .ok (.iload_n 3, 1) := by decide +kernel
theorem dX3_gainsOf_75 : decode cX3_gainsOf 75 = .ok (.ireturn, 1) := by decide +kernel
theorem dX3_shareOf_0 : decode cX3_shareOf 0 = .ok (.aload_n 0, 1) := by decide +kernel
theorem dX3_shareOf_1 : decode cX3_shareOf 1 = .ok (.getfield 11, 3) := by decide +kernel
theorem dX3_shareOf_4 : decode cX3_shareOf 4 = .ok (.iload_n 2, 1) := by decide +kernel
theorem dX3_shareOf_5 : decode cX3_shareOf 5 = .ok (.aaload, 1) := by decide +kernel
theorem dX3_shareOf_6 : decode cX3_shareOf 6 = .ok (.getfield 71, 3) := by decide +kernel
theorem dX3_shareOf_9 : decode cX3_shareOf 9 = .ok (.istore 4, 2) := by decide +kernel
theorem dX3_shareOf_11 : decode cX3_shareOf 11 = .ok (.iload 4, 2) := by decide +kernel
theorem dX3_shareOf_13 : decode cX3_shareOf 13 = .ok (.istore 5, 2) := by decide +kernel
theorem dX3_shareOf_15 : decode cX3_shareOf 15 = .ok (.iconst 0, 1) := by decide +kernel
theorem dX3_shareOf_16 : decode cX3_shareOf 16 = .ok (.istore 6, 2) := by decide +kernel
theorem dX3_shareOf_18 : decode cX3_shareOf 18 = .ok (.aload_n 0, 1) := by decide +kernel
theorem dX3_shareOf_19 : decode cX3_shareOf 19 = .ok (.iload_n 2, 1) := by decide +kernel
theorem dX3_shareOf_20 : decode cX3_shareOf 20 = .ok (.iload_n 3, 1) := by decide +kernel
theorem dX3_shareOf_21 : decode cX3_shareOf 21 = .ok (.invokevirtual 51, 3) := by decide +kernel
theorem dX3_shareOf_24 : decode cX3_shareOf 24 = .ok (.iconst 0, 1) := by decide +kernel
theorem dX3_shareOf_25 : decode cX3_shareOf 25 = .ok (.istore 7, 2) := by decide +kernel
theorem dX3_shareOf_27 : decode cX3_shareOf 27 = .ok (.iload 7, 2) := by decide +kernel
theorem dX3_shareOf_29 : decode cX3_shareOf 29 = .ok (.bipush 8, 2) := by decide +kernel
theorem dX3_shareOf_31 : decode cX3_shareOf 31 = .ok (.if_icmp .ge 48, 3) := by decide +kernel
theorem dX3_shareOf_34 : decode cX3_shareOf 34 = .ok (.iload 5, 2) := by decide +kernel
theorem dX3_shareOf_36 : decode cX3_shareOf 36 = .ok (.iload 4, 2) := by decide +kernel
theorem dX3_shareOf_38 : decode cX3_shareOf 38 = .ok (.aload_n 0, 1) := by decide +kernel
theorem dX3_shareOf_39 : decode cX3_shareOf 39 = .ok (.getfield 33, 3) := by decide +kernel
theorem dX3_shareOf_42 : decode cX3_shareOf 42 = .ok (.iload 7, 2) := by decide +kernel
theorem dX3_shareOf_44 : decode cX3_shareOf 44 = .ok (.iaload, 1) := by decide +kernel
theorem dX3_shareOf_45 : decode cX3_shareOf 45 = .ok (.imul, 1) := by decide +kernel
theorem dX3_shareOf_46 : decode cX3_shareOf 46 = .ok (.bipush 60, 2) := by decide +kernel
theorem dX3_shareOf_48 : decode cX3_shareOf 48 = .ok (.idiv, 1) := by decide +kernel
theorem dX3_shareOf_49 : decode cX3_shareOf 49 = .ok (.isub, 1) := by decide +kernel
theorem dX3_shareOf_50 : decode cX3_shareOf 50 = .ok (.istore 5, 2) := by decide +kernel
theorem dX3_shareOf_52 : decode cX3_shareOf 52 = .ok (.aload_n 0, 1) := by decide +kernel
theorem dX3_shareOf_53 : decode cX3_shareOf 53 = .ok (.getfield 33, 3) := by decide +kernel
theorem dX3_shareOf_56 : decode cX3_shareOf 56 = .ok (.iload 7, 2) := by decide +kernel
theorem dX3_shareOf_58 : decode cX3_shareOf 58 = .ok (.iaload, 1) := by decide +kernel
theorem dX3_shareOf_59 : decode cX3_shareOf 59 = .ok (.aload_n 0, 1) := by decide +kernel
theorem dX3_shareOf_60 : decode cX3_shareOf 60 = .ok (.getfield 33, 3) := by decide +kernel
theorem dX3_shareOf_63 : decode cX3_shareOf 63 = .ok (.iload 6, 2) := by decide +kernel
theorem dX3_shareOf_65 : decode cX3_shareOf 65 = .ok (.iaload, 1) := by decide +kernel
theorem dX3_shareOf_66 : decode cX3_shareOf 66 = .ok (.if_icmp .le 7, 3) := by decide +kernel
theorem dX3_shareOf_69 : decode cX3_shareOf 69 = .ok (.iload 7, 2) := by decide +kernel
theorem dX3_shareOf_71 : decode cX3_shareOf 71 = .ok (.istore 6, 2) := by decide +kernel
theorem dX3_shareOf_73 : decode cX3_shareOf 73 = .ok (.iinc 7 1, 3) := by decide +kernel
theorem dX3_shareOf_76 : decode cX3_shareOf 76 = .ok (.goto (-49), 3) := by decide +kernel
theorem dX3_shareOf_79 : decode cX3_shareOf 79 = .ok (.iload 4, 2) := by decide +kernel
theorem dX3_shareOf_81 : decode cX3_shareOf 81 = .ok (.aload_n 0, 1) := by decide +kernel
theorem dX3_shareOf_82 : decode cX3_shareOf 82 = .ok (.getfield 33, 3) := by decide +kernel
theorem dX3_shareOf_85 : decode cX3_shareOf 85 = .ok (.iload_n 1, 1) := by decide +kernel
theorem dX3_shareOf_86 : decode cX3_shareOf 86 = .ok (.iaload, 1) := by decide +kernel
theorem dX3_shareOf_87 : decode cX3_shareOf 87 = .ok (.imul, 1) := by decide +kernel
theorem dX3_shareOf_88 : decode cX3_shareOf 88 = .ok (.bipush 60, 2) := by decide +kernel
theorem dX3_shareOf_90 : decode cX3_shareOf 90 = .ok (.idiv, 1) := by decide +kernel
theorem dX3_shareOf_91 : decode cX3_shareOf 91 = .ok (.iload_n 1, 1) := by decide +kernel
theorem dX3_shareOf_92 : decode cX3_shareOf 92 = .ok (.iload 6, 2) := by decide +kernel
theorem dX3_shareOf_94 : decode cX3_shareOf 94 = .ok (.if_icmp .ne 8, 3) := by decide +kernel
theorem dX3_shareOf_97 : decode cX3_shareOf 97 = .ok (.iload 5, 2) := by decide +kernel
theorem dX3_shareOf_99 : decode cX3_shareOf 99 = .ok (.goto 4, 3) := by decide +kernel
theorem dX3_shareOf_102 : decode cX3_shareOf 102 = .ok (.iconst 0, 1) := by decide +kernel
theorem dX3_shareOf_103 : decode cX3_shareOf 103 = .ok (.iadd, 1) := by decide +kernel
theorem dX3_shareOf_104 : decode cX3_shareOf 104 = .ok (.ireturn, 1) := by decide +kernel
theorem dX3_debtOf_0 : decode cX3_debtOf 0 = .ok (.aload_n 0, 1) := by decide +kernel
theorem dX3_debtOf_1 : decode cX3_debtOf 1 = .ok (.getfield 36, 3) := by decide +kernel
theorem dX3_debtOf_4 : decode cX3_debtOf 4 = .ok (.iload_n 2, 1) := by decide +kernel
theorem dX3_debtOf_5 : decode cX3_debtOf 5 = .ok (.invokevirtual 103, 3) := by decide +kernel
theorem dX3_debtOf_8 : decode cX3_debtOf 8 = .ok (.iconst 0, 1) := by decide +kernel
theorem dX3_debtOf_9 : decode cX3_debtOf 9 = .ok (.istore_n 3, 1) := by decide +kernel
theorem dX3_debtOf_10 : decode cX3_debtOf 10 = .ok (.iconst 0, 1) := by decide +kernel
theorem dX3_debtOf_11 : decode cX3_debtOf 11 = .ok (.istore 4, 2) := by decide +kernel
theorem dX3_debtOf_13 : decode cX3_debtOf 13 = .ok (.iload 4, 2) := by decide +kernel
theorem dX3_debtOf_15 : decode cX3_debtOf 15 = .ok (.iload_n 2, 1) := by decide +kernel
theorem dX3_debtOf_16 : decode cX3_debtOf 16 = .ok (.if_icmp .gt 46, 3) := by decide +kernel
theorem dX3_debtOf_19 : decode cX3_debtOf 19 = .ok (.aload_n 0, 1) := by decide +kernel
theorem dX3_debtOf_20 : decode cX3_debtOf 20 = .ok (.getfield 11, 3) := by decide +kernel
theorem dX3_debtOf_23 : decode cX3_debtOf 23 = .ok (.iload_n 1, 1) := by decide +kernel
theorem dX3_debtOf_24 : decode cX3_debtOf 24 = .ok (.aaload, 1) := by decide +kernel
theorem dX3_debtOf_25 : decode cX3_debtOf 25 = .ok (.iload 4, 2) := by decide +kernel
theorem dX3_debtOf_27 : decode cX3_debtOf 27 = .ok (.iload_n 2, 1) := by decide +kernel
theorem dX3_debtOf_28 : decode cX3_debtOf 28 = .ok (.invokevirtual 128, 3) := by decide +kernel
theorem dX3_debtOf_31 : decode cX3_debtOf 31 = .ok (.ifCond .eq 25, 3) := by decide +kernel
theorem dX3_debtOf_34 : decode cX3_debtOf 34 = .ok (.aload_n 0, 1) := by decide +kernel
theorem dX3_debtOf_35 : decode cX3_debtOf 35 = .ok (.iload_n 1, 1) := by decide +kernel
theorem dX3_debtOf_36 : decode cX3_debtOf 36 = .ok (.iload 4, 2) := by decide +kernel
theorem dX3_debtOf_38 : decode cX3_debtOf 38 = .ok (.invokevirtual 122, 3) := by decide +kernel
theorem dX3_debtOf_41 : decode cX3_debtOf 41 = .ok (.ifCond .ne 15, 3) := by decide +kernel
theorem dX3_debtOf_44 : decode cX3_debtOf 44 = .ok (.iload_n 3, 1) := by decide +kernel
theorem dX3_debtOf_45 : decode cX3_debtOf 45 = .ok (.aload_n 0, 1) := by decide +kernel
theorem dX3_debtOf_46 : decode cX3_debtOf 46 = .ok (.getfield 11, 3) := by decide +kernel
theorem dX3_debtOf_49 : decode cX3_debtOf 49 = .ok (.iload_n 1, 1) := by decide +kernel
theorem dX3_debtOf_50 : decode cX3_debtOf 50 = .ok (.aaload, 1) := by decide +kernel
theorem dX3_debtOf_51 : decode cX3_debtOf 51 = .ok (.getfield 71, 3) := by decide +kernel
theorem dX3_debtOf_54 : decode cX3_debtOf 54 = .ok (.iadd, 1) := by decide +kernel
theorem dX3_debtOf_55 : decode cX3_debtOf 55 = .ok (.istore_n 3, 1) := by decide +kernel
theorem dX3_debtOf_56 : decode cX3_debtOf 56 = .ok (.iinc 4 1, 3) := by decide +kernel
theorem dX3_debtOf_59 : decode cX3_debtOf 59 = .ok (.goto (-46), 3) := by decide +kernel
theorem dX3_debtOf_62 : decode cX3_debtOf 62 = .ok (.iload_n 3, 1) := by decide +kernel
theorem dX3_debtOf_63 : decode cX3_debtOf 63 = .ok (.ireturn, 1) := by decide +kernel
theorem dX3_debts_0 : decode cX3_debts 0 = .ok (.iconst 0, 1) := by decide +kernel
theorem dX3_debts_1 : decode cX3_debts 1 = .ok (.istore_n 2, 1) := by decide +kernel
theorem dX3_debts_2 : decode cX3_debts 2 = .ok (.iconst 0, 1) := by decide +kernel
theorem dX3_debts_3 : decode cX3_debts 3 = .ok (.istore_n 3, 1) := by decide +kernel
theorem dX3_debts_4 : decode cX3_debts 4 = .ok (.iload_n 3, 1) := by decide +kernel
theorem dX3_debts_5 : decode cX3_debts 5 = .ok (.aload_n 0, 1) := by decide +kernel
theorem dX3_debts_6 : decode cX3_debts 6 = .ok (.getfield 40, 3) := by decide +kernel
theorem dX3_debts_9 : decode cX3_debts 9 = .ok (.if_icmp .ge 18, 3) := by decide +kernel
theorem dX3_debts_12 : decode cX3_debts 12 = .ok (.iload_n 2, 1) := by decide +kernel
theorem dX3_debts_13 : decode cX3_debts 13 = .ok (.aload_n 0, 1) := by decide +kernel
theorem dX3_debts_14 : decode cX3_debts 14 = .ok (.iload_n 3, 1) := by decide +kernel
theorem dX3_debts_15 : decode cX3_debts 15 = .ok (.iload_n 1, 1) := by decide +kernel
theorem dX3_debts_16 : decode cX3_debts 16 = .ok (.invokevirtual 135, 3) := by decide +kernel
theorem dX3_debts_19 : decode cX3_debts 19 = .ok (.iadd, 1) := by decide +kernel
theorem dX3_debts_20 : decode cX3_debts 20 = .ok (.istore_n 2, 1) := by decide +kernel
theorem dX3_debts_21 : decode cX3_debts 21 = .ok (.iinc 3 1, 3) := by decide +kernel
theorem dX3_debts_24 : decode cX3_debts 24 = .ok (.goto (-20), 3) := by decide +kernel
theorem dX3_debts_27 : decode cX3_debts 27 = .ok (.iload_n 2, 1) := by decide +kernel
theorem dX3_debts_28 : decode cX3_debts 28 = .ok (.ireturn, 1) := by decide +kernel
theorem dX3_payments_0 : decode cX3_payments 0 = .ok (.iconst 0, 1) := by decide +kernel
theorem dX3_payments_1 : decode cX3_payments 1 = .ok (.istore_n 2, 1) := by decide +kernel
theorem dX3_payments_2 : decode cX3_payments 2 = .ok (.iconst 0, 1) := by decide +kernel
theorem dX3_payments_3 : decode cX3_payments 3 = .ok (.istore_n 3, 1) := by decide +kernel
theorem dX3_payments_4 : decode cX3_payments 4 = .ok (.iload_n 3, 1) := by decide +kernel
theorem dX3_payments_5 : decode cX3_payments 5 = .ok (.aload_n 0, 1) := by decide +kernel
theorem dX3_payments_6 : decode cX3_payments 6 = .ok (.getfield 40, 3) := by decide +kernel
theorem dX3_payments_9 : decode cX3_payments 9 = .ok (.if_icmp .ge 55, 3) := by decide +kernel
theorem dX3_payments_12 : decode cX3_payments 12 = .ok (.iconst 0, 1) := by decide +kernel
theorem dX3_payments_13 : decode cX3_payments 13 = .ok (.istore 4, 2) := by decide +kernel
theorem dX3_payments_15 : decode cX3_payments 15 = .ok (.iload 4, 2) := by decide +kernel
theorem dX3_payments_17 : decode cX3_payments 17 = .ok (.iload_n 1, 1) := by decide +kernel
theorem dX3_payments_18 : decode cX3_payments 18 = .ok (.if_icmp .gt 40, 3) := by decide +kernel
theorem dX3_payments_21 : decode cX3_payments 21 = .ok (.iload_n 2, 1) := by decide +kernel
theorem dX3_payments_22 : decode cX3_payments 22 = .ok (.aload_n 0, 1) := by decide +kernel
theorem dX3_payments_23 : decode cX3_payments 23 = .ok (.getfield 11, 3) := by decide +kernel
theorem dX3_payments_26 : decode cX3_payments 26 = .ok (.iload_n 3, 1) := by decide +kernel
theorem dX3_payments_27 : decode cX3_payments 27 = .ok (.aaload, 1) := by decide +kernel
theorem dX3_payments_28 : decode cX3_payments 28 = .ok (.iload 4, 2) := by decide +kernel
theorem dX3_payments_30 : decode cX3_payments 30 = .ok (.iload_n 1, 1) := by decide +kernel
theorem dX3_payments_31 : decode cX3_payments 31 = .ok (.invokevirtual 128, 3) := by decide +kernel
theorem dX3_payments_34 : decode cX3_payments 34 = .ok (.ifCond .eq 15, 3) := by decide +kernel
theorem dX3_payments_37 : decode cX3_payments 37 = .ok (.aload_n 0, 1) := by decide +kernel
theorem dX3_payments_38 : decode cX3_payments 38 = .ok (.getfield 11, 3) := by decide +kernel
theorem dX3_payments_41 : decode cX3_payments 41 = .ok (.iload_n 3, 1) := by decide +kernel
theorem dX3_payments_42 : decode cX3_payments 42 = .ok (.aaload, 1) := by decide +kernel
theorem dX3_payments_43 : decode cX3_payments 43 = .ok (.getfield 71, 3) := by decide +kernel
theorem dX3_payments_46 : decode cX3_payments 46 = .ok (.goto 4, 3) := by decide +kernel
theorem dX3_payments_49 : decode cX3_payments 49 = .ok (.iconst 0, 1) := by decide +kernel
theorem dX3_payments_50 : decode cX3_payments 50 = .ok (.iadd, 1) := by decide +kernel
theorem dX3_payments_51 : decode cX3_payments 51 = .ok (.istore_n 2, 1) := by decide +kernel
theorem dX3_payments_52 : decode cX3_payments 52 = .ok (.iinc 4 1, 3) := by decide +kernel
theorem dX3_payments_55 : decode cX3_payments 55 = .ok (.goto (-40), 3) := by decide +kernel
theorem dX3_payments_58 : decode cX3_payments 58 = .ok (.iinc 3 1, 3) := by decide +kernel
theorem dX3_payments_61 : decode cX3_payments 61 = .ok (.goto (-57), 3) := by decide +kernel
theorem dX3_payments_64 : decode cX3_payments 64 = .ok (.iload_n 2, 1) := by decide +kernel
theorem dX3_payments_65 : decode cX3_payments 65 = .ok (.ireturn, 1) := by decide +kernel
theorem dX3_takings_0 : decode cX3_takings 0 = .ok (.iconst 0, 1) := by decide +kernel
theorem dX3_takings_1 : decode cX3_takings 1 = .ok (.istore_n 2, 1) := by decide +kernel
theorem dX3_takings_2 : decode cX3_takings 2 = .ok (.iconst 0, 1) := by decide +kernel
theorem dX3_takings_3 : decode cX3_takings 3 = .ok (.istore_n 3, 1) := by decide +kernel
theorem dX3_takings_4 : decode cX3_takings 4 = .ok (.iload_n 3, 1) := by decide +kernel
theorem dX3_takings_5 : decode cX3_takings 5 = .ok (.aload_n 0, 1) := by decide +kernel
theorem dX3_takings_6 : decode cX3_takings 6 = .ok (.getfield 40, 3) := by decide +kernel
theorem dX3_takings_9 : decode cX3_takings 9 = .ok (.if_icmp .ge 38, 3) := by decide +kernel
theorem dX3_takings_12 : decode cX3_takings 12 = .ok (.iload_n 2, 1) := by decide +kernel
theorem dX3_takings_13 : decode cX3_takings 13 = .ok (.aload_n 0, 1) := by decide +kernel
theorem dX3_takings_14 : decode cX3_takings 14 = .ok (.getfield 11, 3) := by decide +kernel
theorem dX3_takings_17 : decode cX3_takings 17 = .ok (.iload_n 3, 1) := by decide +kernel
theorem dX3_takings_18 : decode cX3_takings 18 = .ok (.aaload, 1) := by decide +kernel
theorem dX3_takings_19 : decode cX3_takings 19 = .ok (.getfield 61, 3) := by decide +kernel
theorem dX3_takings_22 : decode cX3_takings 22 = .ok (.iload_n 1, 1) := by decide +kernel
theorem dX3_takings_23 : decode cX3_takings 23 = .ok (.if_icmp .gt 15, 3) := by decide +kernel
theorem dX3_takings_26 : decode cX3_takings 26 = .ok (.aload_n 0, 1) := by decide +kernel
theorem dX3_takings_27 : decode cX3_takings 27 = .ok (.getfield 11, 3) := by decide +kernel
theorem dX3_takings_30 : decode cX3_takings 30 = .ok (.iload_n 3, 1) := by decide +kernel
theorem dX3_takings_31 : decode cX3_takings 31 = .ok (.aaload, 1) := by decide +kernel
theorem dX3_takings_32 : decode cX3_takings 32 = .ok (.getfield 138, 3) := by decide +kernel
theorem dX3_takings_35 : decode cX3_takings 35 = .ok (.goto 4, 3) := by decide +kernel
theorem dX3_takings_38 : decode cX3_takings 38 = .ok (.iconst 0, 1) := by decide +kernel
theorem dX3_takings_39 : decode cX3_takings 39 = .ok (.iadd, 1) := by decide +kernel
theorem dX3_takings_40 : decode cX3_takings 40 = .ok (.istore_n 2, 1) := by decide +kernel
theorem dX3_takings_41 : decode cX3_takings 41 = .ok (.iinc 3 1, 3) := by decide +kernel
theorem dX3_takings_44 : decode cX3_takings 44 = .ok (.goto (-40), 3) := by decide +kernel
theorem dX3_takings_47 : decode cX3_takings 47 = .ok (.iload_n 2, 1) := by decide +kernel
theorem dX3_takings_48 : decode cX3_takings 48 = .ok (.ireturn, 1) := by decide +kernel
theorem dX4_begin_0 : decode cX4_begin 0 = .ok (.aload_n 0, 1) := by decide +kernel
theorem dX4_begin_1 : decode cX4_begin 1 = .ok (.aload_n 1, 1) := by decide +kernel
theorem dX4_begin_2 : decode cX4_begin 2 = .ok (.putfield 9, 3) := by decide +kernel
theorem dX4_begin_5 : decode cX4_begin 5 = .ok (.aload_n 0, 1) := by decide +kernel
theorem dX4_begin_6 : decode cX4_begin 6 = .ok (.iconst 0, 1) := by decide +kernel
theorem dX4_begin_7 : decode cX4_begin 7 = .ok (.putfield 15, 3) := by decide +kernel
theorem dX4_begin_10 : decode cX4_begin 10 = .ok (.aload_n 0, 1) := by decide +kernel
theorem dX4_begin_11 : decode cX4_begin 11 = .ok (.iconst (-1), 1) := by decide +kernel
theorem dX4_begin_12 : decode cX4_begin 12 = .ok (.putfield 19, 3) := by decide +kernel
theorem dX4_begin_15 : decode cX4_begin 15 = .ok (.aload_n 0, 1) := by decide +kernel
theorem dX4_begin_16 : decode cX4_begin 16 = .ok (.iconst (-1), 1) := by decide +kernel
theorem dX4_begin_17 : decode cX4_begin 17 = .ok (.putfield 22, 3) := by decide +kernel
theorem dX4_begin_20 : decode cX4_begin 20 = .ok (.aload_n 0, 1) := by decide +kernel
theorem dX4_begin_21 : decode cX4_begin 21 = .ok (.iconst 0, 1) := by decide +kernel
theorem dX4_begin_22 : decode cX4_begin 22 = .ok (.putfield 25, 3) := by decide +kernel
theorem dX4_begin_25 : decode cX4_begin 25 = .ok (.aload_n 0, 1) := by decide +kernel
theorem dX4_begin_26 : decode cX4_begin 26 = .ok (.iconst (-1), 1) := by decide +kernel
theorem dX4_begin_27 : decode cX4_begin 27 = .ok (.putfield 28, 3) := by decide +kernel
theorem dX4_begin_30 : decode cX4_begin 30 = .ok (.aload_n 0, 1) := by decide +kernel
theorem dX4_begin_31 : decode cX4_begin 31 = .ok (.iconst (-1), 1) := by decide +kernel
