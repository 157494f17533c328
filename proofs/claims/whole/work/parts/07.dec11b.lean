theorem dX11_know_21 : decode cX11_know 21 = .ok (.iload_n 1, 1) := by decide +kernel
theorem dX11_know_22 : decode cX11_know 22 = .ok (.if_icmp .gt 7, 3) := by decide +kernel
theorem dX11_know_25 : decode cX11_know 25 = .ok (.iconst 1, 1) := by decide +kernel
theorem dX11_know_26 : decode cX11_know 26 = .ok (.goto 4, 3) := by decide +kernel
theorem dX11_know_29 : decode cX11_know 29 = .ok (.iconst 0, 1) := by decide +kernel
theorem dX11_know_30 : decode cX11_know 30 = .ok (.bastore, 1) := by decide +kernel
theorem dX11_know_31 : decode cX11_know 31 = .ok (.iinc 2 1, 3) := by decide +kernel
theorem dX11_know_34 : decode cX11_know 34 = .ok (.goto (-32), 3) := by decide +kernel
theorem dX11_know_37 : decode cX11_know 37 = .ok (.aload_n 0, 1) := by decide +kernel
theorem dX11_know_38 : decode cX11_know 38 = .ok (.getfield 252, 3) := by decide +kernel
theorem dX11_know_41 : decode cX11_know 41 = .ok (.iconst 1, 1) := by decide +kernel
theorem dX11_know_42 : decode cX11_know 42 = .ok (.isub, 1) := by decide +kernel
theorem dX11_know_43 : decode cX11_know 43 = .ok (.istore_n 2, 1) := by decide +kernel
theorem dX11_know_44 : decode cX11_know 44 = .ok (.iload_n 2, 1) := by decide +kernel
theorem dX11_know_45 : decode cX11_know 45 = .ok (.ifCond .lt 40, 3) := by decide +kernel
theorem dX11_know_48 : decode cX11_know 48 = .ok (.aload_n 0, 1) := by decide +kernel
theorem dX11_know_49 : decode cX11_know 49 = .ok (.getfield 40, 3) := by decide +kernel
theorem dX11_know_52 : decode cX11_know 52 = .ok (.iload_n 2, 1) := by decide +kernel
theorem dX11_know_53 : decode cX11_know 53 = .ok (.iaload, 1) := by decide +kernel
theorem dX11_know_54 : decode cX11_know 54 = .ok (.iconst 2, 1) := by decide +kernel
theorem dX11_know_55 : decode cX11_know 55 = .ok (.if_icmp .ne 24, 3) := by decide +kernel
theorem dX11_know_58 : decode cX11_know 58 = .ok (.aload_n 0, 1) := by decide +kernel
theorem dX11_know_59 : decode cX11_know 59 = .ok (.getfield 93, 3) := by decide +kernel
theorem dX11_know_62 : decode cX11_know 62 = .ok (.iload_n 2, 1) := by decide +kernel
theorem dX11_know_63 : decode cX11_know 63 = .ok (.baload, 1) := by decide +kernel
theorem dX11_know_64 : decode cX11_know 64 = .ok (.ifCond .eq 15, 3) := by decide +kernel
theorem dX11_know_67 : decode cX11_know 67 = .ok (.aload_n 0, 1) := by decide +kernel
theorem dX11_know_68 : decode cX11_know 68 = .ok (.getfield 93, 3) := by decide +kernel
theorem dX11_know_71 : decode cX11_know 71 = .ok (.aload_n 0, 1) := by decide +kernel
theorem dX11_know_72 : decode cX11_know 72 = .ok (.getfield 43, 3) := by decide +kernel
theorem dX11_know_75 : decode cX11_know 75 = .ok (.iload_n 2, 1) := by decide +kernel
theorem dX11_know_76 : decode cX11_know 76 = .ok (.iaload, 1) := by decide +kernel
theorem dX11_know_77 : decode cX11_know 77 = .ok (.iconst 0, 1) := by decide +kernel
theorem dX11_know_78 : decode cX11_know 78 = .ok (.bastore, 1) := by decide +kernel
theorem dX11_know_79 : decode cX11_know 79 = .ok (.iinc 2 (-1), 3) := by decide +kernel
theorem dX11_know_82 : decode cX11_know 82 = .ok (.goto (-38), 3) := by decide +kernel
theorem dX11_know_85 : decode cX11_know 85 = .ok (.iconst 0, 1) := by decide +kernel
theorem dX11_know_86 : decode cX11_know 86 = .ok (.istore_n 2, 1) := by decide +kernel
theorem dX11_know_87 : decode cX11_know 87 = .ok (.iload_n 2, 1) := by decide +kernel
theorem dX11_know_88 : decode cX11_know 88 = .ok (.bipush 12, 2) := by decide +kernel
theorem dX11_know_90 : decode cX11_know 90 = .ok (.if_icmp .ge 16, 3) := by decide +kernel
theorem dX11_know_93 : decode cX11_know 93 = .ok (.aload_n 0, 1) := by decide +kernel
theorem dX11_know_94 : decode cX11_know 94 = .ok (.getfield 96, 3) := by decide +kernel
theorem dX11_know_97 : decode cX11_know 97 = .ok (.iload_n 2, 1) := by decide +kernel
theorem dX11_know_98 : decode cX11_know 98 = .ok (.iconst (-1), 1) := by decide +kernel
theorem dX11_know_99 : decode cX11_know 99 = .ok (.iastore, 1) := by decide +kernel
theorem dX11_know_100 : decode cX11_know 100 = .ok (.iinc 2 1, 3) := by decide +kernel
theorem dX11_know_103 : decode cX11_know 103 = .ok (.goto (-16), 3) := by decide +kernel
theorem dX11_know_106 : decode cX11_know 106 = .ok (.iconst 0, 1) := by decide +kernel
theorem dX11_know_107 : decode cX11_know 107 = .ok (.istore_n 2, 1) := by decide +kernel
theorem dX11_know_108 : decode cX11_know 108 = .ok (.iload_n 2, 1) := by decide +kernel
theorem dX11_know_109 : decode cX11_know 109 = .ok (.aload_n 0, 1) := by decide +kernel
theorem dX11_know_110 : decode cX11_know 110 = .ok (.getfield 252, 3) := by decide +kernel
theorem dX11_know_113 : decode cX11_know 113 = .ok (.if_icmp .ge 45, 3) := by decide +kernel
theorem dX11_know_116 : decode cX11_know 116 = .ok (.aload_n 0, 1) := by decide +kernel
theorem dX11_know_117 : decode cX11_know 117 = .ok (.getfield 40, 3) := by decide +kernel
theorem dX11_know_120 : decode cX11_know 120 = .ok (.iload_n 2, 1) := by decide +kernel
theorem dX11_know_121 : decode cX11_know 121 = .ok (.iaload, 1) := by decide +kernel
theorem dX11_know_122 : decode cX11_know 122 = .ok (.iconst 1, 1) := by decide +kernel
theorem dX11_know_123 : decode cX11_know 123 = .ok (.if_icmp .ne 29, 3) := by decide +kernel
theorem dX11_know_126 : decode cX11_know 126 = .ok (.aload_n 0, 1) := by decide +kernel
theorem dX11_know_127 : decode cX11_know 127 = .ok (.getfield 93, 3) := by decide +kernel
theorem dX11_know_130 : decode cX11_know 130 = .ok (.iload_n 2, 1) := by decide +kernel
theorem dX11_know_131 : decode cX11_know 131 = .ok (.baload, 1) := by decide +kernel
theorem dX11_know_132 : decode cX11_know 132 = .ok (.ifCond .eq 20, 3) := by decide +kernel
theorem dX11_know_135 : decode cX11_know 135 = .ok (.aload_n 0, 1) := by decide +kernel
theorem dX11_know_136 : decode cX11_know 136 = .ok (.getfield 96, 3) := by decide +kernel
theorem dX11_know_139 : decode cX11_know 139 = .ok (.aload_n 0, 1) := by decide +kernel
theorem dX11_know_140 : decode cX11_know 140 = .ok (.getfield 43, 3) := by decide +kernel
theorem dX11_know_143 : decode cX11_know 143 = .ok (.iload_n 2, 1) := by decide +kernel
theorem dX11_know_144 : decode cX11_know 144 = .ok (.iaload, 1) := by decide +kernel
theorem dX11_know_145 : decode cX11_know 145 = .ok (.aload_n 0, 1) := by decide +kernel
theorem dX11_know_146 : decode cX11_know 146 = .ok (.getfield 46, 3) := by decide +kernel
theorem dX11_know_149 : decode cX11_know 149 = .ok (.iload_n 2, 1) := by decide +kernel
theorem dX11_know_150 : decode cX11_know 150 = .ok (.iaload, 1) := by decide +kernel
theorem dX11_know_151 : decode cX11_know 151 = .ok (.iastore, 1) := by decide +kernel
theorem dX11_know_152 : decode cX11_know 152 = .ok (.iinc 2 1, 3) := by decide +kernel
theorem dX11_know_155 : decode cX11_know 155 = .ok (.goto (-47), 3) := by decide +kernel
theorem dX11_know_158 : decode cX11_know 158 = .ok (.return_, 1) := by decide +kernel
theorem dX11_isFalse_0 : decode cX11_isFalse 0 = .ok (.aload_n 0, 1) := by decide +kernel
theorem dX11_isFalse_1 : decode cX11_isFalse 1 = .ok (.getfield 43, 3) := by decide +kernel
theorem dX11_isFalse_4 : decode cX11_isFalse 4 = .ok (.iload_n 1, 1) := by decide +kernel
theorem dX11_isFalse_5 : decode cX11_isFalse 5 = .ok (.iaload, 1) := by decide +kernel
theorem dX11_isFalse_6 : decode cX11_isFalse 6 = .ok (.istore_n 2, 1) := by decide +kernel
theorem dX11_isFalse_7 : decode cX11_isFalse 7 = .ok (.aload_n 0, 1) := by decide +kernel
theorem dX11_isFalse_8 : decode cX11_isFalse 8 = .ok (.getfield 46, 3) := by decide +kernel
theorem dX11_isFalse_11 : decode cX11_isFalse 11 = .ok (.iload_n 1, 1) := by decide +kernel
theorem dX11_isFalse_12 : decode cX11_isFalse 12 = .ok (.iaload, 1) := by decide +kernel
theorem dX11_isFalse_13 : decode cX11_isFalse 13 = .ok (.aload_n 0, 1) := by decide +kernel
theorem dX11_isFalse_14 : decode cX11_isFalse 14 = .ok (.getfield 13, 3) := by decide +kernel
theorem dX11_isFalse_17 : decode cX11_isFalse 17 = .ok (.iload_n 2, 1) := by decide +kernel
theorem dX11_isFalse_18 : decode cX11_isFalse 18 = .ok (.iaload, 1) := by decide +kernel
theorem dX11_isFalse_19 : decode cX11_isFalse 19 = .ok (.if_icmp .lt 28, 3) := by decide +kernel
theorem dX11_isFalse_22 : decode cX11_isFalse 22 = .ok (.aload_n 0, 1) := by decide +kernel
theorem dX11_isFalse_23 : decode cX11_isFalse 23 = .ok (.getfield 96, 3) := by decide +kernel
theorem dX11_isFalse_26 : decode cX11_isFalse 26 = .ok (.iload_n 2, 1) := by decide +kernel
theorem dX11_isFalse_27 : decode cX11_isFalse 27 = .ok (.iaload, 1) := by decide +kernel
theorem dX11_isFalse_28 : decode cX11_isFalse 28 = .ok (.iconst (-1), 1) := by decide +kernel
theorem dX11_isFalse_29 : decode cX11_isFalse 29 = .ok (.if_icmp .eq 22, 3) := by decide +kernel
theorem dX11_isFalse_32 : decode cX11_isFalse 32 = .ok (.aload_n 0, 1) := by decide +kernel
theorem dX11_isFalse_33 : decode cX11_isFalse 33 = .ok (.getfield 46, 3) := by decide +kernel
theorem dX11_isFalse_36 : decode cX11_isFalse 36 = .ok (.iload_n 1, 1) := by decide +kernel
theorem dX11_isFalse_37 : decode cX11_isFalse 37 = .ok (.iaload, 1) := by decide +kernel
theorem dX11_isFalse_38 : decode cX11_isFalse 38 = .ok (.aload_n 0, 1) := by decide +kernel
theorem dX11_isFalse_39 : decode cX11_isFalse 39 = .ok (.getfield 96, 3) := by decide +kernel
theorem dX11_isFalse_42 : decode cX11_isFalse 42 = .ok (.iload_n 2, 1) := by decide +kernel
theorem dX11_isFalse_43 : decode cX11_isFalse 43 = .ok (.iaload, 1) := by decide +kernel
theorem dX11_isFalse_44 : decode cX11_isFalse 44 = .ok (.if_icmp .le 7, 3) := by decide +kernel
theorem dX11_isFalse_47 : decode cX11_isFalse 47 = .ok (.iconst 1, 1) := by decide +kernel
theorem dX11_isFalse_48 : decode cX11_isFalse 48 = .ok (.goto 4, 3) := by decide +kernel
theorem dX11_isFalse_51 : decode cX11_isFalse 51 = .ok (.iconst 0, 1) := by decide +kernel
theorem dX11_isFalse_52 : decode cX11_isFalse 52 = .ok (.ireturn, 1) := by decide +kernel
theorem dX11_dead_0 : decode cX11_dead 0 = .ok (.aload_n 0, 1) := by decide +kernel
theorem dX11_dead_1 : decode cX11_dead 1 = .ok (.iconst 0, 1) := by decide +kernel
theorem dX11_dead_2 : decode cX11_dead 2 = .ok (.putfield 129, 3) := by decide +kernel
theorem dX11_dead_5 : decode cX11_dead 5 = .ok (.aload_n 0, 1) := by decide +kernel
theorem dX11_dead_6 : decode cX11_dead 6 = .ok (.iload_n 1, 1) := by decide +kernel
theorem dX11_dead_7 : decode cX11_dead 7 = .ok (.invokevirtual 221, 3) := by decide +kernel
theorem dX11_dead_10 : decode cX11_dead 10 = .ok (.ifCond .eq 10, 3) := by decide +kernel
theorem dX11_dead_13 : decode cX11_dead 13 = .ok (.iload_n 2, 1) := by decide +kernel
theorem dX11_dead_14 : decode cX11_dead 14 = .ok (.invokestatic 249, 3) := by decide +kernel
theorem dX11_dead_17 : decode cX11_dead 17 = .ok (.ifCond .ne 6, 3) := by decide +kernel
theorem dX11_dead_20 : decode cX11_dead 20 = .ok (.bipush (-2), 2) := by decide +kernel
theorem dX11_dead_22 : decode cX11_dead 22 = .ok (.ireturn, 1) := by decide +kernel
theorem dX11_dead_23 : decode cX11_dead 23 = .ok (.aload_n 0, 1) := by decide +kernel
theorem dX11_dead_24 : decode cX11_dead 24 = .ok (.iload_n 2, 1) := by decide +kernel
theorem dX11_dead_25 : decode cX11_dead 25 = .ok (.invokevirtual 257, 3) := by decide +kernel
theorem dX11_dead_28 : decode cX11_dead 28 = .ok (.aload_n 0, 1) := by decide +kernel
theorem dX11_dead_29 : decode cX11_dead 29 = .ok (.getfield 96, 3) := by decide +kernel
theorem dX11_dead_32 : decode cX11_dead 32 = .ok (.iload_n 1, 1) := by decide +kernel
theorem dX11_dead_33 : decode cX11_dead 33 = .ok (.iaload, 1) := by decide +kernel
theorem dX11_dead_34 : decode cX11_dead 34 = .ok (.ireturn, 1) := by decide +kernel
theorem dX11_holds_0 : decode cX11_holds 0 = .ok (.aload_n 0, 1) := by decide +kernel
theorem dX11_holds_1 : decode cX11_holds 1 = .ok (.iconst 0, 1) := by decide +kernel
theorem dX11_holds_2 : decode cX11_holds 2 = .ok (.putfield 129, 3) := by decide +kernel
theorem dX11_holds_5 : decode cX11_holds 5 = .ok (.iload_n 1, 1) := by decide +kernel
theorem dX11_holds_6 : decode cX11_holds 6 = .ok (.ifCond .lt 18, 3) := by decide +kernel
theorem dX11_holds_9 : decode cX11_holds 9 = .ok (.iload_n 1, 1) := by decide +kernel
theorem dX11_holds_10 : decode cX11_holds 10 = .ok (.aload_n 0, 1) := by decide +kernel
theorem dX11_holds_11 : decode cX11_holds 11 = .ok (.getfield 252, 3) := by decide +kernel
theorem dX11_holds_14 : decode cX11_holds 14 = .ok (.if_icmp .ge 10, 3) := by decide +kernel
theorem dX11_holds_17 : decode cX11_holds 17 = .ok (.iload_n 2, 1) := by decide +kernel
theorem dX11_holds_18 : decode cX11_holds 18 = .ok (.invokestatic 249, 3) := by decide +kernel
theorem dX11_holds_21 : decode cX11_holds 21 = .ok (.ifCond .ne 5, 3) := by decide +kernel
theorem dX11_holds_24 : decode cX11_holds 24 = .ok (.iconst (-1), 1) := by decide +kernel
theorem dX11_holds_25 : decode cX11_holds 25 = .ok (.ireturn, 1) := by decide +kernel
theorem dX11_holds_26 : decode cX11_holds 26 = .ok (.aload_n 0, 1) := by decide +kernel
theorem dX11_holds_27 : decode cX11_holds 27 = .ok (.iload_n 2, 1) := by decide +kernel
theorem dX11_holds_28 : decode cX11_holds 28 = .ok (.invokevirtual 257, 3) := by decide +kernel
theorem dX11_holds_31 : decode cX11_holds 31 = .ok (.aload_n 0, 1) := by decide +kernel
theorem dX11_holds_32 : decode cX11_holds 32 = .ok (.getfield 93, 3) := by decide +kernel
theorem dX11_holds_35 : decode cX11_holds 35 = .ok (.iload_n 1, 1) := by decide +kernel
theorem dX11_holds_36 : decode cX11_holds 36 = .ok (.baload, 1) := by decide +kernel
theorem dX11_holds_37 : decode cX11_holds 37 = .ok (.ifCond .ne 7, 3) := by decide +kernel
theorem dX11_holds_40 : decode cX11_holds 40 = .ok (.iconst 0, 1) := by decide +kernel
theorem dX11_holds_41 : decode cX11_holds 41 = .ok (.goto 25, 3) := by decide +kernel
theorem dX11_holds_44 : decode cX11_holds 44 = .ok (.aload_n 0, 1) := by decide +kernel
theorem dX11_holds_45 : decode cX11_holds 45 = .ok (.getfield 40, 3) := by decide +kernel
theorem dX11_holds_48 : decode cX11_holds 48 = .ok (.iload_n 1, 1) := by decide +kernel
theorem dX11_holds_49 : decode cX11_holds 49 = .ok (.iaload, 1) := by decide +kernel
theorem dX11_holds_50 : decode cX11_holds 50 = .ok (.ifCond .ne 15, 3) := by decide +kernel
theorem dX11_holds_53 : decode cX11_holds 53 = .ok (.aload_n 0, 1) := by decide +kernel
theorem dX11_holds_54 : decode cX11_holds 54 = .ok (.iload_n 1, 1) := by decide +kernel
theorem dX11_holds_55 : decode cX11_holds 55 = .ok (.invokevirtual 261, 3) := by decide +kernel
theorem dX11_holds_58 : decode cX11_holds 58 = .ok (.ifCond .eq 7, 3) := by decide +kernel
theorem dX11_holds_61 : decode cX11_holds 61 = .ok (.iconst 2, 1) := by decide +kernel
theorem dX11_holds_62 : decode cX11_holds 62 = .ok (.goto 4, 3) := by decide +kernel
theorem dX11_holds_65 : decode cX11_holds 65 = .ok (.iconst 1, 1) := by decide +kernel
theorem dX11_holds_66 : decode cX11_holds 66 = .ok (.ireturn, 1) := by decide +kernel
theorem dX11_lives_0 : decode cX11_lives 0 = .ok (.iload_n 1, 1) := by decide +kernel
theorem dX11_lives_1 : decode cX11_lives 1 = .ok (.iconst (-1), 1) := by decide +kernel
theorem dX11_lives_2 : decode cX11_lives 2 = .ok (.if_icmp .eq 27, 3) := by decide +kernel
theorem dX11_lives_5 : decode cX11_lives 5 = .ok (.aload_n 0, 1) := by decide +kernel
theorem dX11_lives_6 : decode cX11_lives 6 = .ok (.getfield 96, 3) := by decide +kernel
theorem dX11_lives_9 : decode cX11_lives 9 = .ok (.iload_n 1, 1) := by decide +kernel
theorem dX11_lives_10 : decode cX11_lives 10 = .ok (.iaload, 1) := by decide +kernel
theorem dX11_lives_11 : decode cX11_lives 11 = .ok (.iconst (-1), 1) := by decide +kernel
theorem dX11_lives_12 : decode cX11_lives 12 = .ok (.if_icmp .eq 13, 3) := by decide +kernel
theorem dX11_lives_15 : decode cX11_lives 15 = .ok (.aload_n 0, 1) := by decide +kernel
theorem dX11_lives_16 : decode cX11_lives 16 = .ok (.getfield 96, 3) := by decide +kernel
theorem dX11_lives_19 : decode cX11_lives 19 = .ok (.iload_n 1, 1) := by decide +kernel
theorem dX11_lives_20 : decode cX11_lives 20 = .ok (.iaload, 1) := by decide +kernel
theorem dX11_lives_21 : decode cX11_lives 21 = .ok (.iload_n 2, 1) := by decide +kernel
theorem dX11_lives_22 : decode cX11_lives 22 = .ok (.if_icmp .lt 7, 3) := by decide +kernel
theorem dX11_lives_25 : decode cX11_lives 25 = .ok (.iconst 1, 1) := by decide +kernel
theorem dX11_lives_26 : decode cX11_lives 26 = .ok (.goto 4, 3) := by decide +kernel
theorem dX11_lives_29 : decode cX11_lives 29 = .ok (.iconst 0, 1) := by decide +kernel
theorem dX11_lives_30 : decode cX11_lives 30 = .ok (.ireturn, 1) := by decide +kernel
theorem dX11_isDue_0 : decode cX11_isDue 0 = .ok (.iload_n 2, 1) := by decide +kernel
theorem dX11_isDue_1 : decode cX11_isDue 1 = .ok (.aload_n 0, 1) := by decide +kernel
theorem dX11_isDue_2 : decode cX11_isDue 2 = .ok (.getfield 19, 3) := by decide +kernel
theorem dX11_isDue_5 : decode cX11_isDue 5 = .ok (.iload_n 1, 1) := by decide +kernel
theorem dX11_isDue_6 : decode cX11_isDue 6 = .ok (.iaload, 1) := by decide +kernel
theorem dX11_isDue_7 : decode cX11_isDue 7 = .ok (.if_icmp .le 35, 3) := by decide +kernel
theorem dX11_isDue_10 : decode cX11_isDue 10 = .ok (.aload_n 0, 1) := by decide +kernel
theorem dX11_isDue_11 : decode cX11_isDue 11 = .ok (.aload_n 0, 1) := by decide +kernel
theorem dX11_isDue_12 : decode cX11_isDue 12 = .ok (.getfield 25, 3) := by decide +kernel
theorem dX11_isDue_15 : decode cX11_isDue 15 = .ok (.iload_n 1, 1) := by decide +kernel
theorem dX11_isDue_16 : decode cX11_isDue 16 = .ok (.iaload, 1) := by decide +kernel
theorem dX11_isDue_17 : decode cX11_isDue 17 = .ok (.iload_n 2, 1) := by decide +kernel
theorem dX11_isDue_18 : decode cX11_isDue 18 = .ok (.invokevirtual 264, 3) := by decide +kernel
theorem dX11_isDue_21 : decode cX11_isDue 21 = .ok (.ifCond .ne 17, 3) := by decide +kernel
theorem dX11_isDue_24 : decode cX11_isDue 24 = .ok (.aload_n 0, 1) := by decide +kernel
theorem dX11_isDue_25 : decode cX11_isDue 25 = .ok (.aload_n 0, 1) := by decide +kernel
theorem dX11_isDue_26 : decode cX11_isDue 26 = .ok (.getfield 28, 3) := by decide +kernel
theorem dX11_isDue_29 : decode cX11_isDue 29 = .ok (.iload_n 1, 1) := by decide +kernel
theorem dX11_isDue_30 : decode cX11_isDue 30 = .ok (.iaload, 1) := by decide +kernel
theorem dX11_isDue_31 : decode cX11_isDue 31 = .ok (.iload_n 2, 1) := by decide +kernel
theorem dX11_isDue_32 : decode cX11_isDue 32 = .ok (.invokevirtual 264, 3) := by decide +kernel
theorem dX11_isDue_35 : decode cX11_isDue 35 = .ok (.ifCond .eq 7, 3) := by decide +kernel
theorem dX11_isDue_38 : decode cX11_isDue 38 = .ok (.iconst 1, 1) := by decide +kernel
theorem dX11_isDue_39 : decode cX11_isDue 39 = .ok (.goto 4, 3) := by decide +kernel
theorem dX11_isDue_42 : decode cX11_isDue 42 = .ok (.iconst 0, 1) := by decide +kernel
theorem dX11_isDue_43 : decode cX11_isDue 43 = .ok (.ireturn, 1) := by decide +kernel
theorem dX11_isProved_0 : decode cX11_isProved 0 = .ok (.iconst 0, 1) := by decide +kernel
theorem dX11_isProved_1 : decode cX11_isProved 1 = .ok (.istore_n 3, 1) := by decide +kernel
theorem dX11_isProved_2 : decode cX11_isProved 2 = .ok (.iload_n 3, 1) := by decide +kernel
theorem dX11_isProved_3 : decode cX11_isProved 3 = .ok (.aload_n 0, 1) := by decide +kernel
theorem dX11_isProved_4 : decode cX11_isProved 4 = .ok (.getfield 252, 3) := by decide +kernel
theorem dX11_isProved_7 : decode cX11_isProved 7 = .ok (.if_icmp .ge 100, 3) := by decide +kernel
theorem dX11_isProved_10 : decode cX11_isProved 10 = .ok (.aload_n 0, 1) := by decide +kernel
theorem dX11_isProved_11 : decode cX11_isProved 11 = .ok (.getfield 40, 3) := by decide +kernel
theorem dX11_isProved_14 : decode cX11_isProved 14 = .ok (.iload_n 3, 1) := by decide +kernel
theorem dX11_isProved_15 : decode cX11_isProved 15 = .ok (.iaload, 1) := by decide +kernel
theorem dX11_isProved_16 : decode cX11_isProved 16 = .ok (.ifCond .ne 46, 3) := by decide +kernel
theorem dX11_isProved_19 : decode cX11_isProved 19 = .ok (.aload_n 0, 1) := by decide +kernel
theorem dX11_isProved_20 : decode cX11_isProved 20 = .ok (.getfield 93, 3) := by decide +kernel
theorem dX11_isProved_23 : decode cX11_isProved 23 = .ok (.iload_n 3, 1) := by decide +kernel
theorem dX11_isProved_24 : decode cX11_isProved 24 = .ok (.baload, 1) := by decide +kernel
theorem dX11_isProved_25 : decode cX11_isProved 25 = .ok (.ifCond .eq 37, 3) := by decide +kernel
theorem dX11_isProved_28 : decode cX11_isProved 28 = .ok (.aload_n 0, 1) := by decide +kernel
theorem dX11_isProved_29 : decode cX11_isProved 29 = .ok (.getfield 43, 3) := by decide +kernel
theorem dX11_isProved_32 : decode cX11_isProved 32 = .ok (.iload_n 3, 1) := by decide +kernel
theorem dX11_isProved_33 : decode cX11_isProved 33 = .ok (.iaload, 1) := by decide +kernel
theorem dX11_isProved_34 : decode cX11_isProved 34 = .ok (.aload_n 0, 1) := by decide +kernel
theorem dX11_isProved_35 : decode cX11_isProved 35 = .ok (.getfield 25, 3) := by decide +kernel
theorem dX11_isProved_38 : decode cX11_isProved 38 = .ok (.iload_n 1, 1) := by decide +kernel
theorem dX11_isProved_39 : decode cX11_isProved 39 = .ok (.iaload, 1) := by decide +kernel
theorem dX11_isProved_40 : decode cX11_isProved 40 = .ok (.if_icmp .eq 18, 3) := by decide +kernel
theorem dX11_isProved_43 : decode cX11_isProved 43 = .ok (.aload_n 0, 1) := by decide +kernel
theorem dX11_isProved_44 : decode cX11_isProved 44 = .ok (.getfield 43, 3) := by decide +kernel
theorem dX11_isProved_47 : decode cX11_isProved 47 = .ok (.iload_n 3, 1) := by decide +kernel
theorem dX11_isProved_48 : decode cX11_isProved 48 = .ok (.iaload, 1) := by decide +kernel
theorem dX11_isProved_49 : decode cX11_isProved 49 = .ok (.aload_n 0, 1) := by decide +kernel
theorem dX11_isProved_50 : decode cX11_isProved 50 = .ok (.getfield 28, 3) := by decide +kernel
theorem dX11_isProved_53 : decode cX11_isProved 53 = .ok (.iload_n 1, 1) := by decide +kernel
theorem dX11_isProved_54 : decode cX11_isProved 54 = .ok (.iaload, 1) := by decide +kernel
theorem dX11_isProved_55 : decode cX11_isProved 55 = .ok (.if_icmp .ne 7, 3) := by decide +kernel
theorem dX11_isProved_58 : decode cX11_isProved 58 = .ok (.iconst 1, 1) := by decide +kernel
theorem dX11_isProved_59 : decode cX11_isProved 59 = .ok (.goto 4, 3) := by decide +kernel
theorem dX11_isProved_62 : decode cX11_isProved 62 = .ok (.iconst 0, 1) := by decide +kernel
theorem dX11_isProved_63 : decode cX11_isProved 63 = .ok (.istore 4, 2) := by decide +kernel
theorem dX11_isProved_65 : decode cX11_isProved 65 = .ok (.iload 4, 2) := by decide +kernel
theorem dX11_isProved_67 : decode cX11_isProved 67 = .ok (.ifCond .eq 34, 3) := by decide +kernel
theorem dX11_isProved_70 : decode cX11_isProved 70 = .ok (.aload_n 0, 1) := by decide +kernel
theorem dX11_isProved_71 : decode cX11_isProved 71 = .ok (.getfield 46, 3) := by decide +kernel
theorem dX11_isProved_74 : decode cX11_isProved 74 = .ok (.iload_n 3, 1) := by decide +kernel
theorem dX11_isProved_75 : decode cX11_isProved 75 = .ok (.iaload, 1) := by decide +kernel
theorem dX11_isProved_76 : decode cX11_isProved 76 = .ok (.iload_n 2, 1) := by decide +kernel
theorem dX11_isProved_77 : decode cX11_isProved 77 = .ok (.iload_n 2, 1) := by decide +kernel
theorem dX11_isProved_78 : decode cX11_isProved 78 = .ok (.aload_n 0, 1) := by decide +kernel
theorem dX11_isProved_79 : decode cX11_isProved 79 = .ok (.getfield 86, 3) := by decide +kernel
theorem dX11_isProved_82 : decode cX11_isProved 82 = .ok (.iconst 1, 1) := by decide +kernel
theorem dX11_isProved_83 : decode cX11_isProved 83 = .ok (.iaload, 1) := by decide +kernel
theorem dX11_isProved_84 : decode cX11_isProved 84 = .ok (.iadd, 1) := by decide +kernel
theorem dX11_isProved_85 : decode cX11_isProved 85 = .ok (.invokestatic 204, 3) := by decide +kernel
theorem dX11_isProved_88 : decode cX11_isProved 88 = .ok (.ifCond .eq 13, 3) := by decide +kernel
theorem dX11_isProved_91 : decode cX11_isProved 91 = .ok (.aload_n 0, 1) := by decide +kernel
theorem dX11_isProved_92 : decode cX11_isProved 92 = .ok (.iload_n 3, 1) := by decide +kernel
theorem dX11_isProved_93 : decode cX11_isProved 93 = .ok (.invokevirtual 261, 3) := by decide +kernel
theorem dX11_isProved_96 : decode cX11_isProved 96 = .ok (.ifCond .ne 5, 3) := by decide +kernel
theorem dX11_isProved_99 : decode cX11_isProved 99 = .ok (.iconst 1, 1) := by decide +kernel
theorem dX11_isProved_100 : decode cX11_isProved 100 = .ok (.ireturn, 1) := by decide +kernel
theorem dX11_isProved_101 : decode cX11_isProved 101 = .ok (.iinc 3 1, 3) := by decide +kernel
theorem dX11_isProved_104 : decode cX11_isProved 104 = .ok (.goto (-102), 3) := by decide +kernel
theorem dX11_isProved_107 : decode cX11_isProved 107 = .ok (.iconst 0, 1) := by decide +kernel
theorem dX11_isProved_108 : decode cX11_isProved 108 = .ok (.ireturn, 1) := by decide +kernel
theorem dX11_pays_0 : decode cX11_pays 0 = .ok (.iconst 0, 1) := by decide +kernel
theorem dX11_pays_1 : decode cX11_pays 1 = .ok (.istore_n 2, 1) := by decide +kernel
theorem dX11_pays_2 : decode cX11_pays 2 = .ok (.iload_n 2, 1) := by decide +kernel
theorem dX11_pays_3 : decode cX11_pays 3 = .ok (.sipush 1280, 3) := by decide +kernel
theorem dX11_pays_6 : decode cX11_pays 6 = .ok (.if_icmp .ge 16, 3) := by decide +kernel
theorem dX11_pays_9 : decode cX11_pays 9 = .ok (.aload_n 0, 1) := by decide +kernel
theorem dX11_pays_10 : decode cX11_pays 10 = .ok (.getfield 99, 3) := by decide +kernel
theorem dX11_pays_13 : decode cX11_pays 13 = .ok (.iload_n 2, 1) := by decide +kernel
theorem dX11_pays_14 : decode cX11_pays 14 = .ok (.iconst (-1), 1) := by decide +kernel
theorem dX11_pays_15 : decode cX11_pays 15 = .ok (.iastore, 1) := by decide +kernel
theorem dX11_pays_16 : decode cX11_pays 16 = .ok (.iinc 2 1, 3) := by decide +kernel
theorem dX11_pays_19 : decode cX11_pays 19 = .ok (.goto (-17), 3) := by decide +kernel
theorem dX11_pays_22 : decode cX11_pays 22 = .ok (.iconst 0, 1) := by decide +kernel
theorem dX11_pays_23 : decode cX11_pays 23 = .ok (.istore_n 2, 1) := by decide +kernel
theorem dX11_pays_24 : decode cX11_pays 24 = .ok (.iload_n 2, 1) := by decide +kernel
theorem dX11_pays_25 : decode cX11_pays 25 = .ok (.bipush 8, 2) := by decide +kernel
theorem dX11_pays_27 : decode cX11_pays 27 = .ok (.if_icmp .ge 16, 3) := by decide +kernel
theorem dX11_pays_30 : decode cX11_pays 30 = .ok (.aload_n 0, 1) := by decide +kernel
theorem dX11_pays_31 : decode cX11_pays 31 = .ok (.getfield 102, 3) := by decide +kernel
theorem dX11_pays_34 : decode cX11_pays 34 = .ok (.iload_n 2, 1) := by decide +kernel
theorem dX11_pays_35 : decode cX11_pays 35 = .ok (.iconst 0, 1) := by decide +kernel
theorem dX11_pays_36 : decode cX11_pays 36 = .ok (.iastore, 1) := by decide +kernel
theorem dX11_pays_37 : decode cX11_pays 37 = .ok (.iinc 2 1, 3) := by decide +kernel
theorem dX11_pays_40 : decode cX11_pays 40 = .ok (.goto (-16), 3) := by decide +kernel
theorem dX11_pays_43 : decode cX11_pays 43 = .ok (.aload_n 0, 1) := by decide +kernel
theorem dX11_pays_44 : decode cX11_pays 44 = .ok (.iconst 0, 1) := by decide +kernel
theorem dX11_pays_45 : decode cX11_pays 45 = .ok (.putfield 266, 3) := by decide +kernel
theorem dX11_pays_48 : decode cX11_pays 48 = .ok (.iconst 0, 1) := by decide +kernel
theorem dX11_pays_49 : decode cX11_pays 49 = .ok (.istore_n 2, 1) := by decide +kernel
theorem dX11_pays_50 : decode cX11_pays 50 = .ok (.iload_n 2, 1) := by decide +kernel
theorem dX11_pays_51 : decode cX11_pays 51 = .ok (.iload_n 1, 1) := by decide +kernel
theorem dX11_pays_52 : decode cX11_pays 52 = .ok (.if_icmp .gt 125, 3) := by decide +kernel
theorem dX11_pays_55 : decode cX11_pays 55 = .ok (.aload_n 0, 1) := by decide +kernel
theorem dX11_pays_56 : decode cX11_pays 56 = .ok (.iload_n 2, 1) := by decide +kernel
theorem dX11_pays_57 : decode cX11_pays 57 = .ok (.invokevirtual 257, 3) := by decide +kernel
theorem dX11_pays_60 : decode cX11_pays 60 = .ok (.iconst 0, 1) := by decide +kernel
theorem dX11_pays_61 : decode cX11_pays 61 = .ok (.istore_n 3, 1) := by decide +kernel
theorem dX11_pays_62 : decode cX11_pays 62 = .ok (.iload_n 3, 1) := by decide +kernel
theorem dX11_pays_63 : decode cX11_pays 63 = .ok (.aload_n 0, 1) := by decide +kernel
theorem dX11_pays_64 : decode cX11_pays 64 = .ok (.getfield 233, 3) := by decide +kernel
theorem dX11_pays_67 : decode cX11_pays 67 = .ok (.if_icmp .ge 104, 3) := by decide +kernel
theorem dX11_pays_70 : decode cX11_pays 70 = .ok (.iload_n 2, 1) := by decide +kernel
theorem dX11_pays_71 : decode cX11_pays 71 = .ok (.aload_n 0, 1) := by decide +kernel
theorem dX11_pays_72 : decode cX11_pays 72 = .ok (.getfield 86, 3) := by decide +kernel
theorem dX11_pays_75 : decode cX11_pays 75 = .ok (.iconst 0, 1) := by decide +kernel
theorem dX11_pays_76 : decode cX11_pays 76 = .ok (.iaload, 1) := by decide +kernel
theorem dX11_pays_77 : decode cX11_pays 77 = .ok (.isub, 1) := by decide +kernel
theorem dX11_pays_78 : decode cX11_pays 78 = .ok (.ifCond .ge 7, 3) := by decide +kernel
theorem dX11_pays_81 : decode cX11_pays 81 = .ok (.iconst 0, 1) := by decide +kernel
theorem dX11_pays_82 : decode cX11_pays 82 = .ok (.goto 11, 3) := by decide +kernel
theorem dX11_pays_85 : decode cX11_pays 85 = .ok (.iload_n 2, 1) := by decide +kernel
theorem dX11_pays_86 : decode cX11_pays 86 = .ok (.aload_n 0, 1) := by decide +kernel
theorem dX11_pays_87 : decode cX11_pays 87 = .ok (.getfield 86, 3) := by decide +kernel
theorem dX11_pays_90 : decode cX11_pays 90 = .ok (.iconst 0, 1) := by decide +kernel
theorem dX11_pays_91 : decode cX11_pays 91 = .ok (.iaload, 1) := by decide +kernel
theorem dX11_pays_92 : decode cX11_pays 92 = .ok (.isub, 1) := by decide +kernel
theorem dX11_pays_93 : decode cX11_pays 93 = .ok (.istore 4, 2) := by decide +kernel
theorem dX11_pays_95 : decode cX11_pays 95 = .ok (.iload 4, 2) := by decide +kernel
theorem dX11_pays_97 : decode cX11_pays 97 = .ok (.iload_n 2, 1) := by decide +kernel
theorem dX11_pays_98 : decode cX11_pays 98 = .ok (.if_icmp .gt 67, 3) := by decide +kernel
theorem dX11_pays_101 : decode cX11_pays 101 = .ok (.aload_n 0, 1) := by decide +kernel
theorem dX11_pays_102 : decode cX11_pays 102 = .ok (.getfield 99, 3) := by decide +kernel
theorem dX11_pays_105 : decode cX11_pays 105 = .ok (.bipush 80, 2) := by decide +kernel
theorem dX11_pays_107 : decode cX11_pays 107 = .ok (.iload_n 3, 1) := by decide +kernel
theorem dX11_pays_108 : decode cX11_pays 108 = .ok (.imul, 1) := by decide +kernel
theorem dX11_pays_109 : decode cX11_pays 109 = .ok (.iload 4, 2) := by decide +kernel
theorem dX11_pays_111 : decode cX11_pays 111 = .ok (.iadd, 1) := by decide +kernel
theorem dX11_pays_112 : decode cX11_pays 112 = .ok (.iaload, 1) := by decide +kernel
theorem dX11_pays_113 : decode cX11_pays 113 = .ok (.iconst (-1), 1) := by decide +kernel
theorem dX11_pays_114 : decode cX11_pays 114 = .ok (.if_icmp .ne 45, 3) := by decide +kernel
theorem dX11_pays_117 : decode cX11_pays 117 = .ok (.aload_n 0, 1) := by decide +kernel
theorem dX11_pays_118 : decode cX11_pays 118 = .ok (.iload_n 3, 1) := by decide +kernel
theorem dX11_pays_119 : decode cX11_pays 119 = .ok (.iload 4, 2) := by decide +kernel
theorem dX11_pays_121 : decode cX11_pays 121 = .ok (.invokevirtual 269, 3) := by decide +kernel
theorem dX11_pays_124 : decode cX11_pays 124 = .ok (.ifCond .eq 35, 3) := by decide +kernel
theorem dX11_pays_127 : decode cX11_pays 127 = .ok (.aload_n 0, 1) := by decide +kernel
theorem dX11_pays_128 : decode cX11_pays 128 = .ok (.iload_n 3, 1) := by decide +kernel
theorem dX11_pays_129 : decode cX11_pays 129 = .ok (.iload 4, 2) := by decide +kernel
theorem dX11_pays_131 : decode cX11_pays 131 = .ok (.invokevirtual 272, 3) := by decide +kernel
theorem dX11_pays_134 : decode cX11_pays 134 = .ok (.ifCond .ne 6, 3) := by decide +kernel
theorem dX11_pays_137 : decode cX11_pays 137 = .ok (.goto 22, 3) := by decide +kernel
theorem dX11_pays_140 : decode cX11_pays 140 = .ok (.aload_n 0, 1) := by decide +kernel
theorem dX11_pays_141 : decode cX11_pays 141 = .ok (.getfield 99, 3) := by decide +kernel
theorem dX11_pays_144 : decode cX11_pays 144 = .ok (.bipush 80, 2) := by decide +kernel
theorem dX11_pays_146 : decode cX11_pays 146 = .ok (.iload_n 3, 1) := by decide +kernel
theorem dX11_pays_147 : decode cX11_pays 147 = .ok (.imul, 1) := by decide +kernel
theorem dX11_pays_148 : decode cX11_pays 148 = .ok (.iload 4, 2) := by decide +kernel
theorem dX11_pays_150 : decode cX11_pays 150 = .ok (.iadd, 1) := by decide +kernel
theorem dX11_pays_151 : decode cX11_pays 151 = .ok (.iload_n 2, 1) := by decide +kernel
theorem dX11_pays_152 : decode cX11_pays 152 = .ok (.iastore, 1) := by decide +kernel
theorem dX11_pays_153 : decode cX11_pays 153 = .ok (.aload_n 0, 1) := by decide +kernel
theorem dX11_pays_154 : decode cX11_pays 154 = .ok (.iload_n 3, 1) := by decide +kernel
theorem dX11_pays_155 : decode cX11_pays 155 = .ok (.iload_n 2, 1) := by decide +kernel
theorem dX11_pays_156 : decode cX11_pays 156 = .ok (.invokevirtual 275, 3) := by decide +kernel
theorem dX11_pays_159 : decode cX11_pays 159 = .ok (.iinc 4 1, 3) := by decide +kernel
theorem dX11_pays_162 : decode cX11_pays 162 = .ok (.goto (-67), 3) := by decide +kernel
theorem dX11_pays_165 : decode cX11_pays 165 = .ok (.iinc 3 1, 3) := by decide +kernel
theorem dX11_pays_168 : decode cX11_pays 168 = .ok (.goto (-106), 3) := by decide +kernel
theorem dX11_pays_171 : decode cX11_pays 171 = .ok (.iinc 2 1, 3) := by decide +kernel
theorem dX11_pays_174 : decode cX11_pays 174 = .ok (.goto (-124), 3) := by decide +kernel
theorem dX11_pays_177 : decode cX11_pays 177 = .ok (.return_, 1) := by decide +kernel
theorem dX11_shares_0 : decode cX11_shares 0 = .ok (.aload_n 0, 1) := by decide +kernel
theorem dX11_shares_1 : decode cX11_shares 1 = .ok (.getfield 31, 3) := by decide +kernel
theorem dX11_shares_4 : decode cX11_shares 4 = .ok (.iload_n 1, 1) := by decide +kernel
theorem dX11_shares_5 : decode cX11_shares 5 = .ok (.iaload, 1) := by decide +kernel
theorem dX11_shares_6 : decode cX11_shares 6 = .ok (.istore_n 3, 1) := by decide +kernel
theorem dX11_shares_7 : decode cX11_shares 7 = .ok (.iconst 0, 1) := by decide +kernel
theorem dX11_shares_8 : decode cX11_shares 8 = .ok (.istore 4, 2) := by decide +kernel
theorem dX11_shares_10 : decode cX11_shares 10 = .ok (.iconst 0, 1) := by decide +kernel
theorem dX11_shares_11 : decode cX11_shares 11 = .ok (.istore 5, 2) := by decide +kernel
theorem dX11_shares_13 : decode cX11_shares 13 = .ok (.iconst 0, 1) := by decide +kernel
theorem dX11_shares_14 : decode cX11_shares 14 = .ok (.istore 6, 2) := by decide +kernel
theorem dX11_shares_16 : decode cX11_shares 16 = .ok (.iload 6, 2) := by decide +kernel
theorem dX11_shares_18 : decode cX11_shares 18 = .ok (.bipush 8, 2) := by decide +kernel
theorem dX11_shares_20 : decode cX11_shares 20 = .ok (.if_icmp .ge 65, 3) := by decide +kernel
theorem dX11_shares_23 : decode cX11_shares 23 = .ok (.aload_n 0, 1) := by decide +kernel
theorem dX11_shares_24 : decode cX11_shares 24 = .ok (.iload_n 1, 1) := by decide +kernel
theorem dX11_shares_25 : decode cX11_shares 25 = .ok (.iload 6, 2) := by decide +kernel
theorem dX11_shares_27 : decode cX11_shares 27 = .ok (.iload_n 2, 1) := by decide +kernel
theorem dX11_shares_28 : decode cX11_shares 28 = .ok (.invokevirtual 245, 3) := by decide +kernel
theorem dX11_shares_31 : decode cX11_shares 31 = .ok (.istore 7, 2) := by decide +kernel
theorem dX11_shares_33 : decode cX11_shares 33 = .ok (.aload_n 0, 1) := by decide +kernel
theorem dX11_shares_34 : decode cX11_shares 34 = .ok (.getfield 31, 3) := by decide +kernel
theorem dX11_shares_37 : decode cX11_shares 37 = .ok (.iload_n 1, 1) := by decide +kernel
theorem dX11_shares_38 : decode cX11_shares 38 = .ok (.iaload, 1) := by decide +kernel
theorem dX11_shares_39 : decode cX11_shares 39 = .ok (.iload 7, 2) := by decide +kernel
theorem dX11_shares_41 : decode cX11_shares 41 = .ok (.imul, 1) := by decide +kernel
theorem dX11_shares_42 : decode cX11_shares 42 = .ok (.bipush 60, 2) := by decide +kernel
theorem dX11_shares_44 : decode cX11_shares 44 = .ok (.idiv, 1) := by decide +kernel
theorem dX11_shares_45 : decode cX11_shares 45 = .ok (.istore 8, 2) := by decide +kernel
theorem dX11_shares_47 : decode cX11_shares 47 = .ok (.aload_n 0, 1) := by decide +kernel
theorem dX11_shares_48 : decode cX11_shares 48 = .ok (.getfield 102, 3) := by decide +kernel
theorem dX11_shares_51 : decode cX11_shares 51 = .ok (.iload 6, 2) := by decide +kernel
theorem dX11_shares_53 : decode cX11_shares 53 = .ok (.dup2, 1) := by decide +kernel
theorem dX11_shares_54 : decode cX11_shares 54 = .ok (.iaload, 1) := by decide +kernel
theorem dX11_shares_55 : decode cX11_shares 55 = .ok (.iload 8, 2) := by decide +kernel
theorem dX11_shares_57 : decode cX11_shares 57 = .ok (.iadd, 1) := by decide +kernel
theorem dX11_shares_58 : decode cX11_shares 58 = .ok (.iastore, 1) := by decide +kernel
theorem dX11_shares_59 : decode cX11_shares 59 = .ok (.iload_n 3, 1) := by decide +kernel
theorem dX11_shares_60 : decode cX11_shares 60 = .ok (.iload 8, 2) := by decide +kernel
theorem dX11_shares_62 : decode cX11_shares 62 = .ok (.isub, 1) := by decide +kernel
theorem dX11_shares_63 : decode cX11_shares 63 = .ok (.istore_n 3, 1) := by decide +kernel
theorem dX11_shares_64 : decode cX11_shares 64 = .ok (.iload 7, 2) := by decide +kernel
theorem dX11_shares_66 : decode cX11_shares 66 = .ok (.iload 4, 2) := by decide +kernel
theorem dX11_shares_68 : decode cX11_shares 68 = .ok (.if_icmp .le 11, 3) := by decide +kernel
theorem dX11_shares_71 : decode cX11_shares 71 = .ok (.iload 7, 2) := by decide +kernel
theorem dX11_shares_73 : decode cX11_shares 73 = .ok (.istore 4, 2) := by decide +kernel
theorem dX11_shares_75 : decode cX11_shares 75 = .ok (.iload 6, 2) := by decide +kernel
theorem dX11_shares_77 : decode cX11_shares 77 = .ok (.istore 5, 2) := by decide +kernel
theorem dX11_shares_79 : decode cX11_shares 79 = .ok (.iinc 6 1, 3) := by decide +kernel
theorem dX11_shares_82 : decode cX11_shares 82 = .ok (.goto (-66), 3) := by decide +kernel
theorem dX11_shares_85 : decode cX11_shares 85 = .ok (.aload_n 0, 1) := by decide +kernel
theorem dX11_shares_86 : decode cX11_shares 86 = .ok (.getfield 102, 3) := by decide +kernel
theorem dX11_shares_89 : decode cX11_shares 89 = .ok (.iload 5, 2) := by decide +kernel
theorem dX11_shares_91 : decode cX11_shares 91 = .ok (.dup2, 1) := by decide +kernel
theorem dX11_shares_92 : decode cX11_shares 92 = .ok (.iaload, 1) := by decide +kernel
theorem dX11_shares_93 : decode cX11_shares 93 = .ok (.iload_n 3, 1) := by decide +kernel
theorem dX11_shares_94 : decode cX11_shares 94 = .ok (.iadd, 1) := by decide +kernel
theorem dX11_shares_95 : decode cX11_shares 95 = .ok (.iastore, 1) := by decide +kernel
theorem dX11_shares_96 : decode cX11_shares 96 = .ok (.aload_n 0, 1) := by decide +kernel
theorem dX11_shares_97 : decode cX11_shares 97 = .ok (.dup, 1) := by decide +kernel
theorem dX11_shares_98 : decode cX11_shares 98 = .ok (.getfield 266, 3) := by decide +kernel
theorem dX11_shares_101 : decode cX11_shares 101 = .ok (.aload_n 0, 1) := by decide +kernel
theorem dX11_shares_102 : decode cX11_shares 102 = .ok (.getfield 31, 3) := by decide +kernel
theorem dX11_shares_105 : decode cX11_shares 105 = .ok (.iload_n 1, 1) := by decide +kernel
theorem dX11_shares_106 : decode cX11_shares 106 = .ok (.iaload, 1) := by decide +kernel
theorem dX11_shares_107 : decode cX11_shares 107 = .ok (.iadd, 1) := by decide +kernel
theorem dX11_shares_108 : decode cX11_shares 108 = .ok (.putfield 266, 3) := by decide +kernel
theorem dX11_shares_111 : decode cX11_shares 111 = .ok (.return_, 1) := by decide +kernel
theorem dX11_paid_0 : decode cX11_paid 0 = .ok (.aload_n 0, 1) := by decide +kernel
theorem dX11_paid_1 : decode cX11_paid 1 = .ok (.iconst 0, 1) := by decide +kernel
theorem dX11_paid_2 : decode cX11_paid 2 = .ok (.putfield 129, 3) := by decide +kernel
theorem dX11_paid_5 : decode cX11_paid 5 = .ok (.aload_n 0, 1) := by decide +kernel
theorem dX11_paid_6 : decode cX11_paid 6 = .ok (.iload_n 1, 1) := by decide +kernel
theorem dX11_paid_7 : decode cX11_paid 7 = .ok (.invokevirtual 242, 3) := by decide +kernel
theorem dX11_paid_10 : decode cX11_paid 10 = .ok (.ifCond .eq 19, 3) := by decide +kernel
theorem dX11_paid_13 : decode cX11_paid 13 = .ok (.iload_n 2, 1) := by decide +kernel
theorem dX11_paid_14 : decode cX11_paid 14 = .ok (.invokestatic 249, 3) := by decide +kernel
theorem dX11_paid_17 : decode cX11_paid 17 = .ok (.ifCond .eq 12, 3) := by decide +kernel
theorem dX11_paid_20 : decode cX11_paid 20 = .ok (.iload_n 3, 1) := by decide +kernel
theorem dX11_paid_21 : decode cX11_paid 21 = .ok (.iconst 0, 1) := by decide +kernel
theorem dX11_paid_22 : decode cX11_paid 22 = .ok (.iconst 2, 1) := by decide +kernel
theorem dX11_paid_23 : decode cX11_paid 23 = .ok (.invokestatic 204, 3) := by decide +kernel
theorem dX11_paid_26 : decode cX11_paid 26 = .ok (.ifCond .ne 5, 3) := by decide +kernel
theorem dX11_paid_29 : decode cX11_paid 29 = .ok (.iconst (-1), 1) := by decide +kernel
theorem dX11_paid_30 : decode cX11_paid 30 = .ok (.ireturn, 1) := by decide +kernel
theorem dX11_paid_31 : decode cX11_paid 31 = .ok (.aload_n 0, 1) := by decide +kernel
theorem dX11_paid_32 : decode cX11_paid 32 = .ok (.aload_n 0, 1) := by decide +kernel
theorem dX11_paid_33 : decode cX11_paid 33 = .ok (.getfield 208, 3) := by decide +kernel
theorem dX11_paid_36 : decode cX11_paid 36 = .ok (.invokevirtual 279, 3) := by decide +kernel
theorem dX11_paid_39 : decode cX11_paid 39 = .ok (.iload_n 3, 1) := by decide +kernel
theorem dX11_paid_40 : decode cX11_paid 40 = .ok (.ifCond .ne 17, 3) := by decide +kernel
theorem dX11_paid_43 : decode cX11_paid 43 = .ok (.aload_n 0, 1) := by decide +kernel
theorem dX11_paid_44 : decode cX11_paid 44 = .ok (.getfield 99, 3) := by decide +kernel
theorem dX11_paid_47 : decode cX11_paid 47 = .ok (.bipush 80, 2) := by decide +kernel
theorem dX11_paid_49 : decode cX11_paid 49 = .ok (.iload_n 1, 1) := by decide +kernel
theorem dX11_paid_50 : decode cX11_paid 50 = .ok (.imul, 1) := by decide +kernel
theorem dX11_paid_51 : decode cX11_paid 51 = .ok (.iload_n 2, 1) := by decide +kernel
theorem dX11_paid_52 : decode cX11_paid 52 = .ok (.iadd, 1) := by decide +kernel
theorem dX11_paid_53 : decode cX11_paid 53 = .ok (.iaload, 1) := by decide +kernel
theorem dX11_paid_54 : decode cX11_paid 54 = .ok (.goto 34, 3) := by decide +kernel
theorem dX11_paid_57 : decode cX11_paid 57 = .ok (.iload_n 3, 1) := by decide +kernel
theorem dX11_paid_58 : decode cX11_paid 58 = .ok (.iconst 1, 1) := by decide +kernel
theorem dX11_paid_59 : decode cX11_paid 59 = .ok (.if_icmp .ne 15, 3) := by decide +kernel
theorem dX11_paid_62 : decode cX11_paid 62 = .ok (.aload_n 0, 1) := by decide +kernel
theorem dX11_paid_63 : decode cX11_paid 63 = .ok (.iload_n 1, 1) := by decide +kernel
theorem dX11_paid_64 : decode cX11_paid 64 = .ok (.iload_n 2, 1) := by decide +kernel
theorem dX11_paid_65 : decode cX11_paid 65 = .ok (.invokevirtual 269, 3) := by decide +kernel
theorem dX11_paid_68 : decode cX11_paid 68 = .ok (.ifCond .eq 19, 3) := by decide +kernel
theorem dX11_paid_71 : decode cX11_paid 71 = .ok (.goto 12, 3) := by decide +kernel
theorem dX11_paid_74 : decode cX11_paid 74 = .ok (.aload_n 0, 1) := by decide +kernel
theorem dX11_paid_75 : decode cX11_paid 75 = .ok (.iload_n 1, 1) := by decide +kernel
theorem dX11_paid_76 : decode cX11_paid 76 = .ok (.iload_n 2, 1) := by decide +kernel
theorem dX11_paid_77 : decode cX11_paid 77 = .ok (.invokevirtual 272, 3) := by decide +kernel
theorem dX11_paid_80 : decode cX11_paid 80 = .ok (.ifCond .eq 7, 3) := by decide +kernel
theorem dX11_paid_83 : decode cX11_paid 83 = .ok (.iconst 1, 1) := by decide +kernel
theorem dX11_paid_84 : decode cX11_paid 84 = .ok (.goto 4, 3) := by decide +kernel
theorem dX11_paid_87 : decode cX11_paid 87 = .ok (.iconst 0, 1) := by decide +kernel
theorem dX11_paid_88 : decode cX11_paid 88 = .ok (.ireturn, 1) := by decide +kernel
theorem dX11_got_0 : decode cX11_got 0 = .ok (.aload_n 0, 1) := by decide +kernel
theorem dX11_got_1 : decode cX11_got 1 = .ok (.iconst 0, 1) := by decide +kernel
theorem dX11_got_2 : decode cX11_got 2 = .ok (.putfield 129, 3) := by decide +kernel
theorem dX11_got_5 : decode cX11_got 5 = .ok (.iload_n 1, 1) := by decide +kernel
theorem dX11_got_6 : decode cX11_got 6 = .ok (.invokestatic 236, 3) := by decide +kernel
theorem dX11_got_9 : decode cX11_got 9 = .ok (.ifCond .eq 15, 3) := by decide +kernel
theorem dX11_got_12 : decode cX11_got 12 = .ok (.iload_n 2, 1) := by decide +kernel
theorem dX11_got_13 : decode cX11_got 13 = .ok (.iconst 0, 1) := by decide +kernel
theorem dX11_got_14 : decode cX11_got 14 = .ok (.aload_n 0, 1) := by decide +kernel
theorem dX11_got_15 : decode cX11_got 15 = .ok (.getfield 208, 3) := by decide +kernel
theorem dX11_got_18 : decode cX11_got 18 = .ok (.invokestatic 204, 3) := by decide +kernel
theorem dX11_got_21 : decode cX11_got 21 = .ok (.ifCond .ne 5, 3) := by decide +kernel
theorem dX11_got_24 : decode cX11_got 24 = .ok (.iconst (-1), 1) := by decide +kernel
theorem dX11_got_25 : decode cX11_got 25 = .ok (.ireturn, 1) := by decide +kernel
theorem dX11_got_26 : decode cX11_got 26 = .ok (.aload_n 0, 1) := by decide +kernel
theorem dX11_got_27 : decode cX11_got 27 = .ok (.iload_n 2, 1) := by decide +kernel
theorem dX11_got_28 : decode cX11_got 28 = .ok (.invokevirtual 279, 3) := by decide +kernel
theorem dX11_got_31 : decode cX11_got 31 = .ok (.aload_n 0, 1) := by decide +kernel
theorem dX11_got_32 : decode cX11_got 32 = .ok (.getfield 102, 3) := by decide +kernel
theorem dX11_got_35 : decode cX11_got 35 = .ok (.iload_n 1, 1) := by decide +kernel
theorem dX11_got_36 : decode cX11_got 36 = .ok (.iaload, 1) := by decide +kernel
theorem dX11_got_37 : decode cX11_got 37 = .ok (.ireturn, 1) := by decide +kernel
theorem dX11_owedOf_0 : decode cX11_owedOf 0 = .ok (.iconst 0, 1) := by decide +kernel
theorem dX11_owedOf_1 : decode cX11_owedOf 1 = .ok (.istore_n 2, 1) := by decide +kernel
theorem dX11_owedOf_2 : decode cX11_owedOf 2 = .ok (.iconst 0, 1) := by decide +kernel
theorem dX11_owedOf_3 : decode cX11_owedOf 3 = .ok (.istore_n 3, 1) := by decide +kernel
theorem dX11_owedOf_4 : decode cX11_owedOf 4 = .ok (.iload_n 3, 1) := by decide +kernel
theorem dX11_owedOf_5 : decode cX11_owedOf 5 = .ok (.bipush 80, 2) := by decide +kernel
theorem dX11_owedOf_7 : decode cX11_owedOf 7 = .ok (.if_icmp .ge 46, 3) := by decide +kernel
theorem dX11_owedOf_10 : decode cX11_owedOf 10 = .ok (.iload_n 2, 1) := by decide +kernel
theorem dX11_owedOf_11 : decode cX11_owedOf 11 = .ok (.aload_n 0, 1) := by decide +kernel
theorem dX11_owedOf_12 : decode cX11_owedOf 12 = .ok (.getfield 99, 3) := by decide +kernel
theorem dX11_owedOf_15 : decode cX11_owedOf 15 = .ok (.bipush 80, 2) := by decide +kernel
theorem dX11_owedOf_17 : decode cX11_owedOf 17 = .ok (.iload_n 1, 1) := by decide +kernel
theorem dX11_owedOf_18 : decode cX11_owedOf 18 = .ok (.imul, 1) := by decide +kernel
theorem dX11_owedOf_19 : decode cX11_owedOf 19 = .ok (.iload_n 3, 1) := by decide +kernel
theorem dX11_owedOf_20 : decode cX11_owedOf 20 = .ok (.iadd, 1) := by decide +kernel
theorem dX11_owedOf_21 : decode cX11_owedOf 21 = .ok (.iaload, 1) := by decide +kernel
theorem dX11_owedOf_22 : decode cX11_owedOf 22 = .ok (.iconst (-1), 1) := by decide +kernel
theorem dX11_owedOf_23 : decode cX11_owedOf 23 = .ok (.if_icmp .eq 21, 3) := by decide +kernel
theorem dX11_owedOf_26 : decode cX11_owedOf 26 = .ok (.aload_n 0, 1) := by decide +kernel
theorem dX11_owedOf_27 : decode cX11_owedOf 27 = .ok (.iload_n 1, 1) := by decide +kernel
theorem dX11_owedOf_28 : decode cX11_owedOf 28 = .ok (.iload_n 3, 1) := by decide +kernel
theorem dX11_owedOf_29 : decode cX11_owedOf 29 = .ok (.invokevirtual 269, 3) := by decide +kernel
theorem dX11_owedOf_32 : decode cX11_owedOf 32 = .ok (.ifCond .ne 12, 3) := by decide +kernel
theorem dX11_owedOf_35 : decode cX11_owedOf 35 = .ok (.aload_n 0, 1) := by decide +kernel
theorem dX11_owedOf_36 : decode cX11_owedOf 36 = .ok (.getfield 31, 3) := by decide +kernel
theorem dX11_owedOf_39 : decode cX11_owedOf 39 = .ok (.iload_n 1, 1) := by decide +kernel
theorem dX11_owedOf_40 : decode cX11_owedOf 40 = .ok (.iaload, 1) := by decide +kernel
theorem dX11_owedOf_41 : decode cX11_owedOf 41 = .ok (.goto 4, 3) := by decide +kernel
theorem dX11_owedOf_44 : decode cX11_owedOf 44 = .ok (.iconst 0, 1) := by decide +kernel
theorem dX11_owedOf_45 : decode cX11_owedOf 45 = .ok (.iadd, 1) := by decide +kernel
theorem dX11_owedOf_46 : decode cX11_owedOf 46 = .ok (.istore_n 2, 1) := by decide +kernel
theorem dX11_owedOf_47 : decode cX11_owedOf 47 = .ok (.iinc 3 1, 3) := by decide +kernel
theorem dX11_owedOf_50 : decode cX11_owedOf 50 = .ok (.goto (-46), 3) := by decide +kernel
theorem dX11_owedOf_53 : decode cX11_owedOf 53 = .ok (.iload_n 2, 1) := by decide +kernel
theorem dX11_owedOf_54 : decode cX11_owedOf 54 = .ok (.ireturn, 1) := by decide +kernel
theorem dX11_owed_0 : decode cX11_owed 0 = .ok (.aload_n 0, 1) := by decide +kernel
theorem dX11_owed_1 : decode cX11_owed 1 = .ok (.iconst 0, 1) := by decide +kernel
theorem dX11_owed_2 : decode cX11_owed 2 = .ok (.putfield 129, 3) := by decide +kernel
theorem dX11_owed_5 : decode cX11_owed 5 = .ok (.aload_n 0, 1) := by decide +kernel
theorem dX11_owed_6 : decode cX11_owed 6 = .ok (.iload_n 1, 1) := by decide +kernel
theorem dX11_owed_7 : decode cX11_owed 7 = .ok (.invokevirtual 242, 3) := by decide +kernel
theorem dX11_owed_10 : decode cX11_owed 10 = .ok (.ifCond .eq 15, 3) := by decide +kernel
theorem dX11_owed_13 : decode cX11_owed 13 = .ok (.iload_n 2, 1) := by decide +kernel
theorem dX11_owed_14 : decode cX11_owed 14 = .ok (.iconst 0, 1) := by decide +kernel
theorem dX11_owed_15 : decode cX11_owed 15 = .ok (.aload_n 0, 1) := by decide +kernel
theorem dX11_owed_16 : decode cX11_owed 16 = .ok (.getfield 208, 3) := by decide +kernel
theorem dX11_owed_19 : decode cX11_owed 19 = .ok (.invokestatic 204, 3) := by decide +kernel
theorem dX11_owed_22 : decode cX11_owed 22 = .ok (.ifCond .ne 5, 3) := by decide +kernel
theorem dX11_owed_25 : decode cX11_owed 25 = .ok (.iconst (-1), 1) := by decide +kernel
theorem dX11_owed_26 : decode cX11_owed 26 = .ok (.ireturn, 1) := by decide +kernel
theorem dX11_owed_27 : decode cX11_owed 27 = .ok (.aload_n 0, 1) := by decide +kernel
theorem dX11_owed_28 : decode cX11_owed 28 = .ok (.iload_n 2, 1) := by decide +kernel
theorem dX11_owed_29 : decode cX11_owed 29 = .ok (.invokevirtual 279, 3) := by decide +kernel
theorem dX11_owed_32 : decode cX11_owed 32 = .ok (.aload_n 0, 1) := by decide +kernel
theorem dX11_owed_33 : decode cX11_owed 33 = .ok (.iload_n 1, 1) := by decide +kernel
theorem dX11_owed_34 : decode cX11_owed 34 = .ok (.invokevirtual 282, 3) := by decide +kernel
theorem dX11_owed_37 : decode cX11_owed 37 = .ok (.ireturn, 1) := by decide +kernel
theorem dX11_state_0 : decode cX11_state 0 = .ok (.aload_n 0, 1) := by decide +kernel
theorem dX11_state_1 : decode cX11_state 1 = .ok (.iconst 0, 1) := by decide +kernel
theorem dX11_state_2 : decode cX11_state 2 = .ok (.putfield 129, 3) := by decide +kernel
theorem dX11_state_5 : decode cX11_state 5 = .ok (.iload_n 1, 1) := by decide +kernel
theorem dX11_state_6 : decode cX11_state 6 = .ok (.iconst 0, 1) := by decide +kernel
theorem dX11_state_7 : decode cX11_state 7 = .ok (.aload_n 0, 1) := by decide +kernel
theorem dX11_state_8 : decode cX11_state 8 = .ok (.getfield 208, 3) := by decide +kernel
theorem dX11_state_11 : decode cX11_state 11 = .ok (.invokestatic 204, 3) := by decide +kernel
theorem dX11_state_14 : decode cX11_state 14 = .ok (.ifCond .eq 12, 3) := by decide +kernel
theorem dX11_state_17 : decode cX11_state 17 = .ok (.iload_n 2, 1) := by decide +kernel
theorem dX11_state_18 : decode cX11_state 18 = .ok (.iconst 0, 1) := by decide +kernel
theorem dX11_state_19 : decode cX11_state 19 = .ok (.iconst 2, 1) := by decide +kernel
theorem dX11_state_20 : decode cX11_state 20 = .ok (.invokestatic 204, 3) := by decide +kernel
theorem dX11_state_23 : decode cX11_state 23 = .ok (.ifCond .ne 5, 3) := by decide +kernel
theorem dX11_state_26 : decode cX11_state 26 = .ok (.iconst (-1), 1) := by decide +kernel
theorem dX11_state_27 : decode cX11_state 27 = .ok (.ireturn, 1) := by decide +kernel
theorem dX11_state_28 : decode cX11_state 28 = .ok (.aload_n 0, 1) := by decide +kernel
theorem dX11_state_29 : decode cX11_state 29 = .ok (.iload_n 1, 1) := by decide +kernel
theorem dX11_state_30 : decode cX11_state 30 = .ok (.invokevirtual 279, 3) := by decide +kernel
theorem dX11_state_33 : decode cX11_state 33 = .ok (.iload_n 2, 1) := by decide +kernel
theorem dX11_state_34 : decode cX11_state 34 = .ok (.iconst 1, 1) := by decide +kernel
theorem dX11_state_35 : decode cX11_state 35 = .ok (.if_icmp .ne 10, 3) := by decide +kernel
theorem dX11_state_38 : decode cX11_state 38 = .ok (.aload_n 0, 1) := by decide +kernel
theorem dX11_state_39 : decode cX11_state 39 = .ok (.getfield 266, 3) := by decide +kernel
theorem dX11_state_42 : decode cX11_state 42 = .ok (.goto 4, 3) := by decide +kernel
theorem dX11_state_45 : decode cX11_state 45 = .ok (.iconst 0, 1) := by decide +kernel
theorem dX11_state_46 : decode cX11_state 46 = .ok (.istore_n 3, 1) := by decide +kernel
theorem dX11_state_47 : decode cX11_state 47 = .ok (.iconst 0, 1) := by decide +kernel
theorem dX11_state_48 : decode cX11_state 48 = .ok (.istore 4, 2) := by decide +kernel
theorem dX11_state_50 : decode cX11_state 50 = .ok (.iload 4, 2) := by decide +kernel
theorem dX11_state_52 : decode cX11_state 52 = .ok (.aload_n 0, 1) := by decide +kernel
theorem dX11_state_53 : decode cX11_state 53 = .ok (.getfield 233, 3) := by decide +kernel
theorem dX11_state_56 : decode cX11_state 56 = .ok (.if_icmp .ge 53, 3) := by decide +kernel
theorem dX11_state_59 : decode cX11_state 59 = .ok (.iload_n 2, 1) := by decide +kernel
theorem dX11_state_60 : decode cX11_state 60 = .ok (.iconst 1, 1) := by decide +kernel
theorem dX11_state_61 : decode cX11_state 61 = .ok (.if_icmp .eq 48, 3) := by decide +kernel
theorem dX11_state_64 : decode cX11_state 64 = .ok (.iload_n 3, 1) := by decide +kernel
theorem dX11_state_65 : decode cX11_state 65 = .ok (.iload_n 2, 1) := by decide +kernel
theorem dX11_state_66 : decode cX11_state 66 = .ok (.iconst 2, 1) := by decide +kernel
theorem dX11_state_67 : decode cX11_state 67 = .ok (.if_icmp .ne 12, 3) := by decide +kernel
theorem dX11_state_70 : decode cX11_state 70 = .ok (.aload_n 0, 1) := by decide +kernel
theorem dX11_state_71 : decode cX11_state 71 = .ok (.iload 4, 2) := by decide +kernel
theorem dX11_state_73 : decode cX11_state 73 = .ok (.invokevirtual 282, 3) := by decide +kernel
theorem dX11_state_76 : decode cX11_state 76 = .ok (.goto 25, 3) := by decide +kernel
theorem dX11_state_79 : decode cX11_state 79 = .ok (.aload_n 0, 1) := by decide +kernel
theorem dX11_state_80 : decode cX11_state 80 = .ok (.getfield 19, 3) := by decide +kernel
theorem dX11_state_83 : decode cX11_state 83 = .ok (.iload 4, 2) := by decide +kernel
theorem dX11_state_85 : decode cX11_state 85 = .ok (.iaload, 1) := by decide +kernel
theorem dX11_state_86 : decode cX11_state 86 = .ok (.iload_n 1, 1) := by decide +kernel
theorem dX11_state_87 : decode cX11_state 87 = .ok (.if_icmp .gt 13, 3) := by decide +kernel
theorem dX11_state_90 : decode cX11_state 90 = .ok (.aload_n 0, 1) := by decide +kernel
theorem dX11_state_91 : decode cX11_state 91 = .ok (.getfield 34, 3) := by decide +kernel
theorem dX11_state_94 : decode cX11_state 94 = .ok (.iload 4, 2) := by decide +kernel
theorem dX11_state_96 : decode cX11_state 96 = .ok (.iaload, 1) := by decide +kernel
theorem dX11_state_97 : decode cX11_state 97 = .ok (.goto 4, 3) := by decide +kernel
theorem dX11_state_100 : decode cX11_state 100 = .ok (.iconst 0, 1) := by decide +kernel
theorem dX11_state_101 : decode cX11_state 101 = .ok (.iadd, 1) := by decide +kernel
theorem dX11_state_102 : decode cX11_state 102 = .ok (.istore_n 3, 1) := by decide +kernel
theorem dX11_state_103 : decode cX11_state 103 = .ok (.iinc 4 1, 3) := by decide +kernel
theorem dX11_state_106 : decode cX11_state 106 = .ok (.goto (-56), 3) := by decide +kernel
theorem dX11_state_109 : decode cX11_state 109 = .ok (.iload_n 3, 1) := by decide +kernel
theorem dX11_state_110 : decode cX11_state 110 = .ok (.ireturn, 1) := by decide +kernel
theorem dX11_sold_0 : decode cX11_sold 0 = .ok (.aload_n 0, 1) := by decide +kernel
theorem dX11_sold_1 : decode cX11_sold 1 = .ok (.iconst 0, 1) := by decide +kernel
theorem dX11_sold_2 : decode cX11_sold 2 = .ok (.putfield 129, 3) := by decide +kernel
theorem dX11_sold_5 : decode cX11_sold 5 = .ok (.iload_n 1, 1) := by decide +kernel
theorem dX11_sold_6 : decode cX11_sold 6 = .ok (.iconst 0, 1) := by decide +kernel
theorem dX11_sold_7 : decode cX11_sold 7 = .ok (.iconst 3, 1) := by decide +kernel
theorem dX11_sold_8 : decode cX11_sold 8 = .ok (.invokestatic 204, 3) := by decide +kernel
theorem dX11_sold_11 : decode cX11_sold 11 = .ok (.ifCond .eq 24, 3) := by decide +kernel
theorem dX11_sold_14 : decode cX11_sold 14 = .ok (.iload_n 2, 1) := by decide +kernel
theorem dX11_sold_15 : decode cX11_sold 15 = .ok (.iconst 0, 1) := by decide +kernel
theorem dX11_sold_16 : decode cX11_sold 16 = .ok (.bipush 9, 2) := by decide +kernel
theorem dX11_sold_18 : decode cX11_sold 18 = .ok (.invokestatic 204, 3) := by decide +kernel
theorem dX11_sold_21 : decode cX11_sold 21 = .ok (.ifCond .eq 14, 3) := by decide +kernel
theorem dX11_sold_24 : decode cX11_sold 24 = .ok (.iload_n 3, 1) := by decide +kernel
theorem dX11_sold_25 : decode cX11_sold 25 = .ok (.iconst 0, 1) := by decide +kernel
theorem dX11_sold_26 : decode cX11_sold 26 = .ok (.sipush 1000, 3) := by decide +kernel
theorem dX11_sold_29 : decode cX11_sold 29 = .ok (.invokestatic 204, 3) := by decide +kernel
theorem dX11_sold_32 : decode cX11_sold 32 = .ok (.ifCond .ne 5, 3) := by decide +kernel
theorem dX11_sold_35 : decode cX11_sold 35 = .ok (.iconst 0, 1) := by decide +kernel
theorem dX11_sold_36 : decode cX11_sold 36 = .ok (.ireturn, 1) := by decide +kernel
theorem dX11_sold_37 : decode cX11_sold 37 = .ok (.aload_n 0, 1) := by decide +kernel
theorem dX11_sold_38 : decode cX11_sold 38 = .ok (.getfield 52, 3) := by decide +kernel
theorem dX11_sold_41 : decode cX11_sold 41 = .ok (.bipush 10, 2) := by decide +kernel
theorem dX11_sold_43 : decode cX11_sold 43 = .ok (.iload_n 1, 1) := by decide +kernel
theorem dX11_sold_44 : decode cX11_sold 44 = .ok (.imul, 1) := by decide +kernel
theorem dX11_sold_45 : decode cX11_sold 45 = .ok (.iload_n 2, 1) := by decide +kernel
theorem dX11_sold_46 : decode cX11_sold 46 = .ok (.iadd, 1) := by decide +kernel
theorem dX11_sold_47 : decode cX11_sold 47 = .ok (.iload_n 3, 1) := by decide +kernel
theorem dX11_sold_48 : decode cX11_sold 48 = .ok (.iastore, 1) := by decide +kernel
theorem dX11_sold_49 : decode cX11_sold 49 = .ok (.iconst 1, 1) := by decide +kernel
theorem dX11_sold_50 : decode cX11_sold 50 = .ok (.ireturn, 1) := by decide +kernel
theorem dX11_groupOf_0 : decode cX11_groupOf 0 = .ok (.iload_n 0, 1) := by decide +kernel
theorem dX11_groupOf_1 : decode cX11_groupOf 1 = .ok (.bipush 99, 2) := by decide +kernel
theorem dX11_groupOf_3 : decode cX11_groupOf 3 = .ok (.if_icmp .le 8, 3) := by decide +kernel
theorem dX11_groupOf_6 : decode cX11_groupOf 6 = .ok (.bipush 9, 2) := by decide +kernel
theorem dX11_groupOf_8 : decode cX11_groupOf 8 = .ok (.goto 7, 3) := by decide +kernel
theorem dX11_groupOf_11 : decode cX11_groupOf 11 = .ok (.iload_n 0, 1) := by decide +kernel
theorem dX11_groupOf_12 : decode cX11_groupOf 12 = .ok (.bipush 10, 2) := by decide +kernel
theorem dX11_groupOf_14 : decode cX11_groupOf 14 = .ok (.idiv, 1) := by decide +kernel
theorem dX11_groupOf_15 : decode cX11_groupOf 15 = .ok (.ireturn, 1) := by decide +kernel
theorem dX11_years_0 : decode cX11_years 0 = .ok (.aload_n 0, 1) := by decide +kernel
theorem dX11_years_1 : decode cX11_years 1 = .ok (.iconst 0, 1) := by decide +kernel
theorem dX11_years_2 : decode cX11_years 2 = .ok (.putfield 286, 3) := by decide +kernel
theorem dX11_years_5 : decode cX11_years 5 = .ok (.aload_n 0, 1) := by decide +kernel
theorem dX11_years_6 : decode cX11_years 6 = .ok (.iconst 0, 1) := by decide +kernel
theorem dX11_years_7 : decode cX11_years 7 = .ok (.putfield 289, 3) := by decide +kernel
theorem dX11_years_10 : decode cX11_years 10 = .ok (.iconst 0, 1) := by decide +kernel
theorem dX11_years_11 : decode cX11_years 11 = .ok (.istore 4, 2) := by decide +kernel
theorem dX11_years_13 : decode cX11_years 13 = .ok (.iload 4, 2) := by decide +kernel
theorem dX11_years_15 : decode cX11_years 15 = .ok (.aload_n 0, 1) := by decide +kernel
theorem dX11_years_16 : decode cX11_years 16 = .ok (.getfield 211, 3) := by decide +kernel
theorem dX11_years_19 : decode cX11_years 19 = .ok (.if_icmp .ge 165, 3) := by decide +kernel
theorem dX11_years_22 : decode cX11_years 22 = .ok (.aload_n 0, 1) := by decide +kernel
theorem dX11_years_23 : decode cX11_years 23 = .ok (.getfield 16, 3) := by decide +kernel
theorem dX11_years_26 : decode cX11_years 26 = .ok (.iload 4, 2) := by decide +kernel
theorem dX11_years_28 : decode cX11_years 28 = .ok (.iaload, 1) := by decide +kernel
theorem dX11_years_29 : decode cX11_years 29 = .ok (.iload_n 1, 1) := by decide +kernel
theorem dX11_years_30 : decode cX11_years 30 = .ok (.if_icmp .eq 6, 3) := by decide +kernel
theorem dX11_years_33 : decode cX11_years 33 = .ok (.goto 145, 3) := by decide +kernel
theorem dX11_years_36 : decode cX11_years 36 = .ok (.bipush 10, 2) := by decide +kernel
theorem dX11_years_38 : decode cX11_years 38 = .ok (.iload_n 2, 1) := by decide +kernel
theorem dX11_years_39 : decode cX11_years 39 = .ok (.imul, 1) := by decide +kernel
theorem dX11_years_40 : decode cX11_years 40 = .ok (.istore 5, 2) := by decide +kernel
theorem dX11_years_42 : decode cX11_years 42 = .ok (.iload_n 2, 1) := by decide +kernel
theorem dX11_years_43 : decode cX11_years 43 = .ok (.bipush 9, 2) := by decide +kernel
theorem dX11_years_45 : decode cX11_years 45 = .ok (.if_icmp .ne 14, 3) := by decide +kernel
theorem dX11_years_48 : decode cX11_years 48 = .ok (.iload 5, 2) := by decide +kernel
theorem dX11_years_50 : decode cX11_years 50 = .ok (.sipush 130, 3) := by decide +kernel
theorem dX11_years_53 : decode cX11_years 53 = .ok (.if_icmp .ge 125, 3) := by decide +kernel
theorem dX11_years_56 : decode cX11_years 56 = .ok (.goto 15, 3) := by decide +kernel
theorem dX11_years_59 : decode cX11_years 59 = .ok (.iload 5, 2) := by decide +kernel
theorem dX11_years_61 : decode cX11_years 61 = .ok (.bipush 10, 2) := by decide +kernel
theorem dX11_years_63 : decode cX11_years 63 = .ok (.iload_n 2, 1) := by decide +kernel
theorem dX11_years_64 : decode cX11_years 64 = .ok (.imul, 1) := by decide +kernel
theorem dX11_years_65 : decode cX11_years 65 = .ok (.bipush 10, 2) := by decide +kernel
theorem dX11_years_67 : decode cX11_years 67 = .ok (.iadd, 1) := by decide +kernel
theorem dX11_years_68 : decode cX11_years 68 = .ok (.if_icmp .ge 110, 3) := by decide +kernel
theorem dX11_years_71 : decode cX11_years 71 = .ok (.aload_n 0, 1) := by decide +kernel
theorem dX11_years_72 : decode cX11_years 72 = .ok (.getfield 13, 3) := by decide +kernel
theorem dX11_years_75 : decode cX11_years 75 = .ok (.iload 4, 2) := by decide +kernel
theorem dX11_years_77 : decode cX11_years 77 = .ok (.iaload, 1) := by decide +kernel
theorem dX11_years_78 : decode cX11_years 78 = .ok (.iconst 2, 1) := by decide +kernel
theorem dX11_years_79 : decode cX11_years 79 = .ok (.iload 5, 2) := by decide +kernel
theorem dX11_years_81 : decode cX11_years 81 = .ok (.imul, 1) := by decide +kernel
theorem dX11_years_82 : decode cX11_years 82 = .ok (.iadd, 1) := by decide +kernel
theorem dX11_years_83 : decode cX11_years 83 = .ok (.istore 6, 2) := by decide +kernel
theorem dX11_years_85 : decode cX11_years 85 = .ok (.iload 6, 2) := by decide +kernel
theorem dX11_years_87 : decode cX11_years 87 = .ok (.ifCond .lt 85, 3) := by decide +kernel
theorem dX11_years_90 : decode cX11_years 90 = .ok (.iload 6, 2) := by decide +kernel
theorem dX11_years_92 : decode cX11_years 92 = .ok (.iload_n 3, 1) := by decide +kernel
theorem dX11_years_93 : decode cX11_years 93 = .ok (.if_icmp .gt 79, 3) := by decide +kernel
theorem dX11_years_96 : decode cX11_years 96 = .ok (.aload_n 0, 1) := by decide +kernel
theorem dX11_years_97 : decode cX11_years 97 = .ok (.getfield 96, 3) := by decide +kernel
theorem dX11_years_100 : decode cX11_years 100 = .ok (.iload 4, 2) := by decide +kernel
theorem dX11_years_102 : decode cX11_years 102 = .ok (.iaload, 1) := by decide +kernel
theorem dX11_years_103 : decode cX11_years 103 = .ok (.iconst (-1), 1) := by decide +kernel
theorem dX11_years_104 : decode cX11_years 104 = .ok (.if_icmp .eq 18, 3) := by decide +kernel
theorem dX11_years_107 : decode cX11_years 107 = .ok (.iload 6, 2) := by decide +kernel
theorem dX11_years_109 : decode cX11_years 109 = .ok (.aload_n 0, 1) := by decide +kernel
theorem dX11_years_110 : decode cX11_years 110 = .ok (.getfield 96, 3) := by decide +kernel
theorem dX11_years_113 : decode cX11_years 113 = .ok (.iload 4, 2) := by decide +kernel
theorem dX11_years_115 : decode cX11_years 115 = .ok (.iaload, 1) := by decide +kernel
theorem dX11_years_116 : decode cX11_years 116 = .ok (.if_icmp .le 6, 3) := by decide +kernel
theorem dX11_years_119 : decode cX11_years 119 = .ok (.goto 53, 3) := by decide +kernel
theorem dX11_years_122 : decode cX11_years 122 = .ok (.aload_n 0, 1) := by decide +kernel
theorem dX11_years_123 : decode cX11_years 123 = .ok (.dup, 1) := by decide +kernel
theorem dX11_years_124 : decode cX11_years 124 = .ok (.getfield 286, 3) := by decide +kernel
theorem dX11_years_127 : decode cX11_years 127 = .ok (.iconst 1, 1) := by decide +kernel
theorem dX11_years_128 : decode cX11_years 128 = .ok (.iadd, 1) := by decide +kernel
theorem dX11_years_129 : decode cX11_years 129 = .ok (.putfield 286, 3) := by decide +kernel
theorem dX11_years_132 : decode cX11_years 132 = .ok (.aload_n 0, 1) := by decide +kernel
theorem dX11_years_133 : decode cX11_years 133 = .ok (.dup, 1) := by decide +kernel
theorem dX11_years_134 : decode cX11_years 134 = .ok (.getfield 289, 3) := by decide +kernel
theorem dX11_years_137 : decode cX11_years 137 = .ok (.aload_n 0, 1) := by decide +kernel
theorem dX11_years_138 : decode cX11_years 138 = .ok (.getfield 96, 3) := by decide +kernel
theorem dX11_years_141 : decode cX11_years 141 = .ok (.iload 4, 2) := by decide +kernel
theorem dX11_years_143 : decode cX11_years 143 = .ok (.iaload, 1) := by decide +kernel
theorem dX11_years_144 : decode cX11_years 144 = .ok (.iload 6, 2) := by decide +kernel
theorem dX11_years_146 : decode cX11_years 146 = .ok (.if_icmp .eq 17, 3) := by decide +kernel
theorem dX11_years_149 : decode cX11_years 149 = .ok (.aload_n 0, 1) := by decide +kernel
theorem dX11_years_150 : decode cX11_years 150 = .ok (.getfield 96, 3) := by decide +kernel
theorem dX11_years_153 : decode cX11_years 153 = .ok (.iload 4, 2) := by decide +kernel
theorem dX11_years_155 : decode cX11_years 155 = .ok (.iaload, 1) := by decide +kernel
theorem dX11_years_156 : decode cX11_years 156 = .ok (.iload 6, 2) := by decide +kernel
theorem dX11_years_158 : decode cX11_years 158 = .ok (.iconst 1, 1) := by decide +kernel
theorem dX11_years_159 : decode cX11_years 159 = .ok (.iadd, 1) := by decide +kernel
theorem dX11_years_160 : decode cX11_years 160 = .ok (.if_icmp .ne 7, 3) := by decide +kernel
theorem dX11_years_163 : decode cX11_years 163 = .ok (.iconst 1, 1) := by decide +kernel
theorem dX11_years_164 : decode cX11_years 164 = .ok (.goto 4, 3) := by decide +kernel
theorem dX11_years_167 : decode cX11_years 167 = .ok (.iconst 0, 1) := by decide +kernel
theorem dX11_years_168 : decode cX11_years 168 = .ok (.iadd, 1) := by decide +kernel
theorem dX11_years_169 : decode cX11_years 169 = .ok (.putfield 289, 3) := by decide +kernel
theorem dX11_years_172 : decode cX11_years 172 = .ok (.iinc 5 1, 3) := by decide +kernel
theorem dX11_years_175 : decode cX11_years 175 = .ok (.goto (-133), 3) := by decide +kernel
theorem dX11_years_178 : decode cX11_years 178 = .ok (.iinc 4 1, 3) := by decide +kernel
theorem dX11_years_181 : decode cX11_years 181 = .ok (.goto (-168), 3) := by decide +kernel
theorem dX11_years_184 : decode cX11_years 184 = .ok (.return_, 1) := by decide +kernel
theorem dX11_lived_0 : decode cX11_lived 0 = .ok (.aload_n 0, 1) := by decide +kernel
theorem dX11_lived_1 : decode cX11_lived 1 = .ok (.getfield 286, 3) := by decide +kernel
theorem dX11_lived_4 : decode cX11_lived 4 = .ok (.ifCond .ne 15, 3) := by decide +kernel
theorem dX11_lived_7 : decode cX11_lived 7 = .ok (.aload_n 0, 1) := by decide +kernel
theorem dX11_lived_8 : decode cX11_lived 8 = .ok (.getfield 52, 3) := by decide +kernel
theorem dX11_lived_11 : decode cX11_lived 11 = .ok (.bipush 10, 2) := by decide +kernel
theorem dX11_lived_13 : decode cX11_lived 13 = .ok (.iload_n 1, 1) := by decide +kernel
theorem dX11_lived_14 : decode cX11_lived 14 = .ok (.imul, 1) := by decide +kernel
theorem dX11_lived_15 : decode cX11_lived 15 = .ok (.iload_n 2, 1) := by decide +kernel
theorem dX11_lived_16 : decode cX11_lived 16 = .ok (.iadd, 1) := by decide +kernel
theorem dX11_lived_17 : decode cX11_lived 17 = .ok (.iaload, 1) := by decide +kernel
theorem dX11_lived_18 : decode cX11_lived 18 = .ok (.ireturn, 1) := by decide +kernel
theorem dX11_lived_19 : decode cX11_lived 19 = .ok (.aload_n 0, 1) := by decide +kernel
theorem dX11_lived_20 : decode cX11_lived 20 = .ok (.getfield 289, 3) := by decide +kernel
theorem dX11_lived_23 : decode cX11_lived 23 = .ok (.iload_n 3, 1) := by decide +kernel
theorem dX11_lived_24 : decode cX11_lived 24 = .ok (.iadd, 1) := by decide +kernel
theorem dX11_lived_25 : decode cX11_lived 25 = .ok (.istore 4, 2) := by decide +kernel
theorem dX11_lived_27 : decode cX11_lived 27 = .ok (.iload 4, 2) := by decide +kernel
theorem dX11_lived_29 : decode cX11_lived 29 = .ok (.ifCond .ge 7, 3) := by decide +kernel
theorem dX11_lived_32 : decode cX11_lived 32 = .ok (.iconst 0, 1) := by decide +kernel
theorem dX11_lived_33 : decode cX11_lived 33 = .ok (.goto 21, 3) := by decide +kernel
theorem dX11_lived_36 : decode cX11_lived 36 = .ok (.iload 4, 2) := by decide +kernel
theorem dX11_lived_38 : decode cX11_lived 38 = .ok (.aload_n 0, 1) := by decide +kernel
theorem dX11_lived_39 : decode cX11_lived 39 = .ok (.getfield 286, 3) := by decide +kernel
theorem dX11_lived_42 : decode cX11_lived 42 = .ok (.if_icmp .le 10, 3) := by decide +kernel
theorem dX11_lived_45 : decode cX11_lived 45 = .ok (.aload_n 0, 1) := by decide +kernel
theorem dX11_lived_46 : decode cX11_lived 46 = .ok (.getfield 286, 3) := by decide +kernel
theorem dX11_lived_49 : decode cX11_lived 49 = .ok (.goto 5, 3) := by decide +kernel
theorem dX11_lived_52 : decode cX11_lived 52 = .ok (.iload 4, 2) := by decide +kernel
theorem dX11_lived_54 : decode cX11_lived 54 = .ok (.istore 4, 2) := by decide +kernel
theorem dX11_lived_56 : decode cX11_lived 56 = .ok (.sipush 1000, 3) := by decide +kernel
theorem dX11_lived_59 : decode cX11_lived 59 = .ok (.aload_n 0, 1) := by decide +kernel
theorem dX11_lived_60 : decode cX11_lived 60 = .ok (.getfield 286, 3) := by decide +kernel
theorem dX11_lived_63 : decode cX11_lived 63 = .ok (.iload 4, 2) := by decide +kernel
theorem dX11_lived_65 : decode cX11_lived 65 = .ok (.isub, 1) := by decide +kernel
theorem dX11_lived_66 : decode cX11_lived 66 = .ok (.imul, 1) := by decide +kernel
theorem dX11_lived_67 : decode cX11_lived 67 = .ok (.aload_n 0, 1) := by decide +kernel
theorem dX11_lived_68 : decode cX11_lived 68 = .ok (.getfield 286, 3) := by decide +kernel
theorem dX11_lived_71 : decode cX11_lived 71 = .ok (.idiv, 1) := by decide +kernel
theorem dX11_lived_72 : decode cX11_lived 72 = .ok (.ireturn, 1) := by decide +kernel
theorem dX11_own_0 : decode cX11_own 0 = .ok (.aload_n 0, 1) := by decide +kernel
theorem dX11_own_1 : decode cX11_own 1 = .ok (.iconst 0, 1) := by decide +kernel
theorem dX11_own_2 : decode cX11_own 2 = .ok (.putfield 129, 3) := by decide +kernel
theorem dX11_own_5 : decode cX11_own 5 = .ok (.iload_n 1, 1) := by decide +kernel
theorem dX11_own_6 : decode cX11_own 6 = .ok (.iconst 0, 1) := by decide +kernel
theorem dX11_own_7 : decode cX11_own 7 = .ok (.iconst 3, 1) := by decide +kernel
theorem dX11_own_8 : decode cX11_own 8 = .ok (.invokestatic 204, 3) := by decide +kernel
theorem dX11_own_11 : decode cX11_own 11 = .ok (.ifCond .eq 30, 3) := by decide +kernel
theorem dX11_own_14 : decode cX11_own 14 = .ok (.iload_n 2, 1) := by decide +kernel
theorem dX11_own_15 : decode cX11_own 15 = .ok (.iconst 0, 1) := by decide +kernel
theorem dX11_own_16 : decode cX11_own 16 = .ok (.bipush 9, 2) := by decide +kernel
theorem dX11_own_18 : decode cX11_own 18 = .ok (.invokestatic 204, 3) := by decide +kernel
theorem dX11_own_21 : decode cX11_own 21 = .ok (.ifCond .eq 20, 3) := by decide +kernel
theorem dX11_own_24 : decode cX11_own 24 = .ok (.iload_n 3, 1) := by decide +kernel
theorem dX11_own_25 : decode cX11_own 25 = .ok (.invokestatic 249, 3) := by decide +kernel
theorem dX11_own_28 : decode cX11_own 28 = .ok (.ifCond .eq 13, 3) := by decide +kernel
theorem dX11_own_31 : decode cX11_own 31 = .ok (.iload 4, 2) := by decide +kernel
theorem dX11_own_33 : decode cX11_own 33 = .ok (.iconst 0, 1) := by decide +kernel
theorem dX11_own_34 : decode cX11_own 34 = .ok (.iconst 4, 1) := by decide +kernel
theorem dX11_own_35 : decode cX11_own 35 = .ok (.invokestatic 204, 3) := by decide +kernel
theorem dX11_own_38 : decode cX11_own 38 = .ok (.ifCond .ne 5, 3) := by decide +kernel
theorem dX11_own_41 : decode cX11_own 41 = .ok (.iconst (-1), 1) := by decide +kernel
theorem dX11_own_42 : decode cX11_own 42 = .ok (.ireturn, 1) := by decide +kernel
theorem dX11_own_43 : decode cX11_own 43 = .ok (.aload_n 0, 1) := by decide +kernel
theorem dX11_own_44 : decode cX11_own 44 = .ok (.iload_n 3, 1) := by decide +kernel
theorem dX11_own_45 : decode cX11_own 45 = .ok (.invokevirtual 257, 3) := by decide +kernel
theorem dX11_own_48 : decode cX11_own 48 = .ok (.aload_n 0, 1) := by decide +kernel
theorem dX11_own_49 : decode cX11_own 49 = .ok (.iload_n 1, 1) := by decide +kernel
theorem dX11_own_50 : decode cX11_own 50 = .ok (.iload_n 2, 1) := by decide +kernel
theorem dX11_own_51 : decode cX11_own 51 = .ok (.iload_n 3, 1) := by decide +kernel
theorem dX11_own_52 : decode cX11_own 52 = .ok (.invokevirtual 292, 3) := by decide +kernel
theorem dX11_own_55 : decode cX11_own 55 = .ok (.iload 4, 2) := by decide +kernel
theorem dX11_own_57 : decode cX11_own 57 = .ok (.ifCond .ne 10, 3) := by decide +kernel
theorem dX11_own_60 : decode cX11_own 60 = .ok (.aload_n 0, 1) := by decide +kernel
theorem dX11_own_61 : decode cX11_own 61 = .ok (.getfield 286, 3) := by decide +kernel
theorem dX11_own_64 : decode cX11_own 64 = .ok (.goto 43, 3) := by decide +kernel
theorem dX11_own_67 : decode cX11_own 67 = .ok (.iload 4, 2) := by decide +kernel
theorem dX11_own_69 : decode cX11_own 69 = .ok (.iconst 1, 1) := by decide +kernel
theorem dX11_own_70 : decode cX11_own 70 = .ok (.if_icmp .ne 10, 3) := by decide +kernel
theorem dX11_own_73 : decode cX11_own 73 = .ok (.aload_n 0, 1) := by decide +kernel
theorem dX11_own_74 : decode cX11_own 74 = .ok (.getfield 289, 3) := by decide +kernel
theorem dX11_own_77 : decode cX11_own 77 = .ok (.goto 30, 3) := by decide +kernel
theorem dX11_own_80 : decode cX11_own 80 = .ok (.aload_n 0, 1) := by decide +kernel
theorem dX11_own_81 : decode cX11_own 81 = .ok (.iload_n 1, 1) := by decide +kernel
theorem dX11_own_82 : decode cX11_own 82 = .ok (.iload_n 2, 1) := by decide +kernel
theorem dX11_own_83 : decode cX11_own 83 = .ok (.iload 4, 2) := by decide +kernel
theorem dX11_own_85 : decode cX11_own 85 = .ok (.iconst 2, 1) := by decide +kernel
theorem dX11_own_86 : decode cX11_own 86 = .ok (.if_icmp .ne 7, 3) := by decide +kernel
theorem dX11_own_89 : decode cX11_own 89 = .ok (.iconst 0, 1) := by decide +kernel
theorem dX11_own_90 : decode cX11_own 90 = .ok (.goto 14, 3) := by decide +kernel
theorem dX11_own_93 : decode cX11_own 93 = .ok (.iload 4, 2) := by decide +kernel
theorem dX11_own_95 : decode cX11_own 95 = .ok (.iconst 3, 1) := by decide +kernel
theorem dX11_own_96 : decode cX11_own 96 = .ok (.if_icmp .ne 7, 3) := by decide +kernel
theorem dX11_own_99 : decode cX11_own 99 = .ok (.iconst 1, 1) := by decide +kernel
theorem dX11_own_100 : decode cX11_own 100 = .ok (.goto 4, 3) := by decide +kernel
theorem dX11_own_103 : decode cX11_own 103 = .ok (.iconst (-1), 1) := by decide +kernel
theorem dX11_own_104 : decode cX11_own 104 = .ok (.invokevirtual 296, 3) := by decide +kernel
theorem dX11_own_107 : decode cX11_own 107 = .ok (.ireturn, 1) := by decide +kernel
theorem dX11_lay_0 : decode cX11_lay 0 = .ok (.iload_n 1, 1) := by decide +kernel
theorem dX11_lay_1 : decode cX11_lay 1 = .ok (.ifCond .le 11, 3) := by decide +kernel
theorem dX11_lay_4 : decode cX11_lay 4 = .ok (.aload_n 0, 1) := by decide +kernel
theorem dX11_lay_5 : decode cX11_lay 5 = .ok (.aload_n 0, 1) := by decide +kernel
theorem dX11_lay_6 : decode cX11_lay 6 = .ok (.getfield 208, 3) := by decide +kernel
theorem dX11_lay_9 : decode cX11_lay 9 = .ok (.invokevirtual 257, 3) := by decide +kernel
theorem dX11_lay_12 : decode cX11_lay 12 = .ok (.iconst 0, 1) := by decide +kernel
theorem dX11_lay_13 : decode cX11_lay 13 = .ok (.istore_n 2, 1) := by decide +kernel
theorem dX11_lay_14 : decode cX11_lay 14 = .ok (.iload_n 2, 1) := by decide +kernel
theorem dX11_lay_15 : decode cX11_lay 15 = .ok (.iconst 4, 1) := by decide +kernel
theorem dX11_lay_16 : decode cX11_lay 16 = .ok (.if_icmp .ge 91, 3) := by decide +kernel
theorem dX11_lay_19 : decode cX11_lay 19 = .ok (.iconst 0, 1) := by decide +kernel
theorem dX11_lay_20 : decode cX11_lay 20 = .ok (.istore_n 3, 1) := by decide +kernel
theorem dX11_lay_21 : decode cX11_lay 21 = .ok (.iload_n 3, 1) := by decide +kernel
theorem dX11_lay_22 : decode cX11_lay 22 = .ok (.bipush 10, 2) := by decide +kernel
theorem dX11_lay_24 : decode cX11_lay 24 = .ok (.if_icmp .ge 77, 3) := by decide +kernel
theorem dX11_lay_27 : decode cX11_lay 27 = .ok (.iload_n 1, 1) := by decide +kernel
theorem dX11_lay_28 : decode cX11_lay 28 = .ok (.ifCond .le 13, 3) := by decide +kernel
theorem dX11_lay_31 : decode cX11_lay 31 = .ok (.aload_n 0, 1) := by decide +kernel
theorem dX11_lay_32 : decode cX11_lay 32 = .ok (.iload_n 2, 1) := by decide +kernel
theorem dX11_lay_33 : decode cX11_lay 33 = .ok (.iload_n 3, 1) := by decide +kernel
theorem dX11_lay_34 : decode cX11_lay 34 = .ok (.aload_n 0, 1) := by decide +kernel
theorem dX11_lay_35 : decode cX11_lay 35 = .ok (.getfield 208, 3) := by decide +kernel
theorem dX11_lay_38 : decode cX11_lay 38 = .ok (.invokevirtual 292, 3) := by decide +kernel
theorem dX11_lay_41 : decode cX11_lay 41 = .ok (.aload_n 0, 1) := by decide +kernel
theorem dX11_lay_42 : decode cX11_lay 42 = .ok (.getfield 105, 3) := by decide +kernel
theorem dX11_lay_45 : decode cX11_lay 45 = .ok (.bipush 10, 2) := by decide +kernel
theorem dX11_lay_47 : decode cX11_lay 47 = .ok (.iload_n 2, 1) := by decide +kernel
theorem dX11_lay_48 : decode cX11_lay 48 = .ok (.imul, 1) := by decide +kernel
theorem dX11_lay_49 : decode cX11_lay 49 = .ok (.iload_n 3, 1) := by decide +kernel
theorem dX11_lay_50 : decode cX11_lay 50 = .ok (.iadd, 1) := by decide +kernel
theorem dX11_lay_51 : decode cX11_lay 51 = .ok (.iload_n 1, 1) := by decide +kernel
theorem dX11_lay_52 : decode cX11_lay 52 = .ok (.ifCond .ne 17, 3) := by decide +kernel
theorem dX11_lay_55 : decode cX11_lay 55 = .ok (.aload_n 0, 1) := by decide +kernel
theorem dX11_lay_56 : decode cX11_lay 56 = .ok (.getfield 52, 3) := by decide +kernel
theorem dX11_lay_59 : decode cX11_lay 59 = .ok (.bipush 10, 2) := by decide +kernel
theorem dX11_lay_61 : decode cX11_lay 61 = .ok (.iload_n 2, 1) := by decide +kernel
theorem dX11_lay_62 : decode cX11_lay 62 = .ok (.imul, 1) := by decide +kernel
theorem dX11_lay_63 : decode cX11_lay 63 = .ok (.iload_n 3, 1) := by decide +kernel
theorem dX11_lay_64 : decode cX11_lay 64 = .ok (.iadd, 1) := by decide +kernel
theorem dX11_lay_65 : decode cX11_lay 65 = .ok (.iaload, 1) := by decide +kernel
theorem dX11_lay_66 : decode cX11_lay 66 = .ok (.goto 28, 3) := by decide +kernel
theorem dX11_lay_69 : decode cX11_lay 69 = .ok (.aload_n 0, 1) := by decide +kernel
theorem dX11_lay_70 : decode cX11_lay 70 = .ok (.iload_n 2, 1) := by decide +kernel
theorem dX11_lay_71 : decode cX11_lay 71 = .ok (.iload_n 3, 1) := by decide +kernel
theorem dX11_lay_72 : decode cX11_lay 72 = .ok (.iload_n 1, 1) := by decide +kernel
theorem dX11_lay_73 : decode cX11_lay 73 = .ok (.iconst 1, 1) := by decide +kernel
theorem dX11_lay_74 : decode cX11_lay 74 = .ok (.if_icmp .ne 7, 3) := by decide +kernel
theorem dX11_lay_77 : decode cX11_lay 77 = .ok (.iconst 0, 1) := by decide +kernel
theorem dX11_lay_78 : decode cX11_lay 78 = .ok (.goto 13, 3) := by decide +kernel
theorem dX11_lay_81 : decode cX11_lay 81 = .ok (.iload_n 1, 1) := by decide +kernel
theorem dX11_lay_82 : decode cX11_lay 82 = .ok (.iconst 2, 1) := by decide +kernel
theorem dX11_lay_83 : decode cX11_lay 83 = .ok (.if_icmp .ne 7, 3) := by decide +kernel
theorem dX11_lay_86 : decode cX11_lay 86 = .ok (.iconst 1, 1) := by decide +kernel
theorem dX11_lay_87 : decode cX11_lay 87 = .ok (.goto 4, 3) := by decide +kernel
theorem dX11_lay_90 : decode cX11_lay 90 = .ok (.iconst (-1), 1) := by decide +kernel
theorem dX11_lay_91 : decode cX11_lay 91 = .ok (.invokevirtual 296, 3) := by decide +kernel
theorem dX11_lay_94 : decode cX11_lay 94 = .ok (.iastore, 1) := by decide +kernel
theorem dX11_lay_95 : decode cX11_lay 95 = .ok (.iinc 3 1, 3) := by decide +kernel
theorem dX11_lay_98 : decode cX11_lay 98 = .ok (.goto (-77), 3) := by decide +kernel
theorem dX11_lay_101 : decode cX11_lay 101 = .ok (.iinc 2 1, 3) := by decide +kernel
theorem dX11_lay_104 : decode cX11_lay 104 = .ok (.goto (-90), 3) := by decide +kernel
theorem dX11_lay_107 : decode cX11_lay 107 = .ok (.return_, 1) := by decide +kernel
theorem dX11_liveOf_0 : decode cX11_liveOf 0 = .ok (.aload_n 0, 1) := by decide +kernel
theorem dX11_liveOf_1 : decode cX11_liveOf 1 = .ok (.getfield 105, 3) := by decide +kernel
theorem dX11_liveOf_4 : decode cX11_liveOf 4 = .ok (.bipush 10, 2) := by decide +kernel
theorem dX11_liveOf_6 : decode cX11_liveOf 6 = .ok (.aload_n 0, 1) := by decide +kernel
theorem dX11_liveOf_7 : decode cX11_liveOf 7 = .ok (.getfield 16, 3) := by decide +kernel
theorem dX11_liveOf_10 : decode cX11_liveOf 10 = .ok (.iload_n 1, 1) := by decide +kernel
theorem dX11_liveOf_11 : decode cX11_liveOf 11 = .ok (.iaload, 1) := by decide +kernel
theorem dX11_liveOf_12 : decode cX11_liveOf 12 = .ok (.imul, 1) := by decide +kernel
theorem dX11_liveOf_13 : decode cX11_liveOf 13 = .ok (.iload_n 2, 1) := by decide +kernel
theorem dX11_liveOf_14 : decode cX11_liveOf 14 = .ok (.invokestatic 299, 3) := by decide +kernel
theorem dX11_liveOf_17 : decode cX11_liveOf 17 = .ok (.iadd, 1) := by decide +kernel
theorem dX11_liveOf_18 : decode cX11_liveOf 18 = .ok (.iaload, 1) := by decide +kernel
theorem dX11_liveOf_19 : decode cX11_liveOf 19 = .ok (.ireturn, 1) := by decide +kernel
theorem dX11_yearBack_0 : decode cX11_yearBack 0 = .ok (.sipush 1000, 3) := by decide +kernel
theorem dX11_yearBack_3 : decode cX11_yearBack 3 = .ok (.iload_n 1, 1) := by decide +kernel
theorem dX11_yearBack_4 : decode cX11_yearBack 4 = .ok (.iadd, 1) := by decide +kernel
theorem dX11_yearBack_5 : decode cX11_yearBack 5 = .ok (.iload_n 2, 1) := by decide +kernel
theorem dX11_yearBack_6 : decode cX11_yearBack 6 = .ok (.imul, 1) := by decide +kernel
theorem dX11_yearBack_7 : decode cX11_yearBack 7 = .ok (.sipush 1000, 3) := by decide +kernel
theorem dX11_yearBack_10 : decode cX11_yearBack 10 = .ok (.idiv, 1) := by decide +kernel
theorem dX11_yearBack_11 : decode cX11_yearBack 11 = .ok (.aload_n 0, 1) := by decide +kernel
theorem dX11_yearBack_12 : decode cX11_yearBack 12 = .ok (.getfield 86, 3) := by decide +kernel
theorem dX11_yearBack_15 : decode cX11_yearBack 15 = .ok (.iconst 2, 1) := by decide +kernel
theorem dX11_yearBack_16 : decode cX11_yearBack 16 = .ok (.iaload, 1) := by decide +kernel
theorem dX11_yearBack_17 : decode cX11_yearBack 17 = .ok (.imul, 1) := by decide +kernel
theorem dX11_yearBack_18 : decode cX11_yearBack 18 = .ok (.aload_n 0, 1) := by decide +kernel
theorem dX11_yearBack_19 : decode cX11_yearBack 19 = .ok (.getfield 86, 3) := by decide +kernel
theorem dX11_yearBack_22 : decode cX11_yearBack 22 = .ok (.iconst 2, 1) := by decide +kernel
theorem dX11_yearBack_23 : decode cX11_yearBack 23 = .ok (.iaload, 1) := by decide +kernel
theorem dX11_yearBack_24 : decode cX11_yearBack 24 = .ok (.iconst 1, 1) := by decide +kernel
theorem dX11_yearBack_25 : decode cX11_yearBack 25 = .ok (.iadd, 1) := by decide +kernel
theorem dX11_yearBack_26 : decode cX11_yearBack 26 = .ok (.idiv, 1) := by decide +kernel
theorem dX11_yearBack_27 : decode cX11_yearBack 27 = .ok (.ireturn, 1) := by decide +kernel
theorem dX11_worthOf_0 : decode cX11_worthOf 0 = .ok (.iconst 0, 1) := by decide +kernel
theorem dX11_worthOf_1 : decode cX11_worthOf 1 = .ok (.istore_n 2, 1) := by decide +kernel
theorem dX11_worthOf_2 : decode cX11_worthOf 2 = .ok (.bipush 99, 2) := by decide +kernel
theorem dX11_worthOf_4 : decode cX11_worthOf 4 = .ok (.istore_n 3, 1) := by decide +kernel
theorem dX11_worthOf_5 : decode cX11_worthOf 5 = .ok (.iload_n 3, 1) := by decide +kernel
theorem dX11_worthOf_6 : decode cX11_worthOf 6 = .ok (.aload_n 0, 1) := by decide +kernel
theorem dX11_worthOf_7 : decode cX11_worthOf 7 = .ok (.iload_n 1, 1) := by decide +kernel
theorem dX11_worthOf_8 : decode cX11_worthOf 8 = .ok (.aload_n 0, 1) := by decide +kernel
theorem dX11_worthOf_9 : decode cX11_worthOf 9 = .ok (.getfield 208, 3) := by decide +kernel
theorem dX11_worthOf_12 : decode cX11_worthOf 12 = .ok (.invokevirtual 214, 3) := by decide +kernel
theorem dX11_worthOf_15 : decode cX11_worthOf 15 = .ok (.if_icmp .lt 21, 3) := by decide +kernel
theorem dX11_worthOf_18 : decode cX11_worthOf 18 = .ok (.aload_n 0, 1) := by decide +kernel
theorem dX11_worthOf_19 : decode cX11_worthOf 19 = .ok (.iload_n 2, 1) := by decide +kernel
theorem dX11_worthOf_20 : decode cX11_worthOf 20 = .ok (.aload_n 0, 1) := by decide +kernel
theorem dX11_worthOf_21 : decode cX11_worthOf 21 = .ok (.iload_n 1, 1) := by decide +kernel
theorem dX11_worthOf_22 : decode cX11_worthOf 22 = .ok (.iload_n 3, 1) := by decide +kernel
theorem dX11_worthOf_23 : decode cX11_worthOf 23 = .ok (.invokevirtual 302, 3) := by decide +kernel
theorem dX11_worthOf_26 : decode cX11_worthOf 26 = .ok (.invokevirtual 305, 3) := by decide +kernel
theorem dX11_worthOf_29 : decode cX11_worthOf 29 = .ok (.istore_n 2, 1) := by decide +kernel
theorem dX11_worthOf_30 : decode cX11_worthOf 30 = .ok (.iinc 3 (-1), 3) := by decide +kernel
theorem dX11_worthOf_33 : decode cX11_worthOf 33 = .ok (.goto (-28), 3) := by decide +kernel
theorem dX11_worthOf_36 : decode cX11_worthOf 36 = .ok (.iload_n 2, 1) := by decide +kernel
theorem dX11_worthOf_37 : decode cX11_worthOf 37 = .ok (.ireturn, 1) := by decide +kernel
theorem dX11_bothOf_0 : decode cX11_bothOf 0 = .ok (.aload_n 0, 1) := by decide +kernel
theorem dX11_bothOf_1 : decode cX11_bothOf 1 = .ok (.iload_n 1, 1) := by decide +kernel
theorem dX11_bothOf_2 : decode cX11_bothOf 2 = .ok (.aload_n 0, 1) := by decide +kernel
theorem dX11_bothOf_3 : decode cX11_bothOf 3 = .ok (.getfield 208, 3) := by decide +kernel
theorem dX11_bothOf_6 : decode cX11_bothOf 6 = .ok (.invokevirtual 214, 3) := by decide +kernel
theorem dX11_bothOf_9 : decode cX11_bothOf 9 = .ok (.istore_n 3, 1) := by decide +kernel
theorem dX11_bothOf_10 : decode cX11_bothOf 10 = .ok (.aload_n 0, 1) := by decide +kernel
theorem dX11_bothOf_11 : decode cX11_bothOf 11 = .ok (.iload_n 2, 1) := by decide +kernel
theorem dX11_bothOf_12 : decode cX11_bothOf 12 = .ok (.aload_n 0, 1) := by decide +kernel
theorem dX11_bothOf_13 : decode cX11_bothOf 13 = .ok (.getfield 208, 3) := by decide +kernel
theorem dX11_bothOf_16 : decode cX11_bothOf 16 = .ok (.invokevirtual 214, 3) := by decide +kernel
theorem dX11_bothOf_19 : decode cX11_bothOf 19 = .ok (.istore 4, 2) := by decide +kernel
theorem dX11_bothOf_21 : decode cX11_bothOf 21 = .ok (.iconst 0, 1) := by decide +kernel
theorem dX11_bothOf_22 : decode cX11_bothOf 22 = .ok (.istore 5, 2) := by decide +kernel
theorem dX11_bothOf_24 : decode cX11_bothOf 24 = .ok (.bipush 99, 2) := by decide +kernel
theorem dX11_bothOf_26 : decode cX11_bothOf 26 = .ok (.iload_n 3, 1) := by decide +kernel
theorem dX11_bothOf_27 : decode cX11_bothOf 27 = .ok (.iload 4, 2) := by decide +kernel
theorem dX11_bothOf_29 : decode cX11_bothOf 29 = .ok (.if_icmp .le 7, 3) := by decide +kernel
theorem dX11_bothOf_32 : decode cX11_bothOf 32 = .ok (.iload_n 3, 1) := by decide +kernel
theorem dX11_bothOf_33 : decode cX11_bothOf 33 = .ok (.goto 5, 3) := by decide +kernel
theorem dX11_bothOf_36 : decode cX11_bothOf 36 = .ok (.iload 4, 2) := by decide +kernel
theorem dX11_bothOf_38 : decode cX11_bothOf 38 = .ok (.isub, 1) := by decide +kernel
theorem dX11_bothOf_39 : decode cX11_bothOf 39 = .ok (.istore 6, 2) := by decide +kernel
theorem dX11_bothOf_41 : decode cX11_bothOf 41 = .ok (.iload 6, 2) := by decide +kernel
theorem dX11_bothOf_43 : decode cX11_bothOf 43 = .ok (.ifCond .lt 41, 3) := by decide +kernel
theorem dX11_bothOf_46 : decode cX11_bothOf 46 = .ok (.aload_n 0, 1) := by decide +kernel
theorem dX11_bothOf_47 : decode cX11_bothOf 47 = .ok (.iload 5, 2) := by decide +kernel
theorem dX11_bothOf_49 : decode cX11_bothOf 49 = .ok (.aload_n 0, 1) := by decide +kernel
theorem dX11_bothOf_50 : decode cX11_bothOf 50 = .ok (.iload_n 1, 1) := by decide +kernel
theorem dX11_bothOf_51 : decode cX11_bothOf 51 = .ok (.iload_n 3, 1) := by decide +kernel
theorem dX11_bothOf_52 : decode cX11_bothOf 52 = .ok (.iload 6, 2) := by decide +kernel
theorem dX11_bothOf_54 : decode cX11_bothOf 54 = .ok (.iadd, 1) := by decide +kernel
theorem dX11_bothOf_55 : decode cX11_bothOf 55 = .ok (.invokevirtual 302, 3) := by decide +kernel
theorem dX11_bothOf_58 : decode cX11_bothOf 58 = .ok (.aload_n 0, 1) := by decide +kernel
theorem dX11_bothOf_59 : decode cX11_bothOf 59 = .ok (.iload_n 2, 1) := by decide +kernel
theorem dX11_bothOf_60 : decode cX11_bothOf 60 = .ok (.iload 4, 2) := by decide +kernel
theorem dX11_bothOf_62 : decode cX11_bothOf 62 = .ok (.iload 6, 2) := by decide +kernel
theorem dX11_bothOf_64 : decode cX11_bothOf 64 = .ok (.iadd, 1) := by decide +kernel
theorem dX11_bothOf_65 : decode cX11_bothOf 65 = .ok (.invokevirtual 302, 3) := by decide +kernel
theorem dX11_bothOf_68 : decode cX11_bothOf 68 = .ok (.imul, 1) := by decide +kernel
theorem dX11_bothOf_69 : decode cX11_bothOf 69 = .ok (.sipush 1000, 3) := by decide +kernel
theorem dX11_bothOf_72 : decode cX11_bothOf 72 = .ok (.idiv, 1) := by decide +kernel
theorem dX11_bothOf_73 : decode cX11_bothOf 73 = .ok (.invokevirtual 305, 3) := by decide +kernel
theorem dX11_bothOf_76 : decode cX11_bothOf 76 = .ok (.istore 5, 2) := by decide +kernel
theorem dX11_bothOf_78 : decode cX11_bothOf 78 = .ok (.iinc 6 (-1), 3) := by decide +kernel
theorem dX11_bothOf_81 : decode cX11_bothOf 81 = .ok (.goto (-40), 3) := by decide +kernel
theorem dX11_bothOf_84 : decode cX11_bothOf 84 = .ok (.iload 5, 2) := by decide +kernel
theorem dX11_bothOf_86 : decode cX11_bothOf 86 = .ok (.ireturn, 1) := by decide +kernel
theorem dX11_worthOn_0 : decode cX11_worthOn 0 = .ok (.iload_n 1, 1) := by decide +kernel
theorem dX11_worthOn_1 : decode cX11_worthOn 1 = .ok (.iconst (-1), 1) := by decide +kernel
theorem dX11_worthOn_2 : decode cX11_worthOn 2 = .ok (.if_icmp .ne 18, 3) := by decide +kernel
theorem dX11_worthOn_5 : decode cX11_worthOn 5 = .ok (.iload_n 2, 1) := by decide +kernel
theorem dX11_worthOn_6 : decode cX11_worthOn 6 = .ok (.iconst (-1), 1) := by decide +kernel
theorem dX11_worthOn_7 : decode cX11_worthOn 7 = .ok (.if_icmp .ne 7, 3) := by decide +kernel
theorem dX11_worthOn_10 : decode cX11_worthOn 10 = .ok (.iconst 0, 1) := by decide +kernel
theorem dX11_worthOn_11 : decode cX11_worthOn 11 = .ok (.goto 8, 3) := by decide +kernel
theorem dX11_worthOn_14 : decode cX11_worthOn 14 = .ok (.aload_n 0, 1) := by decide +kernel
theorem dX11_worthOn_15 : decode cX11_worthOn 15 = .ok (.iload_n 2, 1) := by decide +kernel
theorem dX11_worthOn_16 : decode cX11_worthOn 16 = .ok (.invokevirtual 308, 3) := by decide +kernel
theorem dX11_worthOn_19 : decode cX11_worthOn 19 = .ok (.ireturn, 1) := by decide +kernel
theorem dX11_worthOn_20 : decode cX11_worthOn 20 = .ok (.iload_n 2, 1) := by decide +kernel
theorem dX11_worthOn_21 : decode cX11_worthOn 21 = .ok (.iconst (-1), 1) := by decide +kernel
theorem dX11_worthOn_22 : decode cX11_worthOn 22 = .ok (.if_icmp .ne 11, 3) := by decide +kernel
theorem dX11_worthOn_25 : decode cX11_worthOn 25 = .ok (.aload_n 0, 1) := by decide +kernel
theorem dX11_worthOn_26 : decode cX11_worthOn 26 = .ok (.iload_n 1, 1) := by decide +kernel
theorem dX11_worthOn_27 : decode cX11_worthOn 27 = .ok (.invokevirtual 308, 3) := by decide +kernel
theorem dX11_worthOn_30 : decode cX11_worthOn 30 = .ok (.goto 21, 3) := by decide +kernel
theorem dX11_worthOn_33 : decode cX11_worthOn 33 = .ok (.aload_n 0, 1) := by decide +kernel
theorem dX11_worthOn_34 : decode cX11_worthOn 34 = .ok (.iload_n 1, 1) := by decide +kernel
theorem dX11_worthOn_35 : decode cX11_worthOn 35 = .ok (.invokevirtual 308, 3) := by decide +kernel
theorem dX11_worthOn_38 : decode cX11_worthOn 38 = .ok (.aload_n 0, 1) := by decide +kernel
theorem dX11_worthOn_39 : decode cX11_worthOn 39 = .ok (.iload_n 2, 1) := by decide +kernel
theorem dX11_worthOn_40 : decode cX11_worthOn 40 = .ok (.invokevirtual 308, 3) := by decide +kernel
theorem dX11_worthOn_43 : decode cX11_worthOn 43 = .ok (.iadd, 1) := by decide +kernel
theorem dX11_worthOn_44 : decode cX11_worthOn 44 = .ok (.aload_n 0, 1) := by decide +kernel
theorem dX11_worthOn_45 : decode cX11_worthOn 45 = .ok (.iload_n 1, 1) := by decide +kernel
theorem dX11_worthOn_46 : decode cX11_worthOn 46 = .ok (.iload_n 2, 1) := by decide +kernel
theorem dX11_worthOn_47 : decode cX11_worthOn 47 = .ok (.invokevirtual 311, 3) := by decide +kernel
theorem dX11_worthOn_50 : decode cX11_worthOn 50 = .ok (.isub, 1) := by decide +kernel
theorem dX11_worthOn_51 : decode cX11_worthOn 51 = .ok (.ireturn, 1) := by decide +kernel
theorem dX11_worth_0 : decode cX11_worth 0 = .ok (.aload_n 0, 1) := by decide +kernel
theorem dX11_worth_1 : decode cX11_worth 1 = .ok (.iconst 0, 1) := by decide +kernel
theorem dX11_worth_2 : decode cX11_worth 2 = .ok (.putfield 129, 3) := by decide +kernel
theorem dX11_worth_5 : decode cX11_worth 5 = .ok (.aload_n 0, 1) := by decide +kernel
theorem dX11_worth_6 : decode cX11_worth 6 = .ok (.iload_n 1, 1) := by decide +kernel
theorem dX11_worth_7 : decode cX11_worth 7 = .ok (.invokevirtual 221, 3) := by decide +kernel
theorem dX11_worth_10 : decode cX11_worth 10 = .ok (.ifCond .eq 63, 3) := by decide +kernel
theorem dX11_worth_13 : decode cX11_worth 13 = .ok (.iload_n 2, 1) := by decide +kernel
theorem dX11_worth_14 : decode cX11_worth 14 = .ok (.iconst (-1), 1) := by decide +kernel
theorem dX11_worth_15 : decode cX11_worth 15 = .ok (.if_icmp .eq 16, 3) := by decide +kernel
theorem dX11_worth_18 : decode cX11_worth 18 = .ok (.aload_n 0, 1) := by decide +kernel
theorem dX11_worth_19 : decode cX11_worth 19 = .ok (.iload_n 2, 1) := by decide +kernel
theorem dX11_worth_20 : decode cX11_worth 20 = .ok (.invokevirtual 221, 3) := by decide +kernel
theorem dX11_worth_23 : decode cX11_worth 23 = .ok (.ifCond .eq 50, 3) := by decide +kernel
theorem dX11_worth_26 : decode cX11_worth 26 = .ok (.iload_n 1, 1) := by decide +kernel
theorem dX11_worth_27 : decode cX11_worth 27 = .ok (.iload_n 2, 1) := by decide +kernel
theorem dX11_worth_28 : decode cX11_worth 28 = .ok (.if_icmp .eq 45, 3) := by decide +kernel
theorem dX11_worth_31 : decode cX11_worth 31 = .ok (.iload_n 3, 1) := by decide +kernel
theorem dX11_worth_32 : decode cX11_worth 32 = .ok (.iconst 0, 1) := by decide +kernel
theorem dX11_worth_33 : decode cX11_worth 33 = .ok (.iconst 3, 1) := by decide +kernel
theorem dX11_worth_34 : decode cX11_worth 34 = .ok (.invokestatic 204, 3) := by decide +kernel
theorem dX11_worth_37 : decode cX11_worth 37 = .ok (.ifCond .eq 36, 3) := by decide +kernel
theorem dX11_worth_40 : decode cX11_worth 40 = .ok (.aload_n 0, 1) := by decide +kernel
theorem dX11_worth_41 : decode cX11_worth 41 = .ok (.iload_n 1, 1) := by decide +kernel
theorem dX11_worth_42 : decode cX11_worth 42 = .ok (.aload_n 0, 1) := by decide +kernel
theorem dX11_worth_43 : decode cX11_worth 43 = .ok (.getfield 208, 3) := by decide +kernel
theorem dX11_worth_46 : decode cX11_worth 46 = .ok (.invokevirtual 214, 3) := by decide +kernel
theorem dX11_worth_49 : decode cX11_worth 49 = .ok (.bipush 99, 2) := by decide +kernel
theorem dX11_worth_51 : decode cX11_worth 51 = .ok (.if_icmp .gt 22, 3) := by decide +kernel
theorem dX11_worth_54 : decode cX11_worth 54 = .ok (.iload_n 2, 1) := by decide +kernel
theorem dX11_worth_55 : decode cX11_worth 55 = .ok (.iconst (-1), 1) := by decide +kernel
theorem dX11_worth_56 : decode cX11_worth 56 = .ok (.if_icmp .eq 19, 3) := by decide +kernel
theorem dX11_worth_59 : decode cX11_worth 59 = .ok (.aload_n 0, 1) := by decide +kernel
theorem dX11_worth_60 : decode cX11_worth 60 = .ok (.iload_n 2, 1) := by decide +kernel
theorem dX11_worth_61 : decode cX11_worth 61 = .ok (.aload_n 0, 1) := by decide +kernel
theorem dX11_worth_62 : decode cX11_worth 62 = .ok (.getfield 208, 3) := by decide +kernel
theorem dX11_worth_65 : decode cX11_worth 65 = .ok (.invokevirtual 214, 3) := by decide +kernel
theorem dX11_worth_68 : decode cX11_worth 68 = .ok (.bipush 99, 2) := by decide +kernel
theorem dX11_worth_70 : decode cX11_worth 70 = .ok (.if_icmp .le 5, 3) := by decide +kernel
theorem dX11_worth_73 : decode cX11_worth 73 = .ok (.iconst (-1), 1) := by decide +kernel
theorem dX11_worth_74 : decode cX11_worth 74 = .ok (.ireturn, 1) := by decide +kernel
theorem dX11_worth_75 : decode cX11_worth 75 = .ok (.aload_n 0, 1) := by decide +kernel
theorem dX11_worth_76 : decode cX11_worth 76 = .ok (.iload_n 3, 1) := by decide +kernel
theorem dX11_worth_77 : decode cX11_worth 77 = .ok (.invokevirtual 314, 3) := by decide +kernel
theorem dX11_worth_80 : decode cX11_worth 80 = .ok (.aload_n 0, 1) := by decide +kernel
theorem dX11_worth_81 : decode cX11_worth 81 = .ok (.iload_n 1, 1) := by decide +kernel
theorem dX11_worth_82 : decode cX11_worth 82 = .ok (.iload_n 2, 1) := by decide +kernel
theorem dX11_worth_83 : decode cX11_worth 83 = .ok (.invokevirtual 317, 3) := by decide +kernel
theorem dX11_worth_86 : decode cX11_worth 86 = .ok (.ireturn, 1) := by decide +kernel
theorem dX11_names_0 : decode cX11_names 0 = .ok (.aload_n 0, 1) := by decide +kernel
theorem dX11_names_1 : decode cX11_names 1 = .ok (.iconst 0, 1) := by decide +kernel
theorem dX11_names_2 : decode cX11_names 2 = .ok (.putfield 129, 3) := by decide +kernel
theorem dX11_names_5 : decode cX11_names 5 = .ok (.iload_n 1, 1) := by decide +kernel
theorem dX11_names_6 : decode cX11_names 6 = .ok (.iconst 0, 1) := by decide +kernel
theorem dX11_names_7 : decode cX11_names 7 = .ok (.ldc_w 320, 3) := by decide +kernel
theorem dX11_names_10 : decode cX11_names 10 = .ok (.invokestatic 204, 3) := by decide +kernel
theorem dX11_names_13 : decode cX11_names 13 = .ok (.ifCond .ne 7, 3) := by decide +kernel
theorem dX11_names_16 : decode cX11_names 16 = .ok (.ldc_w 321, 3) := by decide +kernel
theorem dX11_names_19 : decode cX11_names 19 = .ok (.ireturn, 1) := by decide +kernel
theorem dX11_names_20 : decode cX11_names 20 = .ok (.aload_n 0, 1) := by decide +kernel
theorem dX11_names_21 : decode cX11_names 21 = .ok (.aload_n 0, 1) := by decide +kernel
theorem dX11_names_22 : decode cX11_names 22 = .ok (.getfield 208, 3) := by decide +kernel
theorem dX11_names_25 : decode cX11_names 25 = .ok (.invokevirtual 257, 3) := by decide +kernel
theorem dX11_names_28 : decode cX11_names 28 = .ok (.iconst 0, 1) := by decide +kernel
theorem dX11_names_29 : decode cX11_names 29 = .ok (.istore_n 2, 1) := by decide +kernel
theorem dX11_names_30 : decode cX11_names 30 = .ok (.iconst 1, 1) := by decide +kernel
theorem dX11_names_31 : decode cX11_names 31 = .ok (.istore_n 3, 1) := by decide +kernel
theorem dX11_names_32 : decode cX11_names 32 = .ok (.iconst 0, 1) := by decide +kernel
theorem dX11_names_33 : decode cX11_names 33 = .ok (.istore 4, 2) := by decide +kernel
theorem dX11_names_35 : decode cX11_names 35 = .ok (.iload 4, 2) := by decide +kernel
theorem dX11_names_37 : decode cX11_names 37 = .ok (.aload_n 0, 1) := by decide +kernel
theorem dX11_names_38 : decode cX11_names 38 = .ok (.getfield 211, 3) := by decide +kernel
theorem dX11_names_41 : decode cX11_names 41 = .ok (.if_icmp .ge 66, 3) := by decide +kernel
theorem dX11_names_44 : decode cX11_names 44 = .ok (.aload_n 0, 1) := by decide +kernel
theorem dX11_names_45 : decode cX11_names 45 = .ok (.getfield 96, 3) := by decide +kernel
theorem dX11_names_48 : decode cX11_names 48 = .ok (.iload 4, 2) := by decide +kernel
theorem dX11_names_50 : decode cX11_names 50 = .ok (.iaload, 1) := by decide +kernel
theorem dX11_names_51 : decode cX11_names 51 = .ok (.iconst (-1), 1) := by decide +kernel
theorem dX11_names_52 : decode cX11_names 52 = .ok (.if_icmp .ne 49, 3) := by decide +kernel
theorem dX11_names_55 : decode cX11_names 55 = .ok (.aload_n 0, 1) := by decide +kernel
theorem dX11_names_56 : decode cX11_names 56 = .ok (.iload 4, 2) := by decide +kernel
theorem dX11_names_58 : decode cX11_names 58 = .ok (.iconst (-1), 1) := by decide +kernel
theorem dX11_names_59 : decode cX11_names 59 = .ok (.invokevirtual 224, 3) := by decide +kernel
theorem dX11_names_62 : decode cX11_names 62 = .ok (.ifCond .ne 6, 3) := by decide +kernel
theorem dX11_names_65 : decode cX11_names 65 = .ok (.goto 36, 3) := by decide +kernel
theorem dX11_names_68 : decode cX11_names 68 = .ok (.aload_n 0, 1) := by decide +kernel
theorem dX11_names_69 : decode cX11_names 69 = .ok (.getfield 114, 3) := by decide +kernel
theorem dX11_names_72 : decode cX11_names 72 = .ok (.iload_n 2, 1) := by decide +kernel
theorem dX11_names_73 : decode cX11_names 73 = .ok (.iload 4, 2) := by decide +kernel
theorem dX11_names_75 : decode cX11_names 75 = .ok (.iastore, 1) := by decide +kernel
theorem dX11_names_76 : decode cX11_names 76 = .ok (.iinc 2 1, 3) := by decide +kernel
theorem dX11_names_79 : decode cX11_names 79 = .ok (.iload_n 3, 1) := by decide +kernel
theorem dX11_names_80 : decode cX11_names 80 = .ok (.sipush 5000, 3) := by decide +kernel
theorem dX11_names_83 : decode cX11_names 83 = .ok (.if_icmp .le 7, 3) := by decide +kernel
theorem dX11_names_86 : decode cX11_names 86 = .ok (.iload_n 3, 1) := by decide +kernel
theorem dX11_names_87 : decode cX11_names 87 = .ok (.goto 13, 3) := by decide +kernel
theorem dX11_names_90 : decode cX11_names 90 = .ok (.iload_n 3, 1) := by decide +kernel
theorem dX11_names_91 : decode cX11_names 91 = .ok (.aload_n 0, 1) := by decide +kernel
theorem dX11_names_92 : decode cX11_names 92 = .ok (.getfield 86, 3) := by decide +kernel
theorem dX11_names_95 : decode cX11_names 95 = .ok (.iconst 3, 1) := by decide +kernel
theorem dX11_names_96 : decode cX11_names 96 = .ok (.iaload, 1) := by decide +kernel
theorem dX11_names_97 : decode cX11_names 97 = .ok (.iconst 1, 1) := by decide +kernel
theorem dX11_names_98 : decode cX11_names 98 = .ok (.iadd, 1) := by decide +kernel
theorem dX11_names_99 : decode cX11_names 99 = .ok (.imul, 1) := by decide +kernel
theorem dX11_names_100 : decode cX11_names 100 = .ok (.istore_n 3, 1) := by decide +kernel
theorem dX11_names_101 : decode cX11_names 101 = .ok (.iinc 4 1, 3) := by decide +kernel
theorem dX11_names_104 : decode cX11_names 104 = .ok (.goto (-69), 3) := by decide +kernel
theorem dX11_names_107 : decode cX11_names 107 = .ok (.iload_n 3, 1) := by decide +kernel
theorem dX11_names_108 : decode cX11_names 108 = .ok (.sipush 5000, 3) := by decide +kernel
theorem dX11_names_111 : decode cX11_names 111 = .ok (.if_icmp .le 7, 3) := by decide +kernel
theorem dX11_names_114 : decode cX11_names 114 = .ok (.ldc_w 321, 3) := by decide +kernel
theorem dX11_names_117 : decode cX11_names 117 = .ok (.ireturn, 1) := by decide +kernel
theorem dX11_names_118 : decode cX11_names 118 = .ok (.aload_n 0, 1) := by decide +kernel
theorem dX11_names_119 : decode cX11_names 119 = .ok (.iconst 0, 1) := by decide +kernel
theorem dX11_names_120 : decode cX11_names 120 = .ok (.invokevirtual 314, 3) := by decide +kernel
theorem dX11_names_123 : decode cX11_names 123 = .ok (.iconst 0, 1) := by decide +kernel
theorem dX11_names_124 : decode cX11_names 124 = .ok (.istore 4, 2) := by decide +kernel
theorem dX11_names_126 : decode cX11_names 126 = .ok (.iload 4, 2) := by decide +kernel
theorem dX11_names_128 : decode cX11_names 128 = .ok (.iload_n 2, 1) := by decide +kernel
theorem dX11_names_129 : decode cX11_names 129 = .ok (.if_icmp .ge 60, 3) := by decide +kernel
theorem dX11_names_132 : decode cX11_names 132 = .ok (.aload_n 0, 1) := by decide +kernel
theorem dX11_names_133 : decode cX11_names 133 = .ok (.getfield 120, 3) := by decide +kernel
theorem dX11_names_136 : decode cX11_names 136 = .ok (.iload 4, 2) := by decide +kernel
theorem dX11_names_138 : decode cX11_names 138 = .ok (.aload_n 0, 1) := by decide +kernel
theorem dX11_names_139 : decode cX11_names 139 = .ok (.aload_n 0, 1) := by decide +kernel
theorem dX11_names_140 : decode cX11_names 140 = .ok (.getfield 114, 3) := by decide +kernel
theorem dX11_names_143 : decode cX11_names 143 = .ok (.iload 4, 2) := by decide +kernel
theorem dX11_names_145 : decode cX11_names 145 = .ok (.iaload, 1) := by decide +kernel
theorem dX11_names_146 : decode cX11_names 146 = .ok (.iconst (-1), 1) := by decide +kernel
theorem dX11_names_147 : decode cX11_names 147 = .ok (.invokevirtual 227, 3) := by decide +kernel
theorem dX11_names_150 : decode cX11_names 150 = .ok (.iastore, 1) := by decide +kernel
theorem dX11_names_151 : decode cX11_names 151 = .ok (.aload_n 0, 1) := by decide +kernel
theorem dX11_names_152 : decode cX11_names 152 = .ok (.getfield 117, 3) := by decide +kernel
theorem dX11_names_155 : decode cX11_names 155 = .ok (.iload 4, 2) := by decide +kernel
theorem dX11_names_157 : decode cX11_names 157 = .ok (.iconst 2, 1) := by decide +kernel
theorem dX11_names_158 : decode cX11_names 158 = .ok (.aload_n 0, 1) := by decide +kernel
theorem dX11_names_159 : decode cX11_names 159 = .ok (.aload_n 0, 1) := by decide +kernel
theorem dX11_names_160 : decode cX11_names 160 = .ok (.getfield 114, 3) := by decide +kernel
theorem dX11_names_163 : decode cX11_names 163 = .ok (.iload 4, 2) := by decide +kernel
theorem dX11_names_165 : decode cX11_names 165 = .ok (.iaload, 1) := by decide +kernel
theorem dX11_names_166 : decode cX11_names 166 = .ok (.invokevirtual 308, 3) := by decide +kernel
theorem dX11_names_169 : decode cX11_names 169 = .ok (.imul, 1) := by decide +kernel
theorem dX11_names_170 : decode cX11_names 170 = .ok (.sipush 1000, 3) := by decide +kernel
theorem dX11_names_173 : decode cX11_names 173 = .ok (.aload_n 0, 1) := by decide +kernel
theorem dX11_names_174 : decode cX11_names 174 = .ok (.getfield 120, 3) := by decide +kernel
theorem dX11_names_177 : decode cX11_names 177 = .ok (.iload 4, 2) := by decide +kernel
theorem dX11_names_179 : decode cX11_names 179 = .ok (.iaload, 1) := by decide +kernel
theorem dX11_names_180 : decode cX11_names 180 = .ok (.imul, 1) := by decide +kernel
theorem dX11_names_181 : decode cX11_names 181 = .ok (.isub, 1) := by decide +kernel
theorem dX11_names_182 : decode cX11_names 182 = .ok (.iastore, 1) := by decide +kernel
theorem dX11_names_183 : decode cX11_names 183 = .ok (.iinc 4 1, 3) := by decide +kernel
theorem dX11_names_186 : decode cX11_names 186 = .ok (.goto (-60), 3) := by decide +kernel
theorem dX11_names_189 : decode cX11_names 189 = .ok (.iconst 0, 1) := by decide +kernel
theorem dX11_names_190 : decode cX11_names 190 = .ok (.istore 4, 2) := by decide +kernel
theorem dX11_names_192 : decode cX11_names 192 = .ok (.iconst 0, 1) := by decide +kernel
theorem dX11_names_193 : decode cX11_names 193 = .ok (.istore 5, 2) := by decide +kernel
theorem dX11_names_195 : decode cX11_names 195 = .ok (.iconst 0, 1) := by decide +kernel
theorem dX11_names_196 : decode cX11_names 196 = .ok (.istore 6, 2) := by decide +kernel
theorem dX11_names_198 : decode cX11_names 198 = .ok (.iconst 0, 1) := by decide +kernel
theorem dX11_names_199 : decode cX11_names 199 = .ok (.istore 7, 2) := by decide +kernel
theorem dX11_names_201 : decode cX11_names 201 = .ok (.iload 7, 2) := by decide +kernel
theorem dX11_names_203 : decode cX11_names 203 = .ok (.iload_n 3, 1) := by decide +kernel
theorem dX11_names_204 : decode cX11_names 204 = .ok (.if_icmp .ge 210, 3) := by decide +kernel
theorem dX11_names_207 : decode cX11_names 207 = .ok (.iload 7, 2) := by decide +kernel
theorem dX11_names_209 : decode cX11_names 209 = .ok (.istore 8, 2) := by decide +kernel
theorem dX11_names_211 : decode cX11_names 211 = .ok (.iconst 0, 1) := by decide +kernel
theorem dX11_names_212 : decode cX11_names 212 = .ok (.istore 9, 2) := by decide +kernel
theorem dX11_names_214 : decode cX11_names 214 = .ok (.iconst 0, 1) := by decide +kernel
theorem dX11_names_215 : decode cX11_names 215 = .ok (.istore 10, 2) := by decide +kernel
theorem dX11_names_217 : decode cX11_names 217 = .ok (.iload_n 2, 1) := by decide +kernel
theorem dX11_names_218 : decode cX11_names 218 = .ok (.iconst 1, 1) := by decide +kernel
theorem dX11_names_219 : decode cX11_names 219 = .ok (.isub, 1) := by decide +kernel
theorem dX11_names_220 : decode cX11_names 220 = .ok (.istore 11, 2) := by decide +kernel
theorem dX11_names_222 : decode cX11_names 222 = .ok (.iload 11, 2) := by decide +kernel
theorem dX11_names_224 : decode cX11_names 224 = .ok (.ifCond .lt 80, 3) := by decide +kernel
theorem dX11_names_227 : decode cX11_names 227 = .ok (.aload_n 0, 1) := by decide +kernel
theorem dX11_names_228 : decode cX11_names 228 = .ok (.getfield 111, 3) := by decide +kernel
theorem dX11_names_231 : decode cX11_names 231 = .ok (.iload 11, 2) := by decide +kernel
theorem dX11_names_233 : decode cX11_names 233 = .ok (.iload 8, 2) := by decide +kernel
theorem dX11_names_235 : decode cX11_names 235 = .ok (.aload_n 0, 1) := by decide +kernel
theorem dX11_names_236 : decode cX11_names 236 = .ok (.getfield 86, 3) := by decide +kernel
theorem dX11_names_239 : decode cX11_names 239 = .ok (.iconst 3, 1) := by decide +kernel
theorem dX11_names_240 : decode cX11_names 240 = .ok (.iaload, 1) := by decide +kernel
theorem dX11_names_241 : decode cX11_names 241 = .ok (.iconst 1, 1) := by decide +kernel
theorem dX11_names_242 : decode cX11_names 242 = .ok (.iadd, 1) := by decide +kernel
theorem dX11_names_243 : decode cX11_names 243 = .ok (.irem, 1) := by decide +kernel
theorem dX11_names_244 : decode cX11_names 244 = .ok (.iastore, 1) := by decide +kernel
theorem dX11_names_245 : decode cX11_names 245 = .ok (.iload 8, 2) := by decide +kernel
theorem dX11_names_247 : decode cX11_names 247 = .ok (.aload_n 0, 1) := by decide +kernel
theorem dX11_names_248 : decode cX11_names 248 = .ok (.getfield 86, 3) := by decide +kernel
theorem dX11_names_251 : decode cX11_names 251 = .ok (.iconst 3, 1) := by decide +kernel
theorem dX11_names_252 : decode cX11_names 252 = .ok (.iaload, 1) := by decide +kernel
theorem dX11_names_253 : decode cX11_names 253 = .ok (.iconst 1, 1) := by decide +kernel
theorem dX11_names_254 : decode cX11_names 254 = .ok (.iadd, 1) := by decide +kernel
theorem dX11_names_255 : decode cX11_names 255 = .ok (.idiv, 1) := by decide +kernel
theorem dX11_names_256 : decode cX11_names 256 = .ok (.istore 8, 2) := by decide +kernel
theorem dX11_names_258 : decode cX11_names 258 = .ok (.iload 9, 2) := by decide +kernel
theorem dX11_names_260 : decode cX11_names 260 = .ok (.aload_n 0, 1) := by decide +kernel
theorem dX11_names_261 : decode cX11_names 261 = .ok (.getfield 111, 3) := by decide +kernel
theorem dX11_names_264 : decode cX11_names 264 = .ok (.iload 11, 2) := by decide +kernel
theorem dX11_names_266 : decode cX11_names 266 = .ok (.iaload, 1) := by decide +kernel
theorem dX11_names_267 : decode cX11_names 267 = .ok (.aload_n 0, 1) := by decide +kernel
theorem dX11_names_268 : decode cX11_names 268 = .ok (.getfield 117, 3) := by decide +kernel
theorem dX11_names_271 : decode cX11_names 271 = .ok (.iload 11, 2) := by decide +kernel
theorem dX11_names_273 : decode cX11_names 273 = .ok (.iaload, 1) := by decide +kernel
theorem dX11_names_274 : decode cX11_names 274 = .ok (.imul, 1) := by decide +kernel
theorem dX11_names_275 : decode cX11_names 275 = .ok (.iadd, 1) := by decide +kernel
theorem dX11_names_276 : decode cX11_names 276 = .ok (.istore 9, 2) := by decide +kernel
theorem dX11_names_278 : decode cX11_names 278 = .ok (.iload 10, 2) := by decide +kernel
theorem dX11_names_280 : decode cX11_names 280 = .ok (.aload_n 0, 1) := by decide +kernel
theorem dX11_names_281 : decode cX11_names 281 = .ok (.getfield 111, 3) := by decide +kernel
theorem dX11_names_284 : decode cX11_names 284 = .ok (.iload 11, 2) := by decide +kernel
theorem dX11_names_286 : decode cX11_names 286 = .ok (.iaload, 1) := by decide +kernel
theorem dX11_names_287 : decode cX11_names 287 = .ok (.aload_n 0, 1) := by decide +kernel
theorem dX11_names_288 : decode cX11_names 288 = .ok (.getfield 120, 3) := by decide +kernel
theorem dX11_names_291 : decode cX11_names 291 = .ok (.iload 11, 2) := by decide +kernel
theorem dX11_names_293 : decode cX11_names 293 = .ok (.iaload, 1) := by decide +kernel
theorem dX11_names_294 : decode cX11_names 294 = .ok (.imul, 1) := by decide +kernel
theorem dX11_names_295 : decode cX11_names 295 = .ok (.iadd, 1) := by decide +kernel
theorem dX11_names_296 : decode cX11_names 296 = .ok (.istore 10, 2) := by decide +kernel
theorem dX11_names_298 : decode cX11_names 298 = .ok (.iinc 11 (-1), 3) := by decide +kernel
theorem dX11_names_301 : decode cX11_names 301 = .ok (.goto (-79), 3) := by decide +kernel
theorem dX11_names_304 : decode cX11_names 304 = .ok (.iload 10, 2) := by decide +kernel
theorem dX11_names_306 : decode cX11_names 306 = .ok (.iload_n 1, 1) := by decide +kernel
theorem dX11_names_307 : decode cX11_names 307 = .ok (.if_icmp .gt 101, 3) := by decide +kernel
theorem dX11_names_310 : decode cX11_names 310 = .ok (.iload 4, 2) := by decide +kernel
theorem dX11_names_312 : decode cX11_names 312 = .ok (.ifCond .eq 27, 3) := by decide +kernel
theorem dX11_names_315 : decode cX11_names 315 = .ok (.iload 9, 2) := by decide +kernel
theorem dX11_names_317 : decode cX11_names 317 = .ok (.iload 5, 2) := by decide +kernel
theorem dX11_names_319 : decode cX11_names 319 = .ok (.if_icmp .lt 89, 3) := by decide +kernel
theorem dX11_names_322 : decode cX11_names 322 = .ok (.iload 9, 2) := by decide +kernel
theorem dX11_names_324 : decode cX11_names 324 = .ok (.iload 5, 2) := by decide +kernel
theorem dX11_names_326 : decode cX11_names 326 = .ok (.if_icmp .ne 13, 3) := by decide +kernel
theorem dX11_names_329 : decode cX11_names 329 = .ok (.iload 10, 2) := by decide +kernel
theorem dX11_names_331 : decode cX11_names 331 = .ok (.iload 6, 2) := by decide +kernel
theorem dX11_names_333 : decode cX11_names 333 = .ok (.if_icmp .lt 6, 3) := by decide +kernel
theorem dX11_names_336 : decode cX11_names 336 = .ok (.goto 72, 3) := by decide +kernel
theorem dX11_names_339 : decode cX11_names 339 = .ok (.iconst 1, 1) := by decide +kernel
theorem dX11_names_340 : decode cX11_names 340 = .ok (.istore 4, 2) := by decide +kernel
theorem dX11_names_342 : decode cX11_names 342 = .ok (.iload 9, 2) := by decide +kernel
theorem dX11_names_344 : decode cX11_names 344 = .ok (.istore 5, 2) := by decide +kernel
theorem dX11_names_346 : decode cX11_names 346 = .ok (.iload 10, 2) := by decide +kernel
theorem dX11_names_348 : decode cX11_names 348 = .ok (.istore 6, 2) := by decide +kernel
theorem dX11_names_350 : decode cX11_names 350 = .ok (.iconst 0, 1) := by decide +kernel
theorem dX11_names_351 : decode cX11_names 351 = .ok (.istore 11, 2) := by decide +kernel
theorem dX11_names_353 : decode cX11_names 353 = .ok (.iload 11, 2) := by decide +kernel
theorem dX11_names_355 : decode cX11_names 355 = .ok (.bipush 12, 2) := by decide +kernel
theorem dX11_names_357 : decode cX11_names 357 = .ok (.if_icmp .ge 17, 3) := by decide +kernel
theorem dX11_names_360 : decode cX11_names 360 = .ok (.aload_n 0, 1) := by decide +kernel
theorem dX11_names_361 : decode cX11_names 361 = .ok (.getfield 108, 3) := by decide +kernel
theorem dX11_names_364 : decode cX11_names 364 = .ok (.iload 11, 2) := by decide +kernel
theorem dX11_names_366 : decode cX11_names 366 = .ok (.iconst 0, 1) := by decide +kernel
theorem dX11_names_367 : decode cX11_names 367 = .ok (.iastore, 1) := by decide +kernel
theorem dX11_names_368 : decode cX11_names 368 = .ok (.iinc 11 1, 3) := by decide +kernel
theorem dX11_names_371 : decode cX11_names 371 = .ok (.goto (-18), 3) := by decide +kernel
theorem dX11_names_374 : decode cX11_names 374 = .ok (.iconst 0, 1) := by decide +kernel
theorem dX11_names_375 : decode cX11_names 375 = .ok (.istore 11, 2) := by decide +kernel
theorem dX11_names_377 : decode cX11_names 377 = .ok (.iload 11, 2) := by decide +kernel
theorem dX11_names_379 : decode cX11_names 379 = .ok (.iload_n 2, 1) := by decide +kernel
theorem dX11_names_380 : decode cX11_names 380 = .ok (.if_icmp .ge 28, 3) := by decide +kernel
theorem dX11_names_383 : decode cX11_names 383 = .ok (.aload_n 0, 1) := by decide +kernel
theorem dX11_names_384 : decode cX11_names 384 = .ok (.getfield 108, 3) := by decide +kernel
theorem dX11_names_387 : decode cX11_names 387 = .ok (.aload_n 0, 1) := by decide +kernel
theorem dX11_names_388 : decode cX11_names 388 = .ok (.getfield 114, 3) := by decide +kernel
theorem dX11_names_391 : decode cX11_names 391 = .ok (.iload 11, 2) := by decide +kernel
theorem dX11_names_393 : decode cX11_names 393 = .ok (.iaload, 1) := by decide +kernel
theorem dX11_names_394 : decode cX11_names 394 = .ok (.aload_n 0, 1) := by decide +kernel
theorem dX11_names_395 : decode cX11_names 395 = .ok (.getfield 111, 3) := by decide +kernel
theorem dX11_names_398 : decode cX11_names 398 = .ok (.iload 11, 2) := by decide +kernel
theorem dX11_names_400 : decode cX11_names 400 = .ok (.iaload, 1) := by decide +kernel
theorem dX11_names_401 : decode cX11_names 401 = .ok (.iastore, 1) := by decide +kernel
theorem dX11_names_402 : decode cX11_names 402 = .ok (.iinc 11 1, 3) := by decide +kernel
theorem dX11_names_405 : decode cX11_names 405 = .ok (.goto (-28), 3) := by decide +kernel
theorem dX11_names_408 : decode cX11_names 408 = .ok (.iinc 7 1, 3) := by decide +kernel
theorem dX11_names_411 : decode cX11_names 411 = .ok (.goto (-210), 3) := by decide +kernel
theorem dX11_names_414 : decode cX11_names 414 = .ok (.aload_n 0, 1) := by decide +kernel
theorem dX11_names_415 : decode cX11_names 415 = .ok (.iconst 1, 1) := by decide +kernel
theorem dX11_names_416 : decode cX11_names 416 = .ok (.putfield 322, 3) := by decide +kernel
theorem dX11_names_419 : decode cX11_names 419 = .ok (.iload 5, 2) := by decide +kernel
theorem dX11_names_421 : decode cX11_names 421 = .ok (.ireturn, 1) := by decide +kernel
theorem dX11_named_0 : decode cX11_named 0 = .ok (.aload_n 0, 1) := by decide +kernel
theorem dX11_named_1 : decode cX11_named 1 = .ok (.iconst 0, 1) := by decide +kernel
theorem dX11_named_2 : decode cX11_named 2 = .ok (.putfield 129, 3) := by decide +kernel
theorem dX11_named_5 : decode cX11_named 5 = .ok (.aload_n 0, 1) := by decide +kernel
theorem dX11_named_6 : decode cX11_named 6 = .ok (.getfield 322, 3) := by decide +kernel
theorem dX11_named_9 : decode cX11_named 9 = .ok (.ifCond .eq 20, 3) := by decide +kernel
theorem dX11_named_12 : decode cX11_named 12 = .ok (.aload_n 0, 1) := by decide +kernel
theorem dX11_named_13 : decode cX11_named 13 = .ok (.iload_n 1, 1) := by decide +kernel
theorem dX11_named_14 : decode cX11_named 14 = .ok (.invokevirtual 221, 3) := by decide +kernel
theorem dX11_named_17 : decode cX11_named 17 = .ok (.ifCond .eq 12, 3) := by decide +kernel
theorem dX11_named_20 : decode cX11_named 20 = .ok (.aload_n 0, 1) := by decide +kernel
theorem dX11_named_21 : decode cX11_named 21 = .ok (.getfield 108, 3) := by decide +kernel
theorem dX11_named_24 : decode cX11_named 24 = .ok (.iload_n 1, 1) := by decide +kernel
theorem dX11_named_25 : decode cX11_named 25 = .ok (.iaload, 1) := by decide +kernel
theorem dX11_named_26 : decode cX11_named 26 = .ok (.goto 4, 3) := by decide +kernel
theorem dX11_named_29 : decode cX11_named 29 = .ok (.iconst (-1), 1) := by decide +kernel
theorem dX11_named_30 : decode cX11_named 30 = .ok (.ireturn, 1) := by decide +kernel
theorem dX11_riskOf_0 : decode cX11_riskOf 0 = .ok (.iconst 0, 1) := by decide +kernel
theorem dX11_riskOf_1 : decode cX11_riskOf 1 = .ok (.istore_n 2, 1) := by decide +kernel
theorem dX11_riskOf_2 : decode cX11_riskOf 2 = .ok (.iconst (-1), 1) := by decide +kernel
theorem dX11_riskOf_3 : decode cX11_riskOf 3 = .ok (.istore_n 3, 1) := by decide +kernel
theorem dX11_riskOf_4 : decode cX11_riskOf 4 = .ok (.iconst 0, 1) := by decide +kernel
theorem dX11_riskOf_5 : decode cX11_riskOf 5 = .ok (.istore 4, 2) := by decide +kernel
theorem dX11_riskOf_7 : decode cX11_riskOf 7 = .ok (.iload 4, 2) := by decide +kernel
theorem dX11_riskOf_9 : decode cX11_riskOf 9 = .ok (.aload_n 0, 1) := by decide +kernel
theorem dX11_riskOf_10 : decode cX11_riskOf 10 = .ok (.getfield 233, 3) := by decide +kernel
theorem dX11_riskOf_13 : decode cX11_riskOf 13 = .ok (.if_icmp .ge 57, 3) := by decide +kernel
theorem dX11_riskOf_16 : decode cX11_riskOf 16 = .ok (.aload_n 0, 1) := by decide +kernel
theorem dX11_riskOf_17 : decode cX11_riskOf 17 = .ok (.getfield 25, 3) := by decide +kernel
theorem dX11_riskOf_20 : decode cX11_riskOf 20 = .ok (.iload 4, 2) := by decide +kernel
theorem dX11_riskOf_22 : decode cX11_riskOf 22 = .ok (.iaload, 1) := by decide +kernel
theorem dX11_riskOf_23 : decode cX11_riskOf 23 = .ok (.iload_n 1, 1) := by decide +kernel
theorem dX11_riskOf_24 : decode cX11_riskOf 24 = .ok (.if_icmp .ne 40, 3) := by decide +kernel
theorem dX11_riskOf_27 : decode cX11_riskOf 27 = .ok (.aload_n 0, 1) := by decide +kernel
theorem dX11_riskOf_28 : decode cX11_riskOf 28 = .ok (.getfield 28, 3) := by decide +kernel
theorem dX11_riskOf_31 : decode cX11_riskOf 31 = .ok (.iload 4, 2) := by decide +kernel
theorem dX11_riskOf_33 : decode cX11_riskOf 33 = .ok (.iaload, 1) := by decide +kernel
theorem dX11_riskOf_34 : decode cX11_riskOf 34 = .ok (.iconst (-1), 1) := by decide +kernel
theorem dX11_riskOf_35 : decode cX11_riskOf 35 = .ok (.if_icmp .eq 6, 3) := by decide +kernel
theorem dX11_riskOf_38 : decode cX11_riskOf 38 = .ok (.goto 26, 3) := by decide +kernel
theorem dX11_riskOf_41 : decode cX11_riskOf 41 = .ok (.iload_n 2, 1) := by decide +kernel
theorem dX11_riskOf_42 : decode cX11_riskOf 42 = .ok (.aload_n 0, 1) := by decide +kernel
theorem dX11_riskOf_43 : decode cX11_riskOf 43 = .ok (.getfield 31, 3) := by decide +kernel
theorem dX11_riskOf_46 : decode cX11_riskOf 46 = .ok (.iload 4, 2) := by decide +kernel
theorem dX11_riskOf_48 : decode cX11_riskOf 48 = .ok (.iaload, 1) := by decide +kernel
theorem dX11_riskOf_49 : decode cX11_riskOf 49 = .ok (.iadd, 1) := by decide +kernel
theorem dX11_riskOf_50 : decode cX11_riskOf 50 = .ok (.istore_n 2, 1) := by decide +kernel
theorem dX11_riskOf_51 : decode cX11_riskOf 51 = .ok (.iload_n 3, 1) := by decide +kernel
theorem dX11_riskOf_52 : decode cX11_riskOf 52 = .ok (.iconst (-1), 1) := by decide +kernel
theorem dX11_riskOf_53 : decode cX11_riskOf 53 = .ok (.if_icmp .ne 11, 3) := by decide +kernel
theorem dX11_riskOf_56 : decode cX11_riskOf 56 = .ok (.aload_n 0, 1) := by decide +kernel
theorem dX11_riskOf_57 : decode cX11_riskOf 57 = .ok (.getfield 19, 3) := by decide +kernel
theorem dX11_riskOf_60 : decode cX11_riskOf 60 = .ok (.iload 4, 2) := by decide +kernel
theorem dX11_riskOf_62 : decode cX11_riskOf 62 = .ok (.iaload, 1) := by decide +kernel
theorem dX11_riskOf_63 : decode cX11_riskOf 63 = .ok (.istore_n 3, 1) := by decide +kernel
theorem dX11_riskOf_64 : decode cX11_riskOf 64 = .ok (.iinc 4 1, 3) := by decide +kernel
theorem dX11_riskOf_67 : decode cX11_riskOf 67 = .ok (.goto (-60), 3) := by decide +kernel
theorem dX11_riskOf_70 : decode cX11_riskOf 70 = .ok (.iload_n 2, 1) := by decide +kernel
theorem dX11_riskOf_71 : decode cX11_riskOf 71 = .ok (.ifCond .ne 5, 3) := by decide +kernel
theorem dX11_riskOf_74 : decode cX11_riskOf 74 = .ok (.lconst 0, 1) := by decide +kernel
theorem dX11_riskOf_75 : decode cX11_riskOf 75 = .ok (.lreturn, 1) := by decide +kernel
theorem dX11_riskOf_76 : decode cX11_riskOf 76 = .ok (.iconst (-1), 1) := by decide +kernel
theorem dX11_riskOf_77 : decode cX11_riskOf 77 = .ok (.istore 4, 2) := by decide +kernel
theorem dX11_riskOf_79 : decode cX11_riskOf 79 = .ok (.iconst 0, 1) := by decide +kernel
theorem dX11_riskOf_80 : decode cX11_riskOf 80 = .ok (.istore 5, 2) := by decide +kernel
theorem dX11_riskOf_82 : decode cX11_riskOf 82 = .ok (.iload 5, 2) := by decide +kernel
theorem dX11_riskOf_84 : decode cX11_riskOf 84 = .ok (.aload_n 0, 1) := by decide +kernel
theorem dX11_riskOf_85 : decode cX11_riskOf 85 = .ok (.getfield 252, 3) := by decide +kernel
theorem dX11_riskOf_88 : decode cX11_riskOf 88 = .ok (.if_icmp .ge 70, 3) := by decide +kernel
theorem dX11_riskOf_91 : decode cX11_riskOf 91 = .ok (.aload_n 0, 1) := by decide +kernel
theorem dX11_riskOf_92 : decode cX11_riskOf 92 = .ok (.getfield 40, 3) := by decide +kernel
theorem dX11_riskOf_95 : decode cX11_riskOf 95 = .ok (.iload 5, 2) := by decide +kernel
theorem dX11_riskOf_97 : decode cX11_riskOf 97 = .ok (.iaload, 1) := by decide +kernel
theorem dX11_riskOf_98 : decode cX11_riskOf 98 = .ok (.ifCond .ne 54, 3) := by decide +kernel
theorem dX11_riskOf_101 : decode cX11_riskOf 101 = .ok (.aload_n 0, 1) := by decide +kernel
theorem dX11_riskOf_102 : decode cX11_riskOf 102 = .ok (.getfield 93, 3) := by decide +kernel
theorem dX11_riskOf_105 : decode cX11_riskOf 105 = .ok (.iload 5, 2) := by decide +kernel
theorem dX11_riskOf_107 : decode cX11_riskOf 107 = .ok (.baload, 1) := by decide +kernel
theorem dX11_riskOf_108 : decode cX11_riskOf 108 = .ok (.ifCond .eq 44, 3) := by decide +kernel
theorem dX11_riskOf_111 : decode cX11_riskOf 111 = .ok (.aload_n 0, 1) := by decide +kernel
theorem dX11_riskOf_112 : decode cX11_riskOf 112 = .ok (.getfield 43, 3) := by decide +kernel
theorem dX11_riskOf_115 : decode cX11_riskOf 115 = .ok (.iload 5, 2) := by decide +kernel
theorem dX11_riskOf_117 : decode cX11_riskOf 117 = .ok (.iaload, 1) := by decide +kernel
theorem dX11_riskOf_118 : decode cX11_riskOf 118 = .ok (.iload_n 1, 1) := by decide +kernel
theorem dX11_riskOf_119 : decode cX11_riskOf 119 = .ok (.if_icmp .ne 33, 3) := by decide +kernel
theorem dX11_riskOf_122 : decode cX11_riskOf 122 = .ok (.aload_n 0, 1) := by decide +kernel
theorem dX11_riskOf_123 : decode cX11_riskOf 123 = .ok (.iload 5, 2) := by decide +kernel
theorem dX11_riskOf_125 : decode cX11_riskOf 125 = .ok (.invokevirtual 261, 3) := by decide +kernel
theorem dX11_riskOf_128 : decode cX11_riskOf 128 = .ok (.ifCond .ne 24, 3) := by decide +kernel
theorem dX11_riskOf_131 : decode cX11_riskOf 131 = .ok (.aload_n 0, 1) := by decide +kernel
theorem dX11_riskOf_132 : decode cX11_riskOf 132 = .ok (.getfield 46, 3) := by decide +kernel
theorem dX11_riskOf_135 : decode cX11_riskOf 135 = .ok (.iload 5, 2) := by decide +kernel
theorem dX11_riskOf_137 : decode cX11_riskOf 137 = .ok (.iaload, 1) := by decide +kernel
theorem dX11_riskOf_138 : decode cX11_riskOf 138 = .ok (.iload 4, 2) := by decide +kernel
theorem dX11_riskOf_140 : decode cX11_riskOf 140 = .ok (.if_icmp .le 12, 3) := by decide +kernel
theorem dX11_riskOf_143 : decode cX11_riskOf 143 = .ok (.aload_n 0, 1) := by decide +kernel
theorem dX11_riskOf_144 : decode cX11_riskOf 144 = .ok (.getfield 46, 3) := by decide +kernel
theorem dX11_riskOf_147 : decode cX11_riskOf 147 = .ok (.iload 5, 2) := by decide +kernel
theorem dX11_riskOf_149 : decode cX11_riskOf 149 = .ok (.iaload, 1) := by decide +kernel
theorem dX11_riskOf_150 : decode cX11_riskOf 150 = .ok (.istore 4, 2) := by decide +kernel
theorem dX11_riskOf_152 : decode cX11_riskOf 152 = .ok (.iinc 5 1, 3) := by decide +kernel
theorem dX11_riskOf_155 : decode cX11_riskOf 155 = .ok (.goto (-73), 3) := by decide +kernel
theorem dX11_riskOf_158 : decode cX11_riskOf 158 = .ok (.iload 4, 2) := by decide +kernel
theorem dX11_riskOf_160 : decode cX11_riskOf 160 = .ok (.iconst (-1), 1) := by decide +kernel
theorem dX11_riskOf_161 : decode cX11_riskOf 161 = .ok (.if_icmp .eq 6, 3) := by decide +kernel
theorem dX11_riskOf_164 : decode cX11_riskOf 164 = .ok (.iload 4, 2) := by decide +kernel
theorem dX11_riskOf_166 : decode cX11_riskOf 166 = .ok (.istore_n 3, 1) := by decide +kernel
theorem dX11_riskOf_167 : decode cX11_riskOf 167 = .ok (.iload_n 2, 1) := by decide +kernel
theorem dX11_riskOf_168 : decode cX11_riskOf 168 = .ok (.i2l, 1) := by decide +kernel
theorem dX11_riskOf_169 : decode cX11_riskOf 169 = .ok (.sipush 1000, 3) := by decide +kernel
theorem dX11_riskOf_172 : decode cX11_riskOf 172 = .ok (.aload_n 0, 1) := by decide +kernel
theorem dX11_riskOf_173 : decode cX11_riskOf 173 = .ok (.getfield 52, 3) := by decide +kernel
theorem dX11_riskOf_176 : decode cX11_riskOf 176 = .ok (.bipush 10, 2) := by decide +kernel
theorem dX11_riskOf_178 : decode cX11_riskOf 178 = .ok (.aload_n 0, 1) := by decide +kernel
theorem dX11_riskOf_179 : decode cX11_riskOf 179 = .ok (.getfield 16, 3) := by decide +kernel
theorem dX11_riskOf_182 : decode cX11_riskOf 182 = .ok (.iload_n 1, 1) := by decide +kernel
theorem dX11_riskOf_183 : decode cX11_riskOf 183 = .ok (.iaload, 1) := by decide +kernel
theorem dX11_riskOf_184 : decode cX11_riskOf 184 = .ok (.imul, 1) := by decide +kernel
theorem dX11_riskOf_185 : decode cX11_riskOf 185 = .ok (.aload_n 0, 1) := by decide +kernel
theorem dX11_riskOf_186 : decode cX11_riskOf 186 = .ok (.iload_n 1, 1) := by decide +kernel
theorem dX11_riskOf_187 : decode cX11_riskOf 187 = .ok (.aload_n 0, 1) := by decide +kernel
theorem dX11_riskOf_188 : decode cX11_riskOf 188 = .ok (.getfield 208, 3) := by decide +kernel
theorem dX11_riskOf_191 : decode cX11_riskOf 191 = .ok (.invokevirtual 214, 3) := by decide +kernel
theorem dX11_riskOf_194 : decode cX11_riskOf 194 = .ok (.invokestatic 299, 3) := by decide +kernel
theorem dX11_riskOf_197 : decode cX11_riskOf 197 = .ok (.iadd, 1) := by decide +kernel
theorem dX11_riskOf_198 : decode cX11_riskOf 198 = .ok (.iaload, 1) := by decide +kernel
theorem dX11_riskOf_199 : decode cX11_riskOf 199 = .ok (.isub, 1) := by decide +kernel
theorem dX11_riskOf_200 : decode cX11_riskOf 200 = .ok (.i2l, 1) := by decide +kernel
theorem dX11_riskOf_201 : decode cX11_riskOf 201 = .ok (.lmul, 1) := by decide +kernel
theorem dX11_riskOf_202 : decode cX11_riskOf 202 = .ok (.aload_n 0, 1) := by decide +kernel
theorem dX11_riskOf_203 : decode cX11_riskOf 203 = .ok (.getfield 208, 3) := by decide +kernel
theorem dX11_riskOf_206 : decode cX11_riskOf 206 = .ok (.iload_n 3, 1) := by decide +kernel
theorem dX11_riskOf_207 : decode cX11_riskOf 207 = .ok (.isub, 1) := by decide +kernel
theorem dX11_riskOf_208 : decode cX11_riskOf 208 = .ok (.i2l, 1) := by decide +kernel
theorem dX11_riskOf_209 : decode cX11_riskOf 209 = .ok (.lmul, 1) := by decide +kernel
theorem dX11_riskOf_210 : decode cX11_riskOf 210 = .ok (.lreturn, 1) := by decide +kernel
theorem dX11_look_0 : decode cX11_look 0 = .ok (.aload_n 0, 1) := by decide +kernel
theorem dX11_look_1 : decode cX11_look 1 = .ok (.iconst 0, 1) := by decide +kernel
theorem dX11_look_2 : decode cX11_look 2 = .ok (.putfield 129, 3) := by decide +kernel
theorem dX11_look_5 : decode cX11_look 5 = .ok (.iload_n 1, 1) := by decide +kernel
theorem dX11_look_6 : decode cX11_look 6 = .ok (.ifCond .ge 5, 3) := by decide +kernel
theorem dX11_look_9 : decode cX11_look 9 = .ok (.iconst (-1), 1) := by decide +kernel
theorem dX11_look_10 : decode cX11_look 10 = .ok (.ireturn, 1) := by decide +kernel
theorem dX11_look_11 : decode cX11_look 11 = .ok (.aload_n 0, 1) := by decide +kernel
theorem dX11_look_12 : decode cX11_look 12 = .ok (.aload_n 0, 1) := by decide +kernel
theorem dX11_look_13 : decode cX11_look 13 = .ok (.getfield 208, 3) := by decide +kernel
theorem dX11_look_16 : decode cX11_look 16 = .ok (.invokevirtual 257, 3) := by decide +kernel
theorem dX11_look_19 : decode cX11_look 19 = .ok (.iconst 0, 1) := by decide +kernel
theorem dX11_look_20 : decode cX11_look 20 = .ok (.istore_n 2, 1) := by decide +kernel
theorem dX11_look_21 : decode cX11_look 21 = .ok (.iload_n 2, 1) := by decide +kernel
theorem dX11_look_22 : decode cX11_look 22 = .ok (.aload_n 0, 1) := by decide +kernel
theorem dX11_look_23 : decode cX11_look 23 = .ok (.getfield 211, 3) := by decide +kernel
theorem dX11_look_26 : decode cX11_look 26 = .ok (.if_icmp .ge 114, 3) := by decide +kernel
theorem dX11_look_29 : decode cX11_look 29 = .ok (.aload_n 0, 1) := by decide +kernel
theorem dX11_look_30 : decode cX11_look 30 = .ok (.getfield 96, 3) := by decide +kernel
theorem dX11_look_33 : decode cX11_look 33 = .ok (.iload_n 2, 1) := by decide +kernel
theorem dX11_look_34 : decode cX11_look 34 = .ok (.iaload, 1) := by decide +kernel
theorem dX11_look_35 : decode cX11_look 35 = .ok (.iconst (-1), 1) := by decide +kernel
theorem dX11_look_36 : decode cX11_look 36 = .ok (.if_icmp .eq 6, 3) := by decide +kernel
theorem dX11_look_39 : decode cX11_look 39 = .ok (.goto 95, 3) := by decide +kernel
theorem dX11_look_42 : decode cX11_look 42 = .ok (.iconst 0, 1) := by decide +kernel
theorem dX11_look_43 : decode cX11_look 43 = .ok (.istore_n 3, 1) := by decide +kernel
theorem dX11_look_44 : decode cX11_look 44 = .ok (.iconst 0, 1) := by decide +kernel
theorem dX11_look_45 : decode cX11_look 45 = .ok (.istore 4, 2) := by decide +kernel
theorem dX11_look_47 : decode cX11_look 47 = .ok (.iload 4, 2) := by decide +kernel
theorem dX11_look_49 : decode cX11_look 49 = .ok (.aload_n 0, 1) := by decide +kernel
theorem dX11_look_50 : decode cX11_look 50 = .ok (.getfield 211, 3) := by decide +kernel
theorem dX11_look_53 : decode cX11_look 53 = .ok (.if_icmp .ge 74, 3) := by decide +kernel
theorem dX11_look_56 : decode cX11_look 56 = .ok (.iload 4, 2) := by decide +kernel
theorem dX11_look_58 : decode cX11_look 58 = .ok (.iload_n 2, 1) := by decide +kernel
theorem dX11_look_59 : decode cX11_look 59 = .ok (.if_icmp .eq 62, 3) := by decide +kernel
theorem dX11_look_62 : decode cX11_look 62 = .ok (.aload_n 0, 1) := by decide +kernel
theorem dX11_look_63 : decode cX11_look 63 = .ok (.getfield 96, 3) := by decide +kernel
theorem dX11_look_66 : decode cX11_look 66 = .ok (.iload 4, 2) := by decide +kernel
theorem dX11_look_68 : decode cX11_look 68 = .ok (.iaload, 1) := by decide +kernel
theorem dX11_look_69 : decode cX11_look 69 = .ok (.iconst (-1), 1) := by decide +kernel
theorem dX11_look_70 : decode cX11_look 70 = .ok (.if_icmp .eq 6, 3) := by decide +kernel
theorem dX11_look_73 : decode cX11_look 73 = .ok (.goto 48, 3) := by decide +kernel
theorem dX11_look_76 : decode cX11_look 76 = .ok (.aload_n 0, 1) := by decide +kernel
theorem dX11_look_77 : decode cX11_look 77 = .ok (.iload 4, 2) := by decide +kernel
theorem dX11_look_79 : decode cX11_look 79 = .ok (.invokevirtual 326, 3) := by decide +kernel
theorem dX11_look_82 : decode cX11_look 82 = .ok (.lstore 5, 2) := by decide +kernel
theorem dX11_look_84 : decode cX11_look 84 = .ok (.aload_n 0, 1) := by decide +kernel
theorem dX11_look_85 : decode cX11_look 85 = .ok (.iload_n 2, 1) := by decide +kernel
theorem dX11_look_86 : decode cX11_look 86 = .ok (.invokevirtual 326, 3) := by decide +kernel
theorem dX11_look_89 : decode cX11_look 89 = .ok (.lstore 7, 2) := by decide +kernel
theorem dX11_look_91 : decode cX11_look 91 = .ok (.iload_n 3, 1) := by decide +kernel
theorem dX11_look_92 : decode cX11_look 92 = .ok (.lload 5, 2) := by decide +kernel
theorem dX11_look_94 : decode cX11_look 94 = .ok (.lload 7, 2) := by decide +kernel
theorem dX11_look_96 : decode cX11_look 96 = .ok (.lcmp, 1) := by decide +kernel
theorem dX11_look_97 : decode cX11_look 97 = .ok (.ifCond .gt 17, 3) := by decide +kernel
theorem dX11_look_100 : decode cX11_look 100 = .ok (.lload 5, 2) := by decide +kernel
theorem dX11_look_102 : decode cX11_look 102 = .ok (.lload 7, 2) := by decide +kernel
theorem dX11_look_104 : decode cX11_look 104 = .ok (.lcmp, 1) := by decide +kernel
theorem dX11_look_105 : decode cX11_look 105 = .ok (.ifCond .ne 13, 3) := by decide +kernel
theorem dX11_look_108 : decode cX11_look 108 = .ok (.iload 4, 2) := by decide +kernel
theorem dX11_look_110 : decode cX11_look 110 = .ok (.iload_n 2, 1) := by decide +kernel
theorem dX11_look_111 : decode cX11_look 111 = .ok (.if_icmp .ge 7, 3) := by decide +kernel
theorem dX11_look_114 : decode cX11_look 114 = .ok (.iconst 1, 1) := by decide +kernel
theorem dX11_look_115 : decode cX11_look 115 = .ok (.goto 4, 3) := by decide +kernel
theorem dX11_look_118 : decode cX11_look 118 = .ok (.iconst 0, 1) := by decide +kernel
theorem dX11_look_119 : decode cX11_look 119 = .ok (.iadd, 1) := by decide +kernel
theorem dX11_look_120 : decode cX11_look 120 = .ok (.istore_n 3, 1) := by decide +kernel
theorem dX11_look_121 : decode cX11_look 121 = .ok (.iinc 4 1, 3) := by decide +kernel
theorem dX11_look_124 : decode cX11_look 124 = .ok (.goto (-77), 3) := by decide +kernel
theorem dX11_look_127 : decode cX11_look 127 = .ok (.iload_n 3, 1) := by decide +kernel
theorem dX11_look_128 : decode cX11_look 128 = .ok (.iload_n 1, 1) := by decide +kernel
theorem dX11_look_129 : decode cX11_look 129 = .ok (.if_icmp .ne 5, 3) := by decide +kernel
theorem dX11_look_132 : decode cX11_look 132 = .ok (.iload_n 2, 1) := by decide +kernel
theorem dX11_look_133 : decode cX11_look 133 = .ok (.ireturn, 1) := by decide +kernel
theorem dX11_look_134 : decode cX11_look 134 = .ok (.iinc 2 1, 3) := by decide +kernel
theorem dX11_look_137 : decode cX11_look 137 = .ok (.goto (-116), 3) := by decide +kernel
theorem dX11_look_140 : decode cX11_look 140 = .ok (.iconst (-1), 1) := by decide +kernel
theorem dX11_look_141 : decode cX11_look 141 = .ok (.ireturn, 1) := by decide +kernel
theorem dX11_fails_0 : decode cX11_fails 0 = .ok (.aload_n 0, 1) := by decide +kernel
theorem dX11_fails_1 : decode cX11_fails 1 = .ok (.iload_n 1, 1) := by decide +kernel
theorem dX11_fails_2 : decode cX11_fails 2 = .ok (.putfield 129, 3) := by decide +kernel
theorem dX11_fails_5 : decode cX11_fails 5 = .ok (.lconst 0, 1) := by decide +kernel
theorem dX11_fails_6 : decode cX11_fails 6 = .ok (.lreturn, 1) := by decide +kernel
theorem dX11_risk_0 : decode cX11_risk 0 = .ok (.aload_n 0, 1) := by decide +kernel
theorem dX11_risk_1 : decode cX11_risk 1 = .ok (.iconst 0, 1) := by decide +kernel
theorem dX11_risk_2 : decode cX11_risk 2 = .ok (.putfield 129, 3) := by decide +kernel
theorem dX11_risk_5 : decode cX11_risk 5 = .ok (.aload_n 0, 1) := by decide +kernel
theorem dX11_risk_6 : decode cX11_risk 6 = .ok (.iload_n 1, 1) := by decide +kernel
theorem dX11_risk_7 : decode cX11_risk 7 = .ok (.invokevirtual 221, 3) := by decide +kernel
theorem dX11_risk_10 : decode cX11_risk 10 = .ok (.ifCond .ne 9, 3) := by decide +kernel
theorem dX11_risk_13 : decode cX11_risk 13 = .ok (.aload_n 0, 1) := by decide +kernel
theorem dX11_risk_14 : decode cX11_risk 14 = .ok (.iconst 1, 1) := by decide +kernel
theorem dX11_risk_15 : decode cX11_risk 15 = .ok (.invokevirtual 330, 3) := by decide +kernel
theorem dX11_risk_18 : decode cX11_risk 18 = .ok (.lreturn, 1) := by decide +kernel
theorem dX11_risk_19 : decode cX11_risk 19 = .ok (.aload_n 0, 1) := by decide +kernel
theorem dX11_risk_20 : decode cX11_risk 20 = .ok (.aload_n 0, 1) := by decide +kernel
theorem dX11_risk_21 : decode cX11_risk 21 = .ok (.getfield 208, 3) := by decide +kernel
theorem dX11_risk_24 : decode cX11_risk 24 = .ok (.invokevirtual 257, 3) := by decide +kernel
theorem dX11_risk_27 : decode cX11_risk 27 = .ok (.aload_n 0, 1) := by decide +kernel
theorem dX11_risk_28 : decode cX11_risk 28 = .ok (.getfield 96, 3) := by decide +kernel
theorem dX11_risk_31 : decode cX11_risk 31 = .ok (.iload_n 1, 1) := by decide +kernel
theorem dX11_risk_32 : decode cX11_risk 32 = .ok (.iaload, 1) := by decide +kernel
theorem dX11_risk_33 : decode cX11_risk 33 = .ok (.iconst (-1), 1) := by decide +kernel
theorem dX11_risk_34 : decode cX11_risk 34 = .ok (.if_icmp .eq 11, 3) := by decide +kernel
theorem dX11_risk_37 : decode cX11_risk 37 = .ok (.aload_n 0, 1) := by decide +kernel
theorem dX11_risk_38 : decode cX11_risk 38 = .ok (.iconst 2, 1) := by decide +kernel
theorem dX11_risk_39 : decode cX11_risk 39 = .ok (.invokevirtual 330, 3) := by decide +kernel
theorem dX11_risk_42 : decode cX11_risk 42 = .ok (.goto 8, 3) := by decide +kernel
theorem dX11_risk_45 : decode cX11_risk 45 = .ok (.aload_n 0, 1) := by decide +kernel
theorem dX11_risk_46 : decode cX11_risk 46 = .ok (.iload_n 1, 1) := by decide +kernel
theorem dX11_risk_47 : decode cX11_risk 47 = .ok (.invokevirtual 326, 3) := by decide +kernel
theorem dX11_risk_50 : decode cX11_risk 50 = .ok (.lreturn, 1) := by decide +kernel
theorem dX11_living_0 : decode cX11_living 0 = .ok (.iload_n 1, 1) := by decide +kernel
theorem dX11_living_1 : decode cX11_living 1 = .ok (.iconst (-1), 1) := by decide +kernel
theorem dX11_living_2 : decode cX11_living 2 = .ok (.if_icmp .eq 27, 3) := by decide +kernel
theorem dX11_living_5 : decode cX11_living 5 = .ok (.aload_n 0, 1) := by decide +kernel
theorem dX11_living_6 : decode cX11_living 6 = .ok (.getfield 96, 3) := by decide +kernel
theorem dX11_living_9 : decode cX11_living 9 = .ok (.iload_n 1, 1) := by decide +kernel
theorem dX11_living_10 : decode cX11_living 10 = .ok (.iaload, 1) := by decide +kernel
theorem dX11_living_11 : decode cX11_living 11 = .ok (.iconst (-1), 1) := by decide +kernel
theorem dX11_living_12 : decode cX11_living 12 = .ok (.if_icmp .ne 17, 3) := by decide +kernel
theorem dX11_living_15 : decode cX11_living 15 = .ok (.aload_n 0, 1) := by decide +kernel
theorem dX11_living_16 : decode cX11_living 16 = .ok (.iload_n 1, 1) := by decide +kernel
theorem dX11_living_17 : decode cX11_living 17 = .ok (.aload_n 0, 1) := by decide +kernel
theorem dX11_living_18 : decode cX11_living 18 = .ok (.getfield 208, 3) := by decide +kernel
theorem dX11_living_21 : decode cX11_living 21 = .ok (.invokevirtual 214, 3) := by decide +kernel
theorem dX11_living_24 : decode cX11_living 24 = .ok (.bipush 99, 2) := by decide +kernel
theorem dX11_living_26 : decode cX11_living 26 = .ok (.if_icmp .le 7, 3) := by decide +kernel
theorem dX11_living_29 : decode cX11_living 29 = .ok (.iconst (-1), 1) := by decide +kernel
theorem dX11_living_30 : decode cX11_living 30 = .ok (.goto 4, 3) := by decide +kernel
theorem dX11_living_33 : decode cX11_living 33 = .ok (.iload_n 1, 1) := by decide +kernel
theorem dX11_living_34 : decode cX11_living 34 = .ok (.ireturn, 1) := by decide +kernel
theorem dX11_converts_0 : decode cX11_converts 0 = .ok (.aload_n 0, 1) := by decide +kernel
theorem dX11_converts_1 : decode cX11_converts 1 = .ok (.iconst 0, 1) := by decide +kernel
theorem dX11_converts_2 : decode cX11_converts 2 = .ok (.putfield 129, 3) := by decide +kernel
theorem dX11_converts_5 : decode cX11_converts 5 = .ok (.aload_n 0, 1) := by decide +kernel
theorem dX11_converts_6 : decode cX11_converts 6 = .ok (.iload_n 1, 1) := by decide +kernel
theorem dX11_converts_7 : decode cX11_converts 7 = .ok (.invokevirtual 242, 3) := by decide +kernel
theorem dX11_converts_10 : decode cX11_converts 10 = .ok (.ifCond .ne 5, 3) := by decide +kernel
theorem dX11_converts_13 : decode cX11_converts 13 = .ok (.iconst (-1), 1) := by decide +kernel
theorem dX11_converts_14 : decode cX11_converts 14 = .ok (.ireturn, 1) := by decide +kernel
theorem dX11_converts_15 : decode cX11_converts 15 = .ok (.aload_n 0, 1) := by decide +kernel
theorem dX11_converts_16 : decode cX11_converts 16 = .ok (.aload_n 0, 1) := by decide +kernel
theorem dX11_converts_17 : decode cX11_converts 17 = .ok (.getfield 208, 3) := by decide +kernel
theorem dX11_converts_20 : decode cX11_converts 20 = .ok (.invokevirtual 257, 3) := by decide +kernel
theorem dX11_converts_23 : decode cX11_converts 23 = .ok (.aload_n 0, 1) := by decide +kernel
theorem dX11_converts_24 : decode cX11_converts 24 = .ok (.aload_n 0, 1) := by decide +kernel
theorem dX11_converts_25 : decode cX11_converts 25 = .ok (.getfield 25, 3) := by decide +kernel
theorem dX11_converts_28 : decode cX11_converts 28 = .ok (.iload_n 1, 1) := by decide +kernel
theorem dX11_converts_29 : decode cX11_converts 29 = .ok (.iaload, 1) := by decide +kernel
theorem dX11_converts_30 : decode cX11_converts 30 = .ok (.invokevirtual 333, 3) := by decide +kernel
theorem dX11_converts_33 : decode cX11_converts 33 = .ok (.istore_n 2, 1) := by decide +kernel
theorem dX11_converts_34 : decode cX11_converts 34 = .ok (.aload_n 0, 1) := by decide +kernel
theorem dX11_converts_35 : decode cX11_converts 35 = .ok (.aload_n 0, 1) := by decide +kernel
theorem dX11_converts_36 : decode cX11_converts 36 = .ok (.getfield 28, 3) := by decide +kernel
theorem dX11_converts_39 : decode cX11_converts 39 = .ok (.iload_n 1, 1) := by decide +kernel
theorem dX11_converts_40 : decode cX11_converts 40 = .ok (.iaload, 1) := by decide +kernel
theorem dX11_converts_41 : decode cX11_converts 41 = .ok (.invokevirtual 333, 3) := by decide +kernel
theorem dX11_converts_44 : decode cX11_converts 44 = .ok (.istore_n 3, 1) := by decide +kernel
theorem dX11_converts_45 : decode cX11_converts 45 = .ok (.ldc2_w 336, 3) := by decide +kernel
theorem dX11_converts_48 : decode cX11_converts 48 = .ok (.aload_n 0, 1) := by decide +kernel
theorem dX11_converts_49 : decode cX11_converts 49 = .ok (.getfield 31, 3) := by decide +kernel
theorem dX11_converts_52 : decode cX11_converts 52 = .ok (.iload_n 1, 1) := by decide +kernel
theorem dX11_converts_53 : decode cX11_converts 53 = .ok (.iaload, 1) := by decide +kernel
theorem dX11_converts_54 : decode cX11_converts 54 = .ok (.i2l, 1) := by decide +kernel
theorem dX11_converts_55 : decode cX11_converts 55 = .ok (.lmul, 1) := by decide +kernel
theorem dX11_converts_56 : decode cX11_converts 56 = .ok (.lstore 4, 2) := by decide +kernel
theorem dX11_converts_58 : decode cX11_converts 58 = .ok (.aload_n 0, 1) := by decide +kernel
theorem dX11_converts_59 : decode cX11_converts 59 = .ok (.iconst 0, 1) := by decide +kernel
theorem dX11_converts_60 : decode cX11_converts 60 = .ok (.invokevirtual 314, 3) := by decide +kernel
theorem dX11_converts_63 : decode cX11_converts 63 = .ok (.aload_n 0, 1) := by decide +kernel
theorem dX11_converts_64 : decode cX11_converts 64 = .ok (.aload_n 0, 1) := by decide +kernel
theorem dX11_converts_65 : decode cX11_converts 65 = .ok (.getfield 25, 3) := by decide +kernel
theorem dX11_converts_68 : decode cX11_converts 68 = .ok (.iload_n 1, 1) := by decide +kernel
theorem dX11_converts_69 : decode cX11_converts 69 = .ok (.iaload, 1) := by decide +kernel
theorem dX11_converts_70 : decode cX11_converts 70 = .ok (.aload_n 0, 1) := by decide +kernel
theorem dX11_converts_71 : decode cX11_converts 71 = .ok (.getfield 28, 3) := by decide +kernel
theorem dX11_converts_74 : decode cX11_converts 74 = .ok (.iload_n 1, 1) := by decide +kernel
theorem dX11_converts_75 : decode cX11_converts 75 = .ok (.iaload, 1) := by decide +kernel
theorem dX11_converts_76 : decode cX11_converts 76 = .ok (.invokevirtual 230, 3) := by decide +kernel
theorem dX11_converts_79 : decode cX11_converts 79 = .ok (.i2l, 1) := by decide +kernel
theorem dX11_converts_80 : decode cX11_converts 80 = .ok (.lload 4, 2) := by decide +kernel
theorem dX11_converts_82 : decode cX11_converts 82 = .ok (.lmul, 1) := by decide +kernel
theorem dX11_converts_83 : decode cX11_converts 83 = .ok (.aload_n 0, 1) := by decide +kernel
theorem dX11_converts_84 : decode cX11_converts 84 = .ok (.iload_n 2, 1) := by decide +kernel
theorem dX11_converts_85 : decode cX11_converts 85 = .ok (.iload_n 3, 1) := by decide +kernel
theorem dX11_converts_86 : decode cX11_converts 86 = .ok (.invokevirtual 317, 3) := by decide +kernel
theorem dX11_converts_89 : decode cX11_converts 89 = .ok (.i2l, 1) := by decide +kernel
theorem dX11_converts_90 : decode cX11_converts 90 = .ok (.lmul, 1) := by decide +kernel
theorem dX11_converts_91 : decode cX11_converts 91 = .ok (.ldc2_w 338, 3) := by decide +kernel
theorem dX11_converts_94 : decode cX11_converts 94 = .ok (.ldiv, 1) := by decide +kernel
theorem dX11_converts_95 : decode cX11_converts 95 = .ok (.lstore 6, 2) := by decide +kernel
theorem dX11_converts_97 : decode cX11_converts 97 = .ok (.aload_n 0, 1) := by decide +kernel
theorem dX11_converts_98 : decode cX11_converts 98 = .ok (.iconst 1, 1) := by decide +kernel
theorem dX11_converts_99 : decode cX11_converts 99 = .ok (.invokevirtual 314, 3) := by decide +kernel
theorem dX11_converts_102 : decode cX11_converts 102 = .ok (.lload 6, 2) := by decide +kernel
theorem dX11_converts_104 : decode cX11_converts 104 = .ok (.lload 4, 2) := by decide +kernel
theorem dX11_converts_106 : decode cX11_converts 106 = .ok (.aload_n 0, 1) := by decide +kernel
theorem dX11_converts_107 : decode cX11_converts 107 = .ok (.iload_n 2, 1) := by decide +kernel
theorem dX11_converts_108 : decode cX11_converts 108 = .ok (.iload_n 3, 1) := by decide +kernel
theorem dX11_converts_109 : decode cX11_converts 109 = .ok (.invokevirtual 317, 3) := by decide +kernel
theorem dX11_converts_112 : decode cX11_converts 112 = .ok (.i2l, 1) := by decide +kernel
theorem dX11_converts_113 : decode cX11_converts 113 = .ok (.lmul, 1) := by decide +kernel
theorem dX11_converts_114 : decode cX11_converts 114 = .ok (.lcmp, 1) := by decide +kernel
theorem dX11_converts_115 : decode cX11_converts 115 = .ok (.ifCond .le 7, 3) := by decide +kernel
theorem dX11_converts_118 : decode cX11_converts 118 = .ok (.iconst 1, 1) := by decide +kernel
theorem dX11_converts_119 : decode cX11_converts 119 = .ok (.goto 4, 3) := by decide +kernel
theorem dX11_converts_122 : decode cX11_converts 122 = .ok (.iconst 0, 1) := by decide +kernel
theorem dX11_converts_123 : decode cX11_converts 123 = .ok (.ireturn, 1) := by decide +kernel
theorem dX11_count_0 : decode cX11_count 0 = .ok (.aload_n 0, 1) := by decide +kernel
theorem dX11_count_1 : decode cX11_count 1 = .ok (.iconst 0, 1) := by decide +kernel
theorem dX11_count_2 : decode cX11_count 2 = .ok (.putfield 129, 3) := by decide +kernel
theorem dX11_count_5 : decode cX11_count 5 = .ok (.iload_n 1, 1) := by decide +kernel
theorem dX11_count_6 : decode cX11_count 6 = .ok (.tableswitch 84 0 8 #[50, 55, 60, 65, 70, 70, 70, 70, 79], 50) := by decide +kernel
theorem dX11_count_56 : decode cX11_count 56 = .ok (.aload_n 0, 1) := by decide +kernel
theorem dX11_count_57 : decode cX11_count 57 = .ok (.getfield 208, 3) := by decide +kernel
theorem dX11_count_60 : decode cX11_count 60 = .ok (.ireturn, 1) := by decide +kernel
theorem dX11_count_61 : decode cX11_count 61 = .ok (.aload_n 0, 1) := by decide +kernel
theorem dX11_count_62 : decode cX11_count 62 = .ok (.getfield 211, 3) := by decide +kernel
theorem dX11_count_65 : decode cX11_count 65 = .ok (.ireturn, 1) := by decide +kernel
theorem dX11_count_66 : decode cX11_count 66 = .ok (.aload_n 0, 1) := by decide +kernel
theorem dX11_count_67 : decode cX11_count 67 = .ok (.getfield 233, 3) := by decide +kernel
theorem dX11_count_70 : decode cX11_count 70 = .ok (.ireturn, 1) := by decide +kernel
theorem dX11_count_71 : decode cX11_count 71 = .ok (.aload_n 0, 1) := by decide +kernel
theorem dX11_count_72 : decode cX11_count 72 = .ok (.getfield 252, 3) := by decide +kernel
theorem dX11_count_75 : decode cX11_count 75 = .ok (.ireturn, 1) := by decide +kernel
theorem dX11_count_76 : decode cX11_count 76 = .ok (.aload_n 0, 1) := by decide +kernel
theorem dX11_count_77 : decode cX11_count 77 = .ok (.getfield 86, 3) := by decide +kernel
theorem dX11_count_80 : decode cX11_count 80 = .ok (.iload_n 1, 1) := by decide +kernel
theorem dX11_count_81 : decode cX11_count 81 = .ok (.iconst 4, 1) := by decide +kernel
theorem dX11_count_82 : decode cX11_count 82 = .ok (.isub, 1) := by decide +kernel
theorem dX11_count_83 : decode cX11_count 83 = .ok (.iaload, 1) := by decide +kernel
theorem dX11_count_84 : decode cX11_count 84 = .ok (.ireturn, 1) := by decide +kernel
theorem dX11_count_85 : decode cX11_count 85 = .ok (.aload_n 0, 1) := by decide +kernel
theorem dX11_count_86 : decode cX11_count 86 = .ok (.getfield 170, 3) := by decide +kernel
theorem dX11_count_89 : decode cX11_count 89 = .ok (.ireturn, 1) := by decide +kernel
theorem dX11_count_90 : decode cX11_count 90 = .ok (.iconst (-1), 1) := by decide +kernel
theorem dX11_count_91 : decode cX11_count 91 = .ok (.ireturn, 1) := by decide +kernel
