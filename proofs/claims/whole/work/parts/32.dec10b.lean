theorem dX4_begin_32 : decode cX4_begin 32 = .ok (.putfield 31, 3) := by decide +kernel
theorem dX4_begin_35 : decode cX4_begin 35 = .ok (.aload_n 0, 1) := by decide +kernel
theorem dX4_begin_36 : decode cX4_begin 36 = .ok (.iconst 0, 1) := by decide +kernel
theorem dX4_begin_37 : decode cX4_begin 37 = .ok (.putfield 34, 3) := by decide +kernel
theorem dX4_begin_40 : decode cX4_begin 40 = .ok (.return_, 1) := by decide +kernel
theorem dX4_hasTold_0 : decode cX4_hasTold 0 = .ok (.aload_n 1, 1) := by decide +kernel
theorem dX4_hasTold_1 : decode cX4_hasTold 1 = .ok (.getstatic 37, 3) := by decide +kernel
theorem dX4_hasTold_4 : decode cX4_hasTold 4 = .ok (.if_acmp .ne 17, 3) := by decide +kernel
theorem dX4_hasTold_7 : decode cX4_hasTold 7 = .ok (.aload_n 0, 1) := by decide +kernel
theorem dX4_hasTold_8 : decode cX4_hasTold 8 = .ok (.getfield 19, 3) := by decide +kernel
theorem dX4_hasTold_11 : decode cX4_hasTold 11 = .ok (.iconst (-1), 1) := by decide +kernel
theorem dX4_hasTold_12 : decode cX4_hasTold 12 = .ok (.if_icmp .eq 7, 3) := by decide +kernel
theorem dX4_hasTold_15 : decode cX4_hasTold 15 = .ok (.iconst 1, 1) := by decide +kernel
theorem dX4_hasTold_16 : decode cX4_hasTold 16 = .ok (.goto 4, 3) := by decide +kernel
theorem dX4_hasTold_19 : decode cX4_hasTold 19 = .ok (.iconst 0, 1) := by decide +kernel
theorem dX4_hasTold_20 : decode cX4_hasTold 20 = .ok (.ireturn, 1) := by decide +kernel
theorem dX4_hasTold_21 : decode cX4_hasTold 21 = .ok (.aload_n 1, 1) := by decide +kernel
theorem dX4_hasTold_22 : decode cX4_hasTold 22 = .ok (.getstatic 42, 3) := by decide +kernel
theorem dX4_hasTold_25 : decode cX4_hasTold 25 = .ok (.if_acmp .ne 17, 3) := by decide +kernel
theorem dX4_hasTold_28 : decode cX4_hasTold 28 = .ok (.aload_n 0, 1) := by decide +kernel
theorem dX4_hasTold_29 : decode cX4_hasTold 29 = .ok (.getfield 28, 3) := by decide +kernel
theorem dX4_hasTold_32 : decode cX4_hasTold 32 = .ok (.iconst (-1), 1) := by decide +kernel
theorem dX4_hasTold_33 : decode cX4_hasTold 33 = .ok (.if_icmp .eq 7, 3) := by decide +kernel
theorem dX4_hasTold_36 : decode cX4_hasTold 36 = .ok (.iconst 1, 1) := by decide +kernel
theorem dX4_hasTold_37 : decode cX4_hasTold 37 = .ok (.goto 4, 3) := by decide +kernel
theorem dX4_hasTold_40 : decode cX4_hasTold 40 = .ok (.iconst 0, 1) := by decide +kernel
theorem dX4_hasTold_41 : decode cX4_hasTold 41 = .ok (.ireturn, 1) := by decide +kernel
theorem dX4_hasTold_42 : decode cX4_hasTold 42 = .ok (.aload_n 1, 1) := by decide +kernel
theorem dX4_hasTold_43 : decode cX4_hasTold 43 = .ok (.getstatic 45, 3) := by decide +kernel
theorem dX4_hasTold_46 : decode cX4_hasTold 46 = .ok (.if_acmp .ne 18, 3) := by decide +kernel
theorem dX4_hasTold_49 : decode cX4_hasTold 49 = .ok (.aload_n 0, 1) := by decide +kernel
theorem dX4_hasTold_50 : decode cX4_hasTold 50 = .ok (.getfield 25, 3) := by decide +kernel
theorem dX4_hasTold_53 : decode cX4_hasTold 53 = .ok (.ifCond .eq 7, 3) := by decide +kernel
theorem dX4_hasTold_56 : decode cX4_hasTold 56 = .ok (.iconst 1, 1) := by decide +kernel
theorem dX4_hasTold_57 : decode cX4_hasTold 57 = .ok (.goto 19, 3) := by decide +kernel
theorem dX4_hasTold_60 : decode cX4_hasTold 60 = .ok (.iconst 0, 1) := by decide +kernel
theorem dX4_hasTold_61 : decode cX4_hasTold 61 = .ok (.goto 15, 3) := by decide +kernel
theorem dX4_hasTold_64 : decode cX4_hasTold 64 = .ok (.aload_n 0, 1) := by decide +kernel
theorem dX4_hasTold_65 : decode cX4_hasTold 65 = .ok (.getfield 34, 3) := by decide +kernel
theorem dX4_hasTold_68 : decode cX4_hasTold 68 = .ok (.ifCond .eq 7, 3) := by decide +kernel
theorem dX4_hasTold_71 : decode cX4_hasTold 71 = .ok (.iconst 1, 1) := by decide +kernel
theorem dX4_hasTold_72 : decode cX4_hasTold 72 = .ok (.goto 4, 3) := by decide +kernel
theorem dX4_hasTold_75 : decode cX4_hasTold 75 = .ok (.iconst 0, 1) := by decide +kernel
theorem dX4_hasTold_76 : decode cX4_hasTold 76 = .ok (.ireturn, 1) := by decide +kernel
theorem dX4_fits_0 : decode cX4_fits 0 = .ok (.aload_n 0, 1) := by decide +kernel
theorem dX4_fits_1 : decode cX4_fits 1 = .ok (.getfield 19, 3) := by decide +kernel
theorem dX4_fits_4 : decode cX4_fits 4 = .ok (.iconst (-1), 1) := by decide +kernel
theorem dX4_fits_5 : decode cX4_fits 5 = .ok (.if_icmp .eq 21, 3) := by decide +kernel
theorem dX4_fits_8 : decode cX4_fits 8 = .ok (.iload_n 1, 1) := by decide +kernel
theorem dX4_fits_9 : decode cX4_fits 9 = .ok (.aload_n 0, 1) := by decide +kernel
theorem dX4_fits_10 : decode cX4_fits 10 = .ok (.getfield 19, 3) := by decide +kernel
theorem dX4_fits_13 : decode cX4_fits 13 = .ok (.if_icmp .lt 11, 3) := by decide +kernel
theorem dX4_fits_16 : decode cX4_fits 16 = .ok (.iload_n 1, 1) := by decide +kernel
theorem dX4_fits_17 : decode cX4_fits 17 = .ok (.aload_n 0, 1) := by decide +kernel
theorem dX4_fits_18 : decode cX4_fits 18 = .ok (.getfield 22, 3) := by decide +kernel
theorem dX4_fits_21 : decode cX4_fits 21 = .ok (.if_icmp .le 5, 3) := by decide +kernel
theorem dX4_fits_24 : decode cX4_fits 24 = .ok (.iconst 0, 1) := by decide +kernel
theorem dX4_fits_25 : decode cX4_fits 25 = .ok (.ireturn, 1) := by decide +kernel
theorem dX4_fits_26 : decode cX4_fits 26 = .ok (.aload_n 0, 1) := by decide +kernel
theorem dX4_fits_27 : decode cX4_fits 27 = .ok (.getfield 28, 3) := by decide +kernel
theorem dX4_fits_30 : decode cX4_fits 30 = .ok (.iconst (-1), 1) := by decide +kernel
theorem dX4_fits_31 : decode cX4_fits 31 = .ok (.if_icmp .eq 21, 3) := by decide +kernel
theorem dX4_fits_34 : decode cX4_fits 34 = .ok (.iload_n 3, 1) := by decide +kernel
theorem dX4_fits_35 : decode cX4_fits 35 = .ok (.aload_n 0, 1) := by decide +kernel
theorem dX4_fits_36 : decode cX4_fits 36 = .ok (.getfield 28, 3) := by decide +kernel
theorem dX4_fits_39 : decode cX4_fits 39 = .ok (.if_icmp .lt 11, 3) := by decide +kernel
theorem dX4_fits_42 : decode cX4_fits 42 = .ok (.iload_n 3, 1) := by decide +kernel
theorem dX4_fits_43 : decode cX4_fits 43 = .ok (.aload_n 0, 1) := by decide +kernel
theorem dX4_fits_44 : decode cX4_fits 44 = .ok (.getfield 31, 3) := by decide +kernel
theorem dX4_fits_47 : decode cX4_fits 47 = .ok (.if_icmp .le 5, 3) := by decide +kernel
theorem dX4_fits_50 : decode cX4_fits 50 = .ok (.iconst 0, 1) := by decide +kernel
theorem dX4_fits_51 : decode cX4_fits 51 = .ok (.ireturn, 1) := by decide +kernel
theorem dX4_fits_52 : decode cX4_fits 52 = .ok (.aload_n 0, 1) := by decide +kernel
theorem dX4_fits_53 : decode cX4_fits 53 = .ok (.getfield 25, 3) := by decide +kernel
theorem dX4_fits_56 : decode cX4_fits 56 = .ok (.ifCond .eq 16, 3) := by decide +kernel
theorem dX4_fits_59 : decode cX4_fits 59 = .ok (.aload_n 0, 1) := by decide +kernel
theorem dX4_fits_60 : decode cX4_fits 60 = .ok (.getfield 25, 3) := by decide +kernel
theorem dX4_fits_63 : decode cX4_fits 63 = .ok (.iconst 1, 1) := by decide +kernel
theorem dX4_fits_64 : decode cX4_fits 64 = .ok (.iload_n 2, 1) := by decide +kernel
theorem dX4_fits_65 : decode cX4_fits 65 = .ok (.ishl, 1) := by decide +kernel
theorem dX4_fits_66 : decode cX4_fits 66 = .ok (.iand, 1) := by decide +kernel
theorem dX4_fits_67 : decode cX4_fits 67 = .ok (.ifCond .ne 5, 3) := by decide +kernel
theorem dX4_fits_70 : decode cX4_fits 70 = .ok (.iconst 0, 1) := by decide +kernel
theorem dX4_fits_71 : decode cX4_fits 71 = .ok (.ireturn, 1) := by decide +kernel
theorem dX4_fits_72 : decode cX4_fits 72 = .ok (.aload_n 0, 1) := by decide +kernel
theorem dX4_fits_73 : decode cX4_fits 73 = .ok (.getfield 34, 3) := by decide +kernel
theorem dX4_fits_76 : decode cX4_fits 76 = .ok (.ifCond .eq 12, 3) := by decide +kernel
theorem dX4_fits_79 : decode cX4_fits 79 = .ok (.aload_n 0, 1) := by decide +kernel
theorem dX4_fits_80 : decode cX4_fits 80 = .ok (.getfield 34, 3) := by decide +kernel
theorem dX4_fits_83 : decode cX4_fits 83 = .ok (.iload 4, 2) := by decide +kernel
theorem dX4_fits_85 : decode cX4_fits 85 = .ok (.if_icmp .ne 7, 3) := by decide +kernel
theorem dX4_fits_88 : decode cX4_fits 88 = .ok (.iconst 1, 1) := by decide +kernel
theorem dX4_fits_89 : decode cX4_fits 89 = .ok (.goto 4, 3) := by decide +kernel
theorem dX4_fits_92 : decode cX4_fits 92 = .ok (.iconst 0, 1) := by decide +kernel
theorem dX4_fits_93 : decode cX4_fits 93 = .ok (.ireturn, 1) := by decide +kernel
theorem dX5_has_0 : decode cX5_has 0 = .ok (.iload_n 1, 1) := by decide +kernel
theorem dX5_has_1 : decode cX5_has 1 = .ok (.ifCond .lt 15, 3) := by decide +kernel
theorem dX5_has_4 : decode cX5_has 4 = .ok (.iload_n 1, 1) := by decide +kernel
theorem dX5_has_5 : decode cX5_has 5 = .ok (.aload_n 0, 1) := by decide +kernel
theorem dX5_has_6 : decode cX5_has 6 = .ok (.getfield 18, 3) := by decide +kernel
theorem dX5_has_9 : decode cX5_has 9 = .ok (.if_icmp .ge 7, 3) := by decide +kernel
theorem dX5_has_12 : decode cX5_has 12 = .ok (.iconst 1, 1) := by decide +kernel
theorem dX5_has_13 : decode cX5_has 13 = .ok (.goto 4, 3) := by decide +kernel
theorem dX5_has_16 : decode cX5_has 16 = .ok (.iconst 0, 1) := by decide +kernel
theorem dX5_has_17 : decode cX5_has 17 = .ok (.ireturn, 1) := by decide +kernel
theorem dX5_enter_0 : decode cX5_enter 0 = .ok (.aload_n 0, 1) := by decide +kernel
theorem dX5_enter_1 : decode cX5_enter 1 = .ok (.getfield 18, 3) := by decide +kernel
theorem dX5_enter_4 : decode cX5_enter 4 = .ok (.bipush 12, 2) := by decide +kernel
theorem dX5_enter_6 : decode cX5_enter 6 = .ok (.if_icmp .lt 5, 3) := by decide +kernel
theorem dX5_enter_9 : decode cX5_enter 9 = .ok (.iconst (-1), 1) := by decide +kernel
theorem dX5_enter_10 : decode cX5_enter 10 = .ok (.ireturn, 1) := by decide +kernel
theorem dX5_enter_11 : decode cX5_enter 11 = .ok (.aload_n 0, 1) := by decide +kernel
theorem dX5_enter_12 : decode cX5_enter 12 = .ok (.getfield 9, 3) := by decide +kernel
theorem dX5_enter_15 : decode cX5_enter 15 = .ok (.aload_n 0, 1) := by decide +kernel
theorem dX5_enter_16 : decode cX5_enter 16 = .ok (.getfield 18, 3) := by decide +kernel
theorem dX5_enter_19 : decode cX5_enter 19 = .ok (.iload_n 1, 1) := by decide +kernel
theorem dX5_enter_20 : decode cX5_enter 20 = .ok (.iastore, 1) := by decide +kernel
theorem dX5_enter_21 : decode cX5_enter 21 = .ok (.aload_n 0, 1) := by decide +kernel
theorem dX5_enter_22 : decode cX5_enter 22 = .ok (.getfield 15, 3) := by decide +kernel
theorem dX5_enter_25 : decode cX5_enter 25 = .ok (.aload_n 0, 1) := by decide +kernel
theorem dX5_enter_26 : decode cX5_enter 26 = .ok (.getfield 18, 3) := by decide +kernel
theorem dX5_enter_29 : decode cX5_enter 29 = .ok (.iload_n 2, 1) := by decide +kernel
theorem dX5_enter_30 : decode cX5_enter 30 = .ok (.iastore, 1) := by decide +kernel
theorem dX5_enter_31 : decode cX5_enter 31 = .ok (.aload_n 0, 1) := by decide +kernel
theorem dX5_enter_32 : decode cX5_enter 32 = .ok (.dup, 1) := by decide +kernel
theorem dX5_enter_33 : decode cX5_enter 33 = .ok (.getfield 18, 3) := by decide +kernel
theorem dX5_enter_36 : decode cX5_enter 36 = .ok (.iconst 1, 1) := by decide +kernel
theorem dX5_enter_37 : decode cX5_enter 37 = .ok (.iadd, 1) := by decide +kernel
theorem dX5_enter_38 : decode cX5_enter 38 = .ok (.putfield 18, 3) := by decide +kernel
theorem dX5_enter_41 : decode cX5_enter 41 = .ok (.aload_n 0, 1) := by decide +kernel
theorem dX5_enter_42 : decode cX5_enter 42 = .ok (.getfield 18, 3) := by decide +kernel
theorem dX5_enter_45 : decode cX5_enter 45 = .ok (.iconst 1, 1) := by decide +kernel
theorem dX5_enter_46 : decode cX5_enter 46 = .ok (.isub, 1) := by decide +kernel
theorem dX5_enter_47 : decode cX5_enter 47 = .ok (.ireturn, 1) := by decide +kernel
theorem dX5_ageIn_0 : decode cX5_ageIn 0 = .ok (.iload_n 2, 1) := by decide +kernel
theorem dX5_ageIn_1 : decode cX5_ageIn 1 = .ok (.aload_n 0, 1) := by decide +kernel
theorem dX5_ageIn_2 : decode cX5_ageIn 2 = .ok (.getfield 9, 3) := by decide +kernel
theorem dX5_ageIn_5 : decode cX5_ageIn 5 = .ok (.iload_n 1, 1) := by decide +kernel
theorem dX5_ageIn_6 : decode cX5_ageIn 6 = .ok (.iaload, 1) := by decide +kernel
theorem dX5_ageIn_7 : decode cX5_ageIn 7 = .ok (.isub, 1) := by decide +kernel
theorem dX5_ageIn_8 : decode cX5_ageIn 8 = .ok (.iconst 2, 1) := by decide +kernel
theorem dX5_ageIn_9 : decode cX5_ageIn 9 = .ok (.idiv, 1) := by decide +kernel
theorem dX5_ageIn_10 : decode cX5_ageIn 10 = .ok (.ireturn, 1) := by decide +kernel
theorem dX5_younger_0 : decode cX5_younger 0 = .ok (.iload_n 2, 1) := by decide +kernel
theorem dX5_younger_1 : decode cX5_younger 1 = .ok (.iconst (-1), 1) := by decide +kernel
theorem dX5_younger_2 : decode cX5_younger 2 = .ok (.if_icmp .eq 22, 3) := by decide +kernel
theorem dX5_younger_5 : decode cX5_younger 5 = .ok (.aload_n 0, 1) := by decide +kernel
theorem dX5_younger_6 : decode cX5_younger 6 = .ok (.iload_n 2, 1) := by decide +kernel
theorem dX5_younger_7 : decode cX5_younger 7 = .ok (.iload_n 3, 1) := by decide +kernel
theorem dX5_younger_8 : decode cX5_younger 8 = .ok (.invokevirtual 22, 3) := by decide +kernel
theorem dX5_younger_11 : decode cX5_younger 11 = .ok (.aload_n 0, 1) := by decide +kernel
theorem dX5_younger_12 : decode cX5_younger 12 = .ok (.iload_n 1, 1) := by decide +kernel
theorem dX5_younger_13 : decode cX5_younger 13 = .ok (.iload_n 3, 1) := by decide +kernel
theorem dX5_younger_14 : decode cX5_younger 14 = .ok (.invokevirtual 22, 3) := by decide +kernel
theorem dX5_younger_17 : decode cX5_younger 17 = .ok (.if_icmp .ge 7, 3) := by decide +kernel
theorem dX5_younger_20 : decode cX5_younger 20 = .ok (.iload_n 2, 1) := by decide +kernel
theorem dX5_younger_21 : decode cX5_younger 21 = .ok (.goto 4, 3) := by decide +kernel
theorem dX5_younger_24 : decode cX5_younger 24 = .ok (.iload_n 1, 1) := by decide +kernel
theorem dX5_younger_25 : decode cX5_younger 25 = .ok (.ireturn, 1) := by decide +kernel
theorem dX6_putBytes_0 : decode cX6_putBytes 0 = .ok (.bipush 24, 2) := by decide +kernel
theorem dX6_putBytes_2 : decode cX6_putBytes 2 = .ok (.istore_n 2, 1) := by decide +kernel
theorem dX6_putBytes_3 : decode cX6_putBytes 3 = .ok (.iload_n 2, 1) := by decide +kernel
theorem dX6_putBytes_4 : decode cX6_putBytes 4 = .ok (.ifCond .lt 45, 3) := by decide +kernel
theorem dX6_putBytes_7 : decode cX6_putBytes 7 = .ok (.aload_n 0, 1) := by decide +kernel
theorem dX6_putBytes_8 : decode cX6_putBytes 8 = .ok (.getfield 19, 3) := by decide +kernel
theorem dX6_putBytes_11 : decode cX6_putBytes 11 = .ok (.sipush 500, 3) := by decide +kernel
theorem dX6_putBytes_14 : decode cX6_putBytes 14 = .ok (.if_icmp .ge 35, 3) := by decide +kernel
theorem dX6_putBytes_17 : decode cX6_putBytes 17 = .ok (.aload_n 0, 1) := by decide +kernel
theorem dX6_putBytes_18 : decode cX6_putBytes 18 = .ok (.getfield 9, 3) := by decide +kernel
theorem dX6_putBytes_21 : decode cX6_putBytes 21 = .ok (.aload_n 0, 1) := by decide +kernel
theorem dX6_putBytes_22 : decode cX6_putBytes 22 = .ok (.getfield 19, 3) := by decide +kernel
theorem dX6_putBytes_25 : decode cX6_putBytes 25 = .ok (.iload_n 1, 1) := by decide +kernel
theorem dX6_putBytes_26 : decode cX6_putBytes 26 = .ok (.iload_n 2, 1) := by decide +kernel
theorem dX6_putBytes_27 : decode cX6_putBytes 27 = .ok (.iushr, 1) := by decide +kernel
theorem dX6_putBytes_28 : decode cX6_putBytes 28 = .ok (.sipush 255, 3) := by decide +kernel
theorem dX6_putBytes_31 : decode cX6_putBytes 31 = .ok (.iand, 1) := by decide +kernel
theorem dX6_putBytes_32 : decode cX6_putBytes 32 = .ok (.iastore, 1) := by decide +kernel
theorem dX6_putBytes_33 : decode cX6_putBytes 33 = .ok (.aload_n 0, 1) := by decide +kernel
theorem dX6_putBytes_34 : decode cX6_putBytes 34 = .ok (.dup, 1) := by decide +kernel
theorem dX6_putBytes_35 : decode cX6_putBytes 35 = .ok (.getfield 19, 3) := by decide +kernel
theorem dX6_putBytes_38 : decode cX6_putBytes 38 = .ok (.iconst 1, 1) := by decide +kernel
theorem dX6_putBytes_39 : decode cX6_putBytes 39 = .ok (.iadd, 1) := by decide +kernel
theorem dX6_putBytes_40 : decode cX6_putBytes 40 = .ok (.putfield 19, 3) := by decide +kernel
theorem dX6_putBytes_43 : decode cX6_putBytes 43 = .ok (.iinc 2 (-8), 3) := by decide +kernel
theorem dX6_putBytes_46 : decode cX6_putBytes 46 = .ok (.goto (-43), 3) := by decide +kernel
theorem dX6_putBytes_49 : decode cX6_putBytes 49 = .ok (.return_, 1) := by decide +kernel
theorem dX6_read_0 : decode cX6_read 0 = .ok (.aload_n 0, 1) := by decide +kernel
theorem dX6_read_1 : decode cX6_read 1 = .ok (.iload_n 1, 1) := by decide +kernel
theorem dX6_read_2 : decode cX6_read 2 = .ok (.aload_n 0, 1) := by decide +kernel
theorem dX6_read_3 : decode cX6_read 3 = .ok (.getfield 19, 3) := by decide +kernel
theorem dX6_read_6 : decode cX6_read 6 = .ok (.invokestatic 22, 3) := by decide +kernel
theorem dX6_read_9 : decode cX6_read 9 = .ok (.putfield 28, 3) := by decide +kernel
theorem dX6_read_12 : decode cX6_read 12 = .ok (.aload_n 0, 1) := by decide +kernel
theorem dX6_read_13 : decode cX6_read 13 = .ok (.iconst 0, 1) := by decide +kernel
theorem dX6_read_14 : decode cX6_read 14 = .ok (.putfield 19, 3) := by decide +kernel
theorem dX6_read_17 : decode cX6_read 17 = .ok (.aload_n 0, 1) := by decide +kernel
theorem dX6_read_18 : decode cX6_read 18 = .ok (.aload_n 2, 1) := by decide +kernel
theorem dX6_read_19 : decode cX6_read 19 = .ok (.putfield 31, 3) := by decide +kernel
theorem dX6_read_22 : decode cX6_read 22 = .ok (.aload_n 0, 1) := by decide +kernel
theorem dX6_read_23 : decode cX6_read 23 = .ok (.getfield 31, 3) := by decide +kernel
theorem dX6_read_26 : decode cX6_read 26 = .ok (.invokevirtual 35, 3) := by decide +kernel
theorem dX6_read_29 : decode cX6_read 29 = .ok (.aload_n 0, 1) := by decide +kernel
theorem dX6_read_30 : decode cX6_read 30 = .ok (.aload_n 0, 1) := by decide +kernel
theorem dX6_read_31 : decode cX6_read 31 = .ok (.getfield 31, 3) := by decide +kernel
theorem dX6_read_34 : decode cX6_read 34 = .ok (.getfield 40, 3) := by decide +kernel
theorem dX6_read_37 : decode cX6_read 37 = .ok (.iconst 0, 1) := by decide +kernel
theorem dX6_read_38 : decode cX6_read 38 = .ok (.aaload, 1) := by decide +kernel
theorem dX6_read_39 : decode cX6_read 39 = .ok (.putfield 44, 3) := by decide +kernel
theorem dX6_read_42 : decode cX6_read 42 = .ok (.aload_n 0, 1) := by decide +kernel
theorem dX6_read_43 : decode cX6_read 43 = .ok (.getstatic 48, 3) := by decide +kernel
theorem dX6_read_46 : decode cX6_read 46 = .ok (.putfield 54, 3) := by decide +kernel
theorem dX6_read_49 : decode cX6_read 49 = .ok (.aload_n 0, 1) := by decide +kernel
theorem dX6_read_50 : decode cX6_read 50 = .ok (.iconst 0, 1) := by decide +kernel
theorem dX6_read_51 : decode cX6_read 51 = .ok (.putfield 57, 3) := by decide +kernel
theorem dX6_read_54 : decode cX6_read 54 = .ok (.aload_n 0, 1) := by decide +kernel
theorem dX6_read_55 : decode cX6_read 55 = .ok (.iconst 0, 1) := by decide +kernel
theorem dX6_read_56 : decode cX6_read 56 = .ok (.putfield 60, 3) := by decide +kernel
theorem dX6_read_59 : decode cX6_read 59 = .ok (.aload_n 0, 1) := by decide +kernel
theorem dX6_read_60 : decode cX6_read 60 = .ok (.iconst 0, 1) := by decide +kernel
theorem dX6_read_61 : decode cX6_read 61 = .ok (.putfield 63, 3) := by decide +kernel
theorem dX6_read_64 : decode cX6_read 64 = .ok (.aload_n 0, 1) := by decide +kernel
theorem dX6_read_65 : decode cX6_read 65 = .ok (.iconst (-1), 1) := by decide +kernel
theorem dX6_read_66 : decode cX6_read 66 = .ok (.putfield 15, 3) := by decide +kernel
theorem dX6_read_69 : decode cX6_read 69 = .ok (.aload_n 0, 1) := by decide +kernel
theorem dX6_read_70 : decode cX6_read 70 = .ok (.iconst 0, 1) := by decide +kernel
theorem dX6_read_71 : decode cX6_read 71 = .ok (.putfield 66, 3) := by decide +kernel
theorem dX6_read_74 : decode cX6_read 74 = .ok (.aload_n 0, 1) := by decide +kernel
theorem dX6_read_75 : decode cX6_read 75 = .ok (.invokevirtual 69, 3) := by decide +kernel
theorem dX6_read_78 : decode cX6_read 78 = .ok (.iconst 0, 1) := by decide +kernel
theorem dX6_read_79 : decode cX6_read 79 = .ok (.istore_n 3, 1) := by decide +kernel
theorem dX6_read_80 : decode cX6_read 80 = .ok (.iload_n 3, 1) := by decide +kernel
theorem dX6_read_81 : decode cX6_read 81 = .ok (.aload_n 0, 1) := by decide +kernel
theorem dX6_read_82 : decode cX6_read 82 = .ok (.getfield 28, 3) := by decide +kernel
theorem dX6_read_85 : decode cX6_read 85 = .ok (.if_icmp .ge 50, 3) := by decide +kernel
theorem dX6_read_88 : decode cX6_read 88 = .ok (.aload_n 0, 1) := by decide +kernel
theorem dX6_read_89 : decode cX6_read 89 = .ok (.getfield 72, 3) := by decide +kernel
theorem dX6_read_92 : decode cX6_read 92 = .ok (.aload_n 0, 1) := by decide +kernel
theorem dX6_read_93 : decode cX6_read 93 = .ok (.getfield 28, 3) := by decide +kernel
theorem dX6_read_96 : decode cX6_read 96 = .ok (.if_icmp .ge 39, 3) := by decide +kernel
theorem dX6_read_99 : decode cX6_read 99 = .ok (.aload_n 0, 1) := by decide +kernel
theorem dX6_read_100 : decode cX6_read 100 = .ok (.getfield 63, 3) := by decide +kernel
theorem dX6_read_103 : decode cX6_read 103 = .ok (.ifCond .ne 32, 3) := by decide +kernel
theorem dX6_read_106 : decode cX6_read 106 = .ok (.aload_n 0, 1) := by decide +kernel
theorem dX6_read_107 : decode cX6_read 107 = .ok (.invokevirtual 75, 3) := by decide +kernel
theorem dX6_read_110 : decode cX6_read 110 = .ok (.aload_n 0, 1) := by decide +kernel
theorem dX6_read_111 : decode cX6_read 111 = .ok (.aload_n 0, 1) := by decide +kernel
theorem dX6_read_112 : decode cX6_read 112 = .ok (.invokevirtual 78, 3) := by decide +kernel
theorem dX6_read_115 : decode cX6_read 115 = .ok (.putfield 63, 3) := by decide +kernel
theorem dX6_read_118 : decode cX6_read 118 = .ok (.aload_n 0, 1) := by decide +kernel
theorem dX6_read_119 : decode cX6_read 119 = .ok (.getfield 63, 3) := by decide +kernel
theorem dX6_read_122 : decode cX6_read 122 = .ok (.ifCond .ne 7, 3) := by decide +kernel
theorem dX6_read_125 : decode cX6_read 125 = .ok (.aload_n 0, 1) := by decide +kernel
theorem dX6_read_126 : decode cX6_read 126 = .ok (.invokevirtual 69, 3) := by decide +kernel
theorem dX6_read_129 : decode cX6_read 129 = .ok (.iinc 3 1, 3) := by decide +kernel
theorem dX6_read_132 : decode cX6_read 132 = .ok (.goto (-52), 3) := by decide +kernel
theorem dX6_read_135 : decode cX6_read 135 = .ok (.aload_n 0, 1) := by decide +kernel
theorem dX6_read_136 : decode cX6_read 136 = .ok (.getfield 63, 3) := by decide +kernel
theorem dX6_read_139 : decode cX6_read 139 = .ok (.ifCond .ne 15, 3) := by decide +kernel
theorem dX6_read_142 : decode cX6_read 142 = .ok (.aload_n 0, 1) := by decide +kernel
theorem dX6_read_143 : decode cX6_read 143 = .ok (.getfield 57, 3) := by decide +kernel
theorem dX6_read_146 : decode cX6_read 146 = .ok (.ifCond .eq 8, 3) := by decide +kernel
theorem dX6_read_149 : decode cX6_read 149 = .ok (.aload_n 0, 1) := by decide +kernel
theorem dX6_read_150 : decode cX6_read 150 = .ok (.iconst 1, 1) := by decide +kernel
theorem dX6_read_151 : decode cX6_read 151 = .ok (.putfield 63, 3) := by decide +kernel
theorem dX6_read_154 : decode cX6_read 154 = .ok (.aload_n 0, 1) := by decide +kernel
theorem dX6_read_155 : decode cX6_read 155 = .ok (.aload_n 0, 1) := by decide +kernel
theorem dX6_read_156 : decode cX6_read 156 = .ok (.getfield 63, 3) := by decide +kernel
theorem dX6_read_159 : decode cX6_read 159 = .ok (.ifCond .ne 7, 3) := by decide +kernel
theorem dX6_read_162 : decode cX6_read 162 = .ok (.iconst (-1), 1) := by decide +kernel
theorem dX6_read_163 : decode cX6_read 163 = .ok (.goto 7, 3) := by decide +kernel
theorem dX6_read_166 : decode cX6_read 166 = .ok (.aload_n 0, 1) := by decide +kernel
theorem dX6_read_167 : decode cX6_read 167 = .ok (.getfield 72, 3) := by decide +kernel
theorem dX6_read_170 : decode cX6_read 170 = .ok (.putfield 15, 3) := by decide +kernel
theorem dX6_read_173 : decode cX6_read 173 = .ok (.aload_n 0, 1) := by decide +kernel
theorem dX6_read_174 : decode cX6_read 174 = .ok (.getfield 63, 3) := by decide +kernel
theorem dX6_read_177 : decode cX6_read 177 = .ok (.ifCond .ne 10, 3) := by decide +kernel
theorem dX6_read_180 : decode cX6_read 180 = .ok (.aload_n 0, 1) := by decide +kernel
theorem dX6_read_181 : decode cX6_read 181 = .ok (.getfield 60, 3) := by decide +kernel
theorem dX6_read_184 : decode cX6_read 184 = .ok (.goto 4, 3) := by decide +kernel
theorem dX6_read_187 : decode cX6_read 187 = .ok (.iconst (-1), 1) := by decide +kernel
theorem dX6_read_188 : decode cX6_read 188 = .ok (.ireturn, 1) := by decide +kernel
theorem dX6_skipBlanks_0 : decode cX6_skipBlanks 0 = .ok (.aload_n 0, 1) := by decide +kernel
theorem dX6_skipBlanks_1 : decode cX6_skipBlanks 1 = .ok (.aload_n 0, 1) := by decide +kernel
theorem dX6_skipBlanks_2 : decode cX6_skipBlanks 2 = .ok (.getfield 66, 3) := by decide +kernel
theorem dX6_skipBlanks_5 : decode cX6_skipBlanks 5 = .ok (.putfield 72, 3) := by decide +kernel
theorem dX6_skipBlanks_8 : decode cX6_skipBlanks 8 = .ok (.aload_n 0, 1) := by decide +kernel
theorem dX6_skipBlanks_9 : decode cX6_skipBlanks 9 = .ok (.getfield 72, 3) := by decide +kernel
theorem dX6_skipBlanks_12 : decode cX6_skipBlanks 12 = .ok (.aload_n 0, 1) := by decide +kernel
theorem dX6_skipBlanks_13 : decode cX6_skipBlanks 13 = .ok (.getfield 28, 3) := by decide +kernel
theorem dX6_skipBlanks_16 : decode cX6_skipBlanks 16 = .ok (.if_icmp .ge 44, 3) := by decide +kernel
theorem dX6_skipBlanks_19 : decode cX6_skipBlanks 19 = .ok (.aload_n 0, 1) := by decide +kernel
theorem dX6_skipBlanks_20 : decode cX6_skipBlanks 20 = .ok (.getfield 9, 3) := by decide +kernel
theorem dX6_skipBlanks_23 : decode cX6_skipBlanks 23 = .ok (.aload_n 0, 1) := by decide +kernel
theorem dX6_skipBlanks_24 : decode cX6_skipBlanks 24 = .ok (.getfield 72, 3) := by decide +kernel
theorem dX6_skipBlanks_27 : decode cX6_skipBlanks 27 = .ok (.iaload, 1) := by decide +kernel
theorem dX6_skipBlanks_28 : decode cX6_skipBlanks 28 = .ok (.bipush 10, 2) := by decide +kernel
theorem dX6_skipBlanks_30 : decode cX6_skipBlanks 30 = .ok (.if_icmp .eq 17, 3) := by decide +kernel
theorem dX6_skipBlanks_33 : decode cX6_skipBlanks 33 = .ok (.aload_n 0, 1) := by decide +kernel
theorem dX6_skipBlanks_34 : decode cX6_skipBlanks 34 = .ok (.getfield 9, 3) := by decide +kernel
theorem dX6_skipBlanks_37 : decode cX6_skipBlanks 37 = .ok (.aload_n 0, 1) := by decide +kernel
theorem dX6_skipBlanks_38 : decode cX6_skipBlanks 38 = .ok (.getfield 72, 3) := by decide +kernel
theorem dX6_skipBlanks_41 : decode cX6_skipBlanks 41 = .ok (.iaload, 1) := by decide +kernel
theorem dX6_skipBlanks_42 : decode cX6_skipBlanks 42 = .ok (.bipush 32, 2) := by decide +kernel
theorem dX6_skipBlanks_44 : decode cX6_skipBlanks 44 = .ok (.if_icmp .ne 16, 3) := by decide +kernel
theorem dX6_skipBlanks_47 : decode cX6_skipBlanks 47 = .ok (.aload_n 0, 1) := by decide +kernel
theorem dX6_skipBlanks_48 : decode cX6_skipBlanks 48 = .ok (.dup, 1) := by decide +kernel
theorem dX6_skipBlanks_49 : decode cX6_skipBlanks 49 = .ok (.getfield 72, 3) := by decide +kernel
theorem dX6_skipBlanks_52 : decode cX6_skipBlanks 52 = .ok (.iconst 1, 1) := by decide +kernel
theorem dX6_skipBlanks_53 : decode cX6_skipBlanks 53 = .ok (.iadd, 1) := by decide +kernel
theorem dX6_skipBlanks_54 : decode cX6_skipBlanks 54 = .ok (.putfield 72, 3) := by decide +kernel
theorem dX6_skipBlanks_57 : decode cX6_skipBlanks 57 = .ok (.goto (-49), 3) := by decide +kernel
theorem dX6_skipBlanks_60 : decode cX6_skipBlanks 60 = .ok (.return_, 1) := by decide +kernel
theorem dX6_takeToken_0 : decode cX6_takeToken 0 = .ok (.aload_n 0, 1) := by decide +kernel
theorem dX6_takeToken_1 : decode cX6_takeToken 1 = .ok (.aload_n 0, 1) := by decide +kernel
theorem dX6_takeToken_2 : decode cX6_takeToken 2 = .ok (.getfield 72, 3) := by decide +kernel
theorem dX6_takeToken_5 : decode cX6_takeToken 5 = .ok (.iconst 1, 1) := by decide +kernel
theorem dX6_takeToken_6 : decode cX6_takeToken 6 = .ok (.iadd, 1) := by decide +kernel
theorem dX6_takeToken_7 : decode cX6_takeToken 7 = .ok (.putfield 66, 3) := by decide +kernel
theorem dX6_takeToken_10 : decode cX6_takeToken 10 = .ok (.aload_n 0, 1) := by decide +kernel
theorem dX6_takeToken_11 : decode cX6_takeToken 11 = .ok (.aconst_null, 1) := by decide +kernel
theorem dX6_takeToken_12 : decode cX6_takeToken 12 = .ok (.putfield 82, 3) := by decide +kernel
theorem dX6_takeToken_15 : decode cX6_takeToken 15 = .ok (.aload_n 0, 1) := by decide +kernel
theorem dX6_takeToken_16 : decode cX6_takeToken 16 = .ok (.iconst 0, 1) := by decide +kernel
theorem dX6_takeToken_17 : decode cX6_takeToken 17 = .ok (.putfield 85, 3) := by decide +kernel
theorem dX6_takeToken_20 : decode cX6_takeToken 20 = .ok (.aload_n 0, 1) := by decide +kernel
theorem dX6_takeToken_21 : decode cX6_takeToken 21 = .ok (.getfield 9, 3) := by decide +kernel
theorem dX6_takeToken_24 : decode cX6_takeToken 24 = .ok (.aload_n 0, 1) := by decide +kernel
theorem dX6_takeToken_25 : decode cX6_takeToken 25 = .ok (.getfield 72, 3) := by decide +kernel
theorem dX6_takeToken_28 : decode cX6_takeToken 28 = .ok (.iaload, 1) := by decide +kernel
theorem dX6_takeToken_29 : decode cX6_takeToken 29 = .ok (.invokestatic 88, 3) := by decide +kernel
theorem dX6_takeToken_32 : decode cX6_takeToken 32 = .ok (.ifCond .eq 10, 3) := by decide +kernel
theorem dX6_takeToken_35 : decode cX6_takeToken 35 = .ok (.aload_n 0, 1) := by decide +kernel
theorem dX6_takeToken_36 : decode cX6_takeToken 36 = .ok (.invokevirtual 92, 3) := by decide +kernel
theorem dX6_takeToken_39 : decode cX6_takeToken 39 = .ok (.goto 48, 3) := by decide +kernel
theorem dX6_takeToken_42 : decode cX6_takeToken 42 = .ok (.aload_n 0, 1) := by decide +kernel
theorem dX6_takeToken_43 : decode cX6_takeToken 43 = .ok (.getfield 9, 3) := by decide +kernel
theorem dX6_takeToken_46 : decode cX6_takeToken 46 = .ok (.aload_n 0, 1) := by decide +kernel
theorem dX6_takeToken_47 : decode cX6_takeToken 47 = .ok (.getfield 72, 3) := by decide +kernel
theorem dX6_takeToken_50 : decode cX6_takeToken 50 = .ok (.iaload, 1) := by decide +kernel
theorem dX6_takeToken_51 : decode cX6_takeToken 51 = .ok (.invokestatic 95, 3) := by decide +kernel
theorem dX6_takeToken_54 : decode cX6_takeToken 54 = .ok (.ifCond .eq 10, 3) := by decide +kernel
theorem dX6_takeToken_57 : decode cX6_takeToken 57 = .ok (.aload_n 0, 1) := by decide +kernel
theorem dX6_takeToken_58 : decode cX6_takeToken 58 = .ok (.invokevirtual 98, 3) := by decide +kernel
theorem dX6_takeToken_61 : decode cX6_takeToken 61 = .ok (.goto 26, 3) := by decide +kernel
theorem dX6_takeToken_64 : decode cX6_takeToken 64 = .ok (.aload_n 0, 1) := by decide +kernel
theorem dX6_takeToken_65 : decode cX6_takeToken 65 = .ok (.aload_n 0, 1) := by decide +kernel
theorem dX6_takeToken_66 : decode cX6_takeToken 66 = .ok (.getfield 9, 3) := by decide +kernel
theorem dX6_takeToken_69 : decode cX6_takeToken 69 = .ok (.aload_n 0, 1) := by decide +kernel
theorem dX6_takeToken_70 : decode cX6_takeToken 70 = .ok (.getfield 72, 3) := by decide +kernel
theorem dX6_takeToken_73 : decode cX6_takeToken 73 = .ok (.iaload, 1) := by decide +kernel
theorem dX6_takeToken_74 : decode cX6_takeToken 74 = .ok (.bipush 59, 2) := by decide +kernel
theorem dX6_takeToken_76 : decode cX6_takeToken 76 = .ok (.if_icmp .ne 7, 3) := by decide +kernel
theorem dX6_takeToken_79 : decode cX6_takeToken 79 = .ok (.iconst 2, 1) := by decide +kernel
theorem dX6_takeToken_80 : decode cX6_takeToken 80 = .ok (.goto 4, 3) := by decide +kernel
theorem dX6_takeToken_83 : decode cX6_takeToken 83 = .ok (.iconst 3, 1) := by decide +kernel
theorem dX6_takeToken_84 : decode cX6_takeToken 84 = .ok (.putfield 101, 3) := by decide +kernel
theorem dX6_takeToken_87 : decode cX6_takeToken 87 = .ok (.return_, 1) := by decide +kernel
theorem dX6_isLetter_0 : decode cX6_isLetter 0 = .ok (.iload_n 0, 1) := by decide +kernel
theorem dX6_isLetter_1 : decode cX6_isLetter 1 = .ok (.bipush 97, 2) := by decide +kernel
theorem dX6_isLetter_3 : decode cX6_isLetter 3 = .ok (.if_icmp .lt 13, 3) := by decide +kernel
theorem dX6_isLetter_6 : decode cX6_isLetter 6 = .ok (.iload_n 0, 1) := by decide +kernel
theorem dX6_isLetter_7 : decode cX6_isLetter 7 = .ok (.bipush 122, 2) := by decide +kernel
theorem dX6_isLetter_9 : decode cX6_isLetter 9 = .ok (.if_icmp .gt 7, 3) := by decide +kernel
theorem dX6_isLetter_12 : decode cX6_isLetter 12 = .ok (.iconst 1, 1) := by decide +kernel
theorem dX6_isLetter_13 : decode cX6_isLetter 13 = .ok (.goto 4, 3) := by decide +kernel
theorem dX6_isLetter_16 : decode cX6_isLetter 16 = .ok (.iconst 0, 1) := by decide +kernel
theorem dX6_isLetter_17 : decode cX6_isLetter 17 = .ok (.ireturn, 1) := by decide +kernel
theorem dX6_isDigit_0 : decode cX6_isDigit 0 = .ok (.iload_n 0, 1) := by decide +kernel
theorem dX6_isDigit_1 : decode cX6_isDigit 1 = .ok (.bipush 48, 2) := by decide +kernel
theorem dX6_isDigit_3 : decode cX6_isDigit 3 = .ok (.if_icmp .lt 13, 3) := by decide +kernel
theorem dX6_isDigit_6 : decode cX6_isDigit 6 = .ok (.iload_n 0, 1) := by decide +kernel
theorem dX6_isDigit_7 : decode cX6_isDigit 7 = .ok (.bipush 57, 2) := by decide +kernel
theorem dX6_isDigit_9 : decode cX6_isDigit 9 = .ok (.if_icmp .gt 7, 3) := by decide +kernel
theorem dX6_isDigit_12 : decode cX6_isDigit 12 = .ok (.iconst 1, 1) := by decide +kernel
theorem dX6_isDigit_13 : decode cX6_isDigit 13 = .ok (.goto 4, 3) := by decide +kernel
theorem dX6_isDigit_16 : decode cX6_isDigit 16 = .ok (.iconst 0, 1) := by decide +kernel
theorem dX6_isDigit_17 : decode cX6_isDigit 17 = .ok (.ireturn, 1) := by decide +kernel
theorem dX6_takeWord_0 : decode cX6_takeWord 0 = .ok (.aload_n 0, 1) := by decide +kernel
theorem dX6_takeWord_1 : decode cX6_takeWord 1 = .ok (.iconst 0, 1) := by decide +kernel
theorem dX6_takeWord_2 : decode cX6_takeWord 2 = .ok (.putfield 101, 3) := by decide +kernel
theorem dX6_takeWord_5 : decode cX6_takeWord 5 = .ok (.aload_n 0, 1) := by decide +kernel
theorem dX6_takeWord_6 : decode cX6_takeWord 6 = .ok (.getfield 66, 3) := by decide +kernel
theorem dX6_takeWord_9 : decode cX6_takeWord 9 = .ok (.aload_n 0, 1) := by decide +kernel
theorem dX6_takeWord_10 : decode cX6_takeWord 10 = .ok (.getfield 28, 3) := by decide +kernel
theorem dX6_takeWord_13 : decode cX6_takeWord 13 = .ok (.if_icmp .ge 31, 3) := by decide +kernel
theorem dX6_takeWord_16 : decode cX6_takeWord 16 = .ok (.aload_n 0, 1) := by decide +kernel
theorem dX6_takeWord_17 : decode cX6_takeWord 17 = .ok (.getfield 9, 3) := by decide +kernel
theorem dX6_takeWord_20 : decode cX6_takeWord 20 = .ok (.aload_n 0, 1) := by decide +kernel
theorem dX6_takeWord_21 : decode cX6_takeWord 21 = .ok (.getfield 66, 3) := by decide +kernel
theorem dX6_takeWord_24 : decode cX6_takeWord 24 = .ok (.iaload, 1) := by decide +kernel
theorem dX6_takeWord_25 : decode cX6_takeWord 25 = .ok (.invokestatic 88, 3) := by decide +kernel
theorem dX6_takeWord_28 : decode cX6_takeWord 28 = .ok (.ifCond .eq 16, 3) := by decide +kernel
theorem dX6_takeWord_31 : decode cX6_takeWord 31 = .ok (.aload_n 0, 1) := by decide +kernel
theorem dX6_takeWord_32 : decode cX6_takeWord 32 = .ok (.dup, 1) := by decide +kernel
theorem dX6_takeWord_33 : decode cX6_takeWord 33 = .ok (.getfield 66, 3) := by decide +kernel
theorem dX6_takeWord_36 : decode cX6_takeWord 36 = .ok (.iconst 1, 1) := by decide +kernel
theorem dX6_takeWord_37 : decode cX6_takeWord 37 = .ok (.iadd, 1) := by decide +kernel
theorem dX6_takeWord_38 : decode cX6_takeWord 38 = .ok (.putfield 66, 3) := by decide +kernel
theorem dX6_takeWord_41 : decode cX6_takeWord 41 = .ok (.goto (-36), 3) := by decide +kernel
theorem dX6_takeWord_44 : decode cX6_takeWord 44 = .ok (.getstatic 104, 3) := by decide +kernel
theorem dX6_takeWord_47 : decode cX6_takeWord 47 = .ok (.astore_n 1, 1) := by decide +kernel
theorem dX6_takeWord_48 : decode cX6_takeWord 48 = .ok (.aload_n 1, 1) := by decide +kernel
theorem dX6_takeWord_49 : decode cX6_takeWord 49 = .ok (.arraylength, 1) := by decide +kernel
theorem dX6_takeWord_50 : decode cX6_takeWord 50 = .ok (.istore_n 2, 1) := by decide +kernel
theorem dX6_takeWord_51 : decode cX6_takeWord 51 = .ok (.iconst 0, 1) := by decide +kernel
theorem dX6_takeWord_52 : decode cX6_takeWord 52 = .ok (.istore_n 3, 1) := by decide +kernel
theorem dX6_takeWord_53 : decode cX6_takeWord 53 = .ok (.iload_n 3, 1) := by decide +kernel
theorem dX6_takeWord_54 : decode cX6_takeWord 54 = .ok (.iload_n 2, 1) := by decide +kernel
theorem dX6_takeWord_55 : decode cX6_takeWord 55 = .ok (.if_icmp .ge 32, 3) := by decide +kernel
theorem dX6_takeWord_58 : decode cX6_takeWord 58 = .ok (.aload_n 1, 1) := by decide +kernel
theorem dX6_takeWord_59 : decode cX6_takeWord 59 = .ok (.iload_n 3, 1) := by decide +kernel
theorem dX6_takeWord_60 : decode cX6_takeWord 60 = .ok (.aaload, 1) := by decide +kernel
theorem dX6_takeWord_61 : decode cX6_takeWord 61 = .ok (.astore 4, 2) := by decide +kernel
theorem dX6_takeWord_63 : decode cX6_takeWord 63 = .ok (.aload_n 0, 1) := by decide +kernel
theorem dX6_takeWord_64 : decode cX6_takeWord 64 = .ok (.aload 4, 2) := by decide +kernel
theorem dX6_takeWord_66 : decode cX6_takeWord 66 = .ok (.getfield 108, 3) := by decide +kernel
theorem dX6_takeWord_69 : decode cX6_takeWord 69 = .ok (.invokevirtual 111, 3) := by decide +kernel
theorem dX6_takeWord_72 : decode cX6_takeWord 72 = .ok (.ifCond .eq 9, 3) := by decide +kernel
theorem dX6_takeWord_75 : decode cX6_takeWord 75 = .ok (.aload_n 0, 1) := by decide +kernel
theorem dX6_takeWord_76 : decode cX6_takeWord 76 = .ok (.aload 4, 2) := by decide +kernel
theorem dX6_takeWord_78 : decode cX6_takeWord 78 = .ok (.putfield 82, 3) := by decide +kernel
theorem dX6_takeWord_81 : decode cX6_takeWord 81 = .ok (.iinc 3 1, 3) := by decide +kernel
theorem dX6_takeWord_84 : decode cX6_takeWord 84 = .ok (.goto (-31), 3) := by decide +kernel
theorem dX6_takeWord_87 : decode cX6_takeWord 87 = .ok (.return_, 1) := by decide +kernel
theorem dX6_spells_0 : decode cX6_spells 0 = .ok (.aload_n 1, 1) := by decide +kernel
theorem dX6_spells_1 : decode cX6_spells 1 = .ok (.invokevirtual 115, 3) := by decide +kernel
theorem dX6_spells_4 : decode cX6_spells 4 = .ok (.aload_n 0, 1) := by decide +kernel
theorem dX6_spells_5 : decode cX6_spells 5 = .ok (.getfield 66, 3) := by decide +kernel
theorem dX6_spells_8 : decode cX6_spells 8 = .ok (.aload_n 0, 1) := by decide +kernel
theorem dX6_spells_9 : decode cX6_spells 9 = .ok (.getfield 72, 3) := by decide +kernel
theorem dX6_spells_12 : decode cX6_spells 12 = .ok (.isub, 1) := by decide +kernel
theorem dX6_spells_13 : decode cX6_spells 13 = .ok (.if_icmp .eq 5, 3) := by decide +kernel
theorem dX6_spells_16 : decode cX6_spells 16 = .ok (.iconst 0, 1) := by decide +kernel
theorem dX6_spells_17 : decode cX6_spells 17 = .ok (.ireturn, 1) := by decide +kernel
theorem dX6_spells_18 : decode cX6_spells 18 = .ok (.iconst 0, 1) := by decide +kernel
theorem dX6_spells_19 : decode cX6_spells 19 = .ok (.istore_n 2, 1) := by decide +kernel
theorem dX6_spells_20 : decode cX6_spells 20 = .ok (.iload_n 2, 1) := by decide +kernel
theorem dX6_spells_21 : decode cX6_spells 21 = .ok (.aload_n 1, 1) := by decide +kernel
theorem dX6_spells_22 : decode cX6_spells 22 = .ok (.invokevirtual 115, 3) := by decide +kernel
theorem dX6_spells_25 : decode cX6_spells 25 = .ok (.if_icmp .ge 30, 3) := by decide +kernel
theorem dX6_spells_28 : decode cX6_spells 28 = .ok (.aload_n 1, 1) := by decide +kernel
theorem dX6_spells_29 : decode cX6_spells 29 = .ok (.iload_n 2, 1) := by decide +kernel
theorem dX6_spells_30 : decode cX6_spells 30 = .ok (.invokevirtual 119, 3) := by decide +kernel
theorem dX6_spells_33 : decode cX6_spells 33 = .ok (.aload_n 0, 1) := by decide +kernel
theorem dX6_spells_34 : decode cX6_spells 34 = .ok (.getfield 9, 3) := by decide +kernel
theorem dX6_spells_37 : decode cX6_spells 37 = .ok (.aload_n 0, 1) := by decide +kernel
theorem dX6_spells_38 : decode cX6_spells 38 = .ok (.getfield 72, 3) := by decide +kernel
theorem dX6_spells_41 : decode cX6_spells 41 = .ok (.iload_n 2, 1) := by decide +kernel
theorem dX6_spells_42 : decode cX6_spells 42 = .ok (.iadd, 1) := by decide +kernel
theorem dX6_spells_43 : decode cX6_spells 43 = .ok (.iaload, 1) := by decide +kernel
theorem dX6_spells_44 : decode cX6_spells 44 = .ok (.if_icmp .eq 5, 3) := by decide +kernel
theorem dX6_spells_47 : decode cX6_spells 47 = .ok (.iconst 0, 1) := by decide +kernel
theorem dX6_spells_48 : decode cX6_spells 48 = .ok (.ireturn, 1) := by decide +kernel
theorem dX6_spells_49 : decode cX6_spells 49 = .ok (.iinc 2 1, 3) := by decide +kernel
theorem dX6_spells_52 : decode cX6_spells 52 = .ok (.goto (-32), 3) := by decide +kernel
theorem dX6_spells_55 : decode cX6_spells 55 = .ok (.iconst 1, 1) := by decide +kernel
theorem dX6_spells_56 : decode cX6_spells 56 = .ok (.ireturn, 1) := by decide +kernel
theorem dX6_takeNumber_0 : decode cX6_takeNumber 0 = .ok (.aload_n 0, 1) := by decide +kernel
theorem dX6_takeNumber_1 : decode cX6_takeNumber 1 = .ok (.iconst 1, 1) := by decide +kernel
theorem dX6_takeNumber_2 : decode cX6_takeNumber 2 = .ok (.putfield 101, 3) := by decide +kernel
theorem dX6_takeNumber_5 : decode cX6_takeNumber 5 = .ok (.aload_n 0, 1) := by decide +kernel
theorem dX6_takeNumber_6 : decode cX6_takeNumber 6 = .ok (.aload_n 0, 1) := by decide +kernel
theorem dX6_takeNumber_7 : decode cX6_takeNumber 7 = .ok (.getfield 9, 3) := by decide +kernel
theorem dX6_takeNumber_10 : decode cX6_takeNumber 10 = .ok (.aload_n 0, 1) := by decide +kernel
theorem dX6_takeNumber_11 : decode cX6_takeNumber 11 = .ok (.getfield 72, 3) := by decide +kernel
theorem dX6_takeNumber_14 : decode cX6_takeNumber 14 = .ok (.iaload, 1) := by decide +kernel
theorem dX6_takeNumber_15 : decode cX6_takeNumber 15 = .ok (.bipush 48, 2) := by decide +kernel
theorem dX6_takeNumber_17 : decode cX6_takeNumber 17 = .ok (.isub, 1) := by decide +kernel
theorem dX6_takeNumber_18 : decode cX6_takeNumber 18 = .ok (.putfield 85, 3) := by decide +kernel
theorem dX6_takeNumber_21 : decode cX6_takeNumber 21 = .ok (.aload_n 0, 1) := by decide +kernel
theorem dX6_takeNumber_22 : decode cX6_takeNumber 22 = .ok (.getfield 66, 3) := by decide +kernel
theorem dX6_takeNumber_25 : decode cX6_takeNumber 25 = .ok (.aload_n 0, 1) := by decide +kernel
theorem dX6_takeNumber_26 : decode cX6_takeNumber 26 = .ok (.getfield 28, 3) := by decide +kernel
theorem dX6_takeNumber_29 : decode cX6_takeNumber 29 = .ok (.if_icmp .ge 60, 3) := by decide +kernel
theorem dX6_takeNumber_32 : decode cX6_takeNumber 32 = .ok (.aload_n 0, 1) := by decide +kernel
theorem dX6_takeNumber_33 : decode cX6_takeNumber 33 = .ok (.getfield 9, 3) := by decide +kernel
theorem dX6_takeNumber_36 : decode cX6_takeNumber 36 = .ok (.aload_n 0, 1) := by decide +kernel
theorem dX6_takeNumber_37 : decode cX6_takeNumber 37 = .ok (.getfield 66, 3) := by decide +kernel
theorem dX6_takeNumber_40 : decode cX6_takeNumber 40 = .ok (.iaload, 1) := by decide +kernel
theorem dX6_takeNumber_41 : decode cX6_takeNumber 41 = .ok (.invokestatic 95, 3) := by decide +kernel
theorem dX6_takeNumber_44 : decode cX6_takeNumber 44 = .ok (.ifCond .eq 45, 3) := by decide +kernel
theorem dX6_takeNumber_47 : decode cX6_takeNumber 47 = .ok (.aload_n 0, 1) := by decide +kernel
theorem dX6_takeNumber_48 : decode cX6_takeNumber 48 = .ok (.ldc 123, 2) := by decide +kernel
theorem dX6_takeNumber_50 : decode cX6_takeNumber 50 = .ok (.aload_n 0, 1) := by decide +kernel
theorem dX6_takeNumber_51 : decode cX6_takeNumber 51 = .ok (.getfield 85, 3) := by decide +kernel
theorem dX6_takeNumber_54 : decode cX6_takeNumber 54 = .ok (.bipush 10, 2) := by decide +kernel
theorem dX6_takeNumber_56 : decode cX6_takeNumber 56 = .ok (.imul, 1) := by decide +kernel
theorem dX6_takeNumber_57 : decode cX6_takeNumber 57 = .ok (.aload_n 0, 1) := by decide +kernel
theorem dX6_takeNumber_58 : decode cX6_takeNumber 58 = .ok (.getfield 9, 3) := by decide +kernel
theorem dX6_takeNumber_61 : decode cX6_takeNumber 61 = .ok (.aload_n 0, 1) := by decide +kernel
theorem dX6_takeNumber_62 : decode cX6_takeNumber 62 = .ok (.getfield 66, 3) := by decide +kernel
theorem dX6_takeNumber_65 : decode cX6_takeNumber 65 = .ok (.iaload, 1) := by decide +kernel
theorem dX6_takeNumber_66 : decode cX6_takeNumber 66 = .ok (.iadd, 1) := by decide +kernel
theorem dX6_takeNumber_67 : decode cX6_takeNumber 67 = .ok (.bipush 48, 2) := by decide +kernel
theorem dX6_takeNumber_69 : decode cX6_takeNumber 69 = .ok (.isub, 1) := by decide +kernel
theorem dX6_takeNumber_70 : decode cX6_takeNumber 70 = .ok (.invokestatic 22, 3) := by decide +kernel
theorem dX6_takeNumber_73 : decode cX6_takeNumber 73 = .ok (.putfield 85, 3) := by decide +kernel
theorem dX6_takeNumber_76 : decode cX6_takeNumber 76 = .ok (.aload_n 0, 1) := by decide +kernel
theorem dX6_takeNumber_77 : decode cX6_takeNumber 77 = .ok (.dup, 1) := by decide +kernel
theorem dX6_takeNumber_78 : decode cX6_takeNumber 78 = .ok (.getfield 66, 3) := by decide +kernel
theorem dX6_takeNumber_81 : decode cX6_takeNumber 81 = .ok (.iconst 1, 1) := by decide +kernel
theorem dX6_takeNumber_82 : decode cX6_takeNumber 82 = .ok (.iadd, 1) := by decide +kernel
theorem dX6_takeNumber_83 : decode cX6_takeNumber 83 = .ok (.putfield 66, 3) := by decide +kernel
theorem dX6_takeNumber_86 : decode cX6_takeNumber 86 = .ok (.goto (-65), 3) := by decide +kernel
theorem dX6_takeNumber_89 : decode cX6_takeNumber 89 = .ok (.return_, 1) := by decide +kernel
theorem dX6_put_0 : decode cX6_put 0 = .ok (.aload_n 0, 1) := by decide +kernel
theorem dX6_put_1 : decode cX6_put 1 = .ok (.getfield 57, 3) := by decide +kernel
theorem dX6_put_4 : decode cX6_put 4 = .ok (.tableswitch 122 0 7 #[48, 53, 58, 63, 68, 89, 94, 99], 48) := by decide +kernel
theorem dX6_put_52 : decode cX6_put 52 = .ok (.aload_n 0, 1) := by decide +kernel
theorem dX6_put_53 : decode cX6_put 53 = .ok (.invokevirtual 124, 3) := by decide +kernel
theorem dX6_put_56 : decode cX6_put 56 = .ok (.ireturn, 1) := by decide +kernel
theorem dX6_put_57 : decode cX6_put 57 = .ok (.aload_n 0, 1) := by decide +kernel
theorem dX6_put_58 : decode cX6_put 58 = .ok (.invokevirtual 127, 3) := by decide +kernel
theorem dX6_put_61 : decode cX6_put 61 = .ok (.ireturn, 1) := by decide +kernel
theorem dX6_put_62 : decode cX6_put 62 = .ok (.aload_n 0, 1) := by decide +kernel
theorem dX6_put_63 : decode cX6_put 63 = .ok (.invokevirtual 130, 3) := by decide +kernel
theorem dX6_put_66 : decode cX6_put 66 = .ok (.ireturn, 1) := by decide +kernel
theorem dX6_put_67 : decode cX6_put 67 = .ok (.aload_n 0, 1) := by decide +kernel
theorem dX6_put_68 : decode cX6_put 68 = .ok (.invokevirtual 133, 3) := by decide +kernel
theorem dX6_put_71 : decode cX6_put 71 = .ok (.ireturn, 1) := by decide +kernel
theorem dX6_put_72 : decode cX6_put 72 = .ok (.aload_n 0, 1) := by decide +kernel
theorem dX6_put_73 : decode cX6_put 73 = .ok (.iconst 5, 1) := by decide +kernel
theorem dX6_put_74 : decode cX6_put 74 = .ok (.putfield 57, 3) := by decide +kernel
theorem dX6_put_77 : decode cX6_put 77 = .ok (.aload_n 0, 1) := by decide +kernel
theorem dX6_put_78 : decode cX6_put 78 = .ok (.getfield 82, 3) := by decide +kernel
theorem dX6_put_81 : decode cX6_put 81 = .ok (.getstatic 136, 3) := by decide +kernel
theorem dX6_put_84 : decode cX6_put 84 = .ok (.if_acmp .ne 7, 3) := by decide +kernel
theorem dX6_put_87 : decode cX6_put 87 = .ok (.iconst 0, 1) := by decide +kernel
theorem dX6_put_88 : decode cX6_put 88 = .ok (.goto 4, 3) := by decide +kernel
theorem dX6_put_91 : decode cX6_put 91 = .ok (.iconst 1, 1) := by decide +kernel
theorem dX6_put_92 : decode cX6_put 92 = .ok (.ireturn, 1) := by decide +kernel
theorem dX6_put_93 : decode cX6_put 93 = .ok (.aload_n 0, 1) := by decide +kernel
theorem dX6_put_94 : decode cX6_put 94 = .ok (.invokevirtual 139, 3) := by decide +kernel
theorem dX6_put_97 : decode cX6_put 97 = .ok (.ireturn, 1) := by decide +kernel
theorem dX6_put_98 : decode cX6_put 98 = .ok (.aload_n 0, 1) := by decide +kernel
theorem dX6_put_99 : decode cX6_put 99 = .ok (.invokevirtual 142, 3) := by decide +kernel
theorem dX6_put_102 : decode cX6_put 102 = .ok (.ireturn, 1) := by decide +kernel
theorem dX6_put_103 : decode cX6_put 103 = .ok (.aload_n 0, 1) := by decide +kernel
theorem dX6_put_104 : decode cX6_put 104 = .ok (.getfield 82, 3) := by decide +kernel
theorem dX6_put_107 : decode cX6_put 107 = .ok (.getstatic 145, 3) := by decide +kernel
theorem dX6_put_110 : decode cX6_put 110 = .ok (.if_acmp .ne 11, 3) := by decide +kernel
theorem dX6_put_113 : decode cX6_put 113 = .ok (.aload_n 0, 1) := by decide +kernel
theorem dX6_put_114 : decode cX6_put 114 = .ok (.bipush 6, 2) := by decide +kernel
theorem dX6_put_116 : decode cX6_put 116 = .ok (.putfield 57, 3) := by decide +kernel
theorem dX6_put_119 : decode cX6_put 119 = .ok (.iconst 0, 1) := by decide +kernel
theorem dX6_put_120 : decode cX6_put 120 = .ok (.ireturn, 1) := by decide +kernel
theorem dX6_put_121 : decode cX6_put 121 = .ok (.aload_n 0, 1) := by decide +kernel
theorem dX6_put_122 : decode cX6_put 122 = .ok (.invokevirtual 130, 3) := by decide +kernel
theorem dX6_put_125 : decode cX6_put 125 = .ok (.ireturn, 1) := by decide +kernel
theorem dX6_put_126 : decode cX6_put 126 = .ok (.aload_n 0, 1) := by decide +kernel
theorem dX6_put_127 : decode cX6_put 127 = .ok (.invokevirtual 148, 3) := by decide +kernel
theorem dX6_put_130 : decode cX6_put 130 = .ok (.ireturn, 1) := by decide +kernel
theorem dX6_putLineWord_0 : decode cX6_putLineWord 0 = .ok (.aload_n 0, 1) := by decide +kernel
theorem dX6_putLineWord_1 : decode cX6_putLineWord 1 = .ok (.getfield 82, 3) := by decide +kernel
theorem dX6_putLineWord_4 : decode cX6_putLineWord 4 = .ok (.ifnonnull 5, 3) := by decide +kernel
theorem dX6_putLineWord_7 : decode cX6_putLineWord 7 = .ok (.iconst 1, 1) := by decide +kernel
theorem dX6_putLineWord_8 : decode cX6_putLineWord 8 = .ok (.ireturn, 1) := by decide +kernel
theorem dX6_putLineWord_9 : decode cX6_putLineWord 9 = .ok (.aload_n 0, 1) := by decide +kernel
theorem dX6_putLineWord_10 : decode cX6_putLineWord 10 = .ok (.aload_n 0, 1) := by decide +kernel
theorem dX6_putLineWord_11 : decode cX6_putLineWord 11 = .ok (.getfield 82, 3) := by decide +kernel
theorem dX6_putLineWord_14 : decode cX6_putLineWord 14 = .ok (.putfield 54, 3) := by decide +kernel
theorem dX6_putLineWord_17 : decode cX6_putLineWord 17 = .ok (.aload_n 0, 1) := by decide +kernel
theorem dX6_putLineWord_18 : decode cX6_putLineWord 18 = .ok (.getfield 82, 3) := by decide +kernel
theorem dX6_putLineWord_21 : decode cX6_putLineWord 21 = .ok (.getfield 151, 3) := by decide +kernel
theorem dX6_putLineWord_24 : decode cX6_putLineWord 24 = .ok (.iconst 1, 1) := by decide +kernel
theorem dX6_putLineWord_25 : decode cX6_putLineWord 25 = .ok (.if_icmp .ne 33, 3) := by decide +kernel
theorem dX6_putLineWord_28 : decode cX6_putLineWord 28 = .ok (.aload_n 0, 1) := by decide +kernel
theorem dX6_putLineWord_29 : decode cX6_putLineWord 29 = .ok (.iconst 1, 1) := by decide +kernel
theorem dX6_putLineWord_30 : decode cX6_putLineWord 30 = .ok (.putfield 57, 3) := by decide +kernel
theorem dX6_putLineWord_33 : decode cX6_putLineWord 33 = .ok (.aload_n 0, 1) := by decide +kernel
theorem dX6_putLineWord_34 : decode cX6_putLineWord 34 = .ok (.getfield 31, 3) := by decide +kernel
theorem dX6_putLineWord_37 : decode cX6_putLineWord 37 = .ok (.getfield 154, 3) := by decide +kernel
theorem dX6_putLineWord_40 : decode cX6_putLineWord 40 = .ok (.aload_n 0, 1) := by decide +kernel
theorem dX6_putLineWord_41 : decode cX6_putLineWord 41 = .ok (.getfield 82, 3) := by decide +kernel
theorem dX6_putLineWord_44 : decode cX6_putLineWord 44 = .ok (.getfield 157, 3) := by decide +kernel
theorem dX6_putLineWord_47 : decode cX6_putLineWord 47 = .ok (.iaload, 1) := by decide +kernel
theorem dX6_putLineWord_48 : decode cX6_putLineWord 48 = .ok (.iconst (-1), 1) := by decide +kernel
theorem dX6_putLineWord_49 : decode cX6_putLineWord 49 = .ok (.if_icmp .ne 7, 3) := by decide +kernel
theorem dX6_putLineWord_52 : decode cX6_putLineWord 52 = .ok (.iconst 0, 1) := by decide +kernel
theorem dX6_putLineWord_53 : decode cX6_putLineWord 53 = .ok (.goto 4, 3) := by decide +kernel
theorem dX6_putLineWord_56 : decode cX6_putLineWord 56 = .ok (.iconst 3, 1) := by decide +kernel
theorem dX6_putLineWord_57 : decode cX6_putLineWord 57 = .ok (.ireturn, 1) := by decide +kernel
theorem dX6_putLineWord_58 : decode cX6_putLineWord 58 = .ok (.aload_n 0, 1) := by decide +kernel
theorem dX6_putLineWord_59 : decode cX6_putLineWord 59 = .ok (.getfield 82, 3) := by decide +kernel
theorem dX6_putLineWord_62 : decode cX6_putLineWord 62 = .ok (.getfield 151, 3) := by decide +kernel
theorem dX6_putLineWord_65 : decode cX6_putLineWord 65 = .ok (.ifCond .eq 5, 3) := by decide +kernel
theorem dX6_putLineWord_68 : decode cX6_putLineWord 68 = .ok (.iconst 1, 1) := by decide +kernel
theorem dX6_putLineWord_69 : decode cX6_putLineWord 69 = .ok (.ireturn, 1) := by decide +kernel
theorem dX6_putLineWord_70 : decode cX6_putLineWord 70 = .ok (.aload_n 0, 1) := by decide +kernel
theorem dX6_putLineWord_71 : decode cX6_putLineWord 71 = .ok (.getfield 31, 3) := by decide +kernel
theorem dX6_putLineWord_74 : decode cX6_putLineWord 74 = .ok (.getfield 160, 3) := by decide +kernel
theorem dX6_putLineWord_77 : decode cX6_putLineWord 77 = .ok (.bipush 24, 2) := by decide +kernel
theorem dX6_putLineWord_79 : decode cX6_putLineWord 79 = .ok (.if_icmp .lt 5, 3) := by decide +kernel
theorem dX6_putLineWord_82 : decode cX6_putLineWord 82 = .ok (.iconst 2, 1) := by decide +kernel
theorem dX6_putLineWord_83 : decode cX6_putLineWord 83 = .ok (.ireturn, 1) := by decide +kernel
theorem dX6_putLineWord_84 : decode cX6_putLineWord 84 = .ok (.aload_n 0, 1) := by decide +kernel
theorem dX6_putLineWord_85 : decode cX6_putLineWord 85 = .ok (.aload_n 0, 1) := by decide +kernel
theorem dX6_putLineWord_86 : decode cX6_putLineWord 86 = .ok (.getfield 31, 3) := by decide +kernel
theorem dX6_putLineWord_89 : decode cX6_putLineWord 89 = .ok (.getfield 40, 3) := by decide +kernel
theorem dX6_putLineWord_92 : decode cX6_putLineWord 92 = .ok (.aload_n 0, 1) := by decide +kernel
theorem dX6_putLineWord_93 : decode cX6_putLineWord 93 = .ok (.getfield 31, 3) := by decide +kernel
theorem dX6_putLineWord_96 : decode cX6_putLineWord 96 = .ok (.getfield 160, 3) := by decide +kernel
theorem dX6_putLineWord_99 : decode cX6_putLineWord 99 = .ok (.aaload, 1) := by decide +kernel
theorem dX6_putLineWord_100 : decode cX6_putLineWord 100 = .ok (.putfield 44, 3) := by decide +kernel
theorem dX6_putLineWord_103 : decode cX6_putLineWord 103 = .ok (.aload_n 0, 1) := by decide +kernel
theorem dX6_putLineWord_104 : decode cX6_putLineWord 104 = .ok (.getfield 44, 3) := by decide +kernel
theorem dX6_putLineWord_107 : decode cX6_putLineWord 107 = .ok (.aload_n 0, 1) := by decide +kernel
theorem dX6_putLineWord_108 : decode cX6_putLineWord 108 = .ok (.getfield 82, 3) := by decide +kernel
theorem dX6_putLineWord_111 : decode cX6_putLineWord 111 = .ok (.invokevirtual 163, 3) := by decide +kernel
theorem dX6_putLineWord_114 : decode cX6_putLineWord 114 = .ok (.aload_n 0, 1) := by decide +kernel
theorem dX6_putLineWord_115 : decode cX6_putLineWord 115 = .ok (.getfield 31, 3) := by decide +kernel
theorem dX6_putLineWord_118 : decode cX6_putLineWord 118 = .ok (.dup, 1) := by decide +kernel
theorem dX6_putLineWord_119 : decode cX6_putLineWord 119 = .ok (.getfield 160, 3) := by decide +kernel
theorem dX6_putLineWord_122 : decode cX6_putLineWord 122 = .ok (.iconst 1, 1) := by decide +kernel
theorem dX6_putLineWord_123 : decode cX6_putLineWord 123 = .ok (.iadd, 1) := by decide +kernel
theorem dX6_putLineWord_124 : decode cX6_putLineWord 124 = .ok (.putfield 160, 3) := by decide +kernel
theorem dX6_putLineWord_127 : decode cX6_putLineWord 127 = .ok (.aload_n 0, 1) := by decide +kernel
theorem dX6_putLineWord_128 : decode cX6_putLineWord 128 = .ok (.aload_n 0, 1) := by decide +kernel
theorem dX6_putLineWord_129 : decode cX6_putLineWord 129 = .ok (.getfield 82, 3) := by decide +kernel
theorem dX6_putLineWord_132 : decode cX6_putLineWord 132 = .ok (.getfield 169, 3) := by decide +kernel
theorem dX6_putLineWord_135 : decode cX6_putLineWord 135 = .ok (.ifCond .le 7, 3) := by decide +kernel
theorem dX6_putLineWord_138 : decode cX6_putLineWord 138 = .ok (.iconst 1, 1) := by decide +kernel
theorem dX6_putLineWord_139 : decode cX6_putLineWord 139 = .ok (.goto 4, 3) := by decide +kernel
theorem dX6_putLineWord_142 : decode cX6_putLineWord 142 = .ok (.iconst 2, 1) := by decide +kernel
theorem dX6_putLineWord_143 : decode cX6_putLineWord 143 = .ok (.putfield 57, 3) := by decide +kernel
theorem dX6_putLineWord_146 : decode cX6_putLineWord 146 = .ok (.iconst 0, 1) := by decide +kernel
theorem dX6_putLineWord_147 : decode cX6_putLineWord 147 = .ok (.ireturn, 1) := by decide +kernel
theorem dX6_putAmount_0 : decode cX6_putAmount 0 = .ok (.aload_n 0, 1) := by decide +kernel
theorem dX6_putAmount_1 : decode cX6_putAmount 1 = .ok (.invokevirtual 172, 3) := by decide +kernel
theorem dX6_putAmount_4 : decode cX6_putAmount 4 = .ok (.istore_n 1, 1) := by decide +kernel
theorem dX6_putAmount_5 : decode cX6_putAmount 5 = .ok (.iload_n 1, 1) := by decide +kernel
theorem dX6_putAmount_6 : decode cX6_putAmount 6 = .ok (.ifCond .eq 5, 3) := by decide +kernel
theorem dX6_putAmount_9 : decode cX6_putAmount 9 = .ok (.iload_n 1, 1) := by decide +kernel
theorem dX6_putAmount_10 : decode cX6_putAmount 10 = .ok (.ireturn, 1) := by decide +kernel
theorem dX6_putAmount_11 : decode cX6_putAmount 11 = .ok (.aload_n 0, 1) := by decide +kernel
theorem dX6_putAmount_12 : decode cX6_putAmount 12 = .ok (.getfield 54, 3) := by decide +kernel
theorem dX6_putAmount_15 : decode cX6_putAmount 15 = .ok (.getfield 151, 3) := by decide +kernel
theorem dX6_putAmount_18 : decode cX6_putAmount 18 = .ok (.iconst 1, 1) := by decide +kernel
theorem dX6_putAmount_19 : decode cX6_putAmount 19 = .ok (.if_icmp .ne 31, 3) := by decide +kernel
theorem dX6_putAmount_22 : decode cX6_putAmount 22 = .ok (.aload_n 0, 1) := by decide +kernel
theorem dX6_putAmount_23 : decode cX6_putAmount 23 = .ok (.getfield 31, 3) := by decide +kernel
theorem dX6_putAmount_26 : decode cX6_putAmount 26 = .ok (.getfield 154, 3) := by decide +kernel
theorem dX6_putAmount_29 : decode cX6_putAmount 29 = .ok (.aload_n 0, 1) := by decide +kernel
theorem dX6_putAmount_30 : decode cX6_putAmount 30 = .ok (.getfield 54, 3) := by decide +kernel
theorem dX6_putAmount_33 : decode cX6_putAmount 33 = .ok (.getfield 157, 3) := by decide +kernel
theorem dX6_putAmount_36 : decode cX6_putAmount 36 = .ok (.aload_n 0, 1) := by decide +kernel
theorem dX6_putAmount_37 : decode cX6_putAmount 37 = .ok (.getfield 85, 3) := by decide +kernel
theorem dX6_putAmount_40 : decode cX6_putAmount 40 = .ok (.iastore, 1) := by decide +kernel
theorem dX6_putAmount_41 : decode cX6_putAmount 41 = .ok (.aload_n 0, 1) := by decide +kernel
theorem dX6_putAmount_42 : decode cX6_putAmount 42 = .ok (.bipush 8, 2) := by decide +kernel
theorem dX6_putAmount_44 : decode cX6_putAmount 44 = .ok (.putfield 57, 3) := by decide +kernel
theorem dX6_putAmount_47 : decode cX6_putAmount 47 = .ok (.goto 19, 3) := by decide +kernel
theorem dX6_putAmount_50 : decode cX6_putAmount 50 = .ok (.aload_n 0, 1) := by decide +kernel
theorem dX6_putAmount_51 : decode cX6_putAmount 51 = .ok (.getfield 44, 3) := by decide +kernel
theorem dX6_putAmount_54 : decode cX6_putAmount 54 = .ok (.aload_n 0, 1) := by decide +kernel
theorem dX6_putAmount_55 : decode cX6_putAmount 55 = .ok (.getfield 85, 3) := by decide +kernel
theorem dX6_putAmount_58 : decode cX6_putAmount 58 = .ok (.putfield 175, 3) := by decide +kernel
theorem dX6_putAmount_61 : decode cX6_putAmount 61 = .ok (.aload_n 0, 1) := by decide +kernel
theorem dX6_putAmount_62 : decode cX6_putAmount 62 = .ok (.iconst 2, 1) := by decide +kernel
theorem dX6_putAmount_63 : decode cX6_putAmount 63 = .ok (.putfield 57, 3) := by decide +kernel
theorem dX6_putAmount_66 : decode cX6_putAmount 66 = .ok (.iconst 0, 1) := by decide +kernel
theorem dX6_putAmount_67 : decode cX6_putAmount 67 = .ok (.ireturn, 1) := by decide +kernel
theorem dX6_numberFault_0 : decode cX6_numberFault 0 = .ok (.aload_n 0, 1) := by decide +kernel
theorem dX6_numberFault_1 : decode cX6_numberFault 1 = .ok (.getfield 101, 3) := by decide +kernel
theorem dX6_numberFault_4 : decode cX6_numberFault 4 = .ok (.iconst 1, 1) := by decide +kernel
theorem dX6_numberFault_5 : decode cX6_numberFault 5 = .ok (.if_icmp .eq 5, 3) := by decide +kernel
theorem dX6_numberFault_8 : decode cX6_numberFault 8 = .ok (.iconst 1, 1) := by decide +kernel
theorem dX6_numberFault_9 : decode cX6_numberFault 9 = .ok (.ireturn, 1) := by decide +kernel
theorem dX6_numberFault_10 : decode cX6_numberFault 10 = .ok (.aload_n 0, 1) := by decide +kernel
theorem dX6_numberFault_11 : decode cX6_numberFault 11 = .ok (.getfield 85, 3) := by decide +kernel
theorem dX6_numberFault_14 : decode cX6_numberFault 14 = .ok (.aload_n 0, 1) := by decide +kernel
theorem dX6_numberFault_15 : decode cX6_numberFault 15 = .ok (.getfield 54, 3) := by decide +kernel
theorem dX6_numberFault_18 : decode cX6_numberFault 18 = .ok (.getfield 176, 3) := by decide +kernel
theorem dX6_numberFault_21 : decode cX6_numberFault 21 = .ok (.if_icmp .lt 17, 3) := by decide +kernel
theorem dX6_numberFault_24 : decode cX6_numberFault 24 = .ok (.aload_n 0, 1) := by decide +kernel
theorem dX6_numberFault_25 : decode cX6_numberFault 25 = .ok (.getfield 85, 3) := by decide +kernel
theorem dX6_numberFault_28 : decode cX6_numberFault 28 = .ok (.aload_n 0, 1) := by decide +kernel
theorem dX6_numberFault_29 : decode cX6_numberFault 29 = .ok (.getfield 54, 3) := by decide +kernel
theorem dX6_numberFault_32 : decode cX6_numberFault 32 = .ok (.getfield 169, 3) := by decide +kernel
theorem dX6_numberFault_35 : decode cX6_numberFault 35 = .ok (.if_icmp .le 7, 3) := by decide +kernel
theorem dX6_numberFault_38 : decode cX6_numberFault 38 = .ok (.iconst 2, 1) := by decide +kernel
theorem dX6_numberFault_39 : decode cX6_numberFault 39 = .ok (.goto 4, 3) := by decide +kernel
theorem dX6_numberFault_42 : decode cX6_numberFault 42 = .ok (.iconst 0, 1) := by decide +kernel
theorem dX6_numberFault_43 : decode cX6_numberFault 43 = .ok (.ireturn, 1) := by decide +kernel
theorem dX6_putWhom_0 : decode cX6_putWhom 0 = .ok (.aload_n 0, 1) := by decide +kernel
theorem dX6_putWhom_1 : decode cX6_putWhom 1 = .ok (.getfield 101, 3) := by decide +kernel
theorem dX6_putWhom_4 : decode cX6_putWhom 4 = .ok (.iconst 2, 1) := by decide +kernel
theorem dX6_putWhom_5 : decode cX6_putWhom 5 = .ok (.if_icmp .ne 8, 3) := by decide +kernel
theorem dX6_putWhom_8 : decode cX6_putWhom 8 = .ok (.aload_n 0, 1) := by decide +kernel
theorem dX6_putWhom_9 : decode cX6_putWhom 9 = .ok (.invokevirtual 148, 3) := by decide +kernel
theorem dX6_putWhom_12 : decode cX6_putWhom 12 = .ok (.ireturn, 1) := by decide +kernel
theorem dX6_putWhom_13 : decode cX6_putWhom 13 = .ok (.aload_n 0, 1) := by decide +kernel
theorem dX6_putWhom_14 : decode cX6_putWhom 14 = .ok (.getfield 82, 3) := by decide +kernel
theorem dX6_putWhom_17 : decode cX6_putWhom 17 = .ok (.ifnull 14, 3) := by decide +kernel
theorem dX6_putWhom_20 : decode cX6_putWhom 20 = .ok (.aload_n 0, 1) := by decide +kernel
theorem dX6_putWhom_21 : decode cX6_putWhom 21 = .ok (.getfield 82, 3) := by decide +kernel
theorem dX6_putWhom_24 : decode cX6_putWhom 24 = .ok (.getfield 151, 3) := by decide +kernel
theorem dX6_putWhom_27 : decode cX6_putWhom 27 = .ok (.iconst 2, 1) := by decide +kernel
theorem dX6_putWhom_28 : decode cX6_putWhom 28 = .ok (.if_icmp .eq 5, 3) := by decide +kernel
theorem dX6_putWhom_31 : decode cX6_putWhom 31 = .ok (.iconst 1, 1) := by decide +kernel
theorem dX6_putWhom_32 : decode cX6_putWhom 32 = .ok (.ireturn, 1) := by decide +kernel
theorem dX6_putWhom_33 : decode cX6_putWhom 33 = .ok (.aload_n 0, 1) := by decide +kernel
theorem dX6_putWhom_34 : decode cX6_putWhom 34 = .ok (.getfield 44, 3) := by decide +kernel
theorem dX6_putWhom_37 : decode cX6_putWhom 37 = .ok (.aload_n 0, 1) := by decide +kernel
theorem dX6_putWhom_38 : decode cX6_putWhom 38 = .ok (.getfield 82, 3) := by decide +kernel
theorem dX6_putWhom_41 : decode cX6_putWhom 41 = .ok (.invokevirtual 179, 3) := by decide +kernel
theorem dX6_putWhom_44 : decode cX6_putWhom 44 = .ok (.ifCond .eq 5, 3) := by decide +kernel
theorem dX6_putWhom_47 : decode cX6_putWhom 47 = .ok (.iconst 3, 1) := by decide +kernel
theorem dX6_putWhom_48 : decode cX6_putWhom 48 = .ok (.ireturn, 1) := by decide +kernel
theorem dX6_putWhom_49 : decode cX6_putWhom 49 = .ok (.aload_n 0, 1) := by decide +kernel
theorem dX6_putWhom_50 : decode cX6_putWhom 50 = .ok (.aload_n 0, 1) := by decide +kernel
theorem dX6_putWhom_51 : decode cX6_putWhom 51 = .ok (.getfield 82, 3) := by decide +kernel
theorem dX6_putWhom_54 : decode cX6_putWhom 54 = .ok (.putfield 54, 3) := by decide +kernel
theorem dX6_putWhom_57 : decode cX6_putWhom 57 = .ok (.aload_n 0, 1) := by decide +kernel
theorem dX6_putWhom_58 : decode cX6_putWhom 58 = .ok (.getfield 82, 3) := by decide +kernel
theorem dX6_putWhom_61 : decode cX6_putWhom 61 = .ok (.getstatic 183, 3) := by decide +kernel
theorem dX6_putWhom_64 : decode cX6_putWhom 64 = .ok (.if_acmp .eq 13, 3) := by decide +kernel
theorem dX6_putWhom_67 : decode cX6_putWhom 67 = .ok (.aload_n 0, 1) := by decide +kernel
theorem dX6_putWhom_68 : decode cX6_putWhom 68 = .ok (.getfield 82, 3) := by decide +kernel
theorem dX6_putWhom_71 : decode cX6_putWhom 71 = .ok (.getstatic 186, 3) := by decide +kernel
theorem dX6_putWhom_74 : decode cX6_putWhom 74 = .ok (.if_acmp .ne 11, 3) := by decide +kernel
theorem dX6_putWhom_77 : decode cX6_putWhom 77 = .ok (.aload_n 0, 1) := by decide +kernel
theorem dX6_putWhom_78 : decode cX6_putWhom 78 = .ok (.iconst 3, 1) := by decide +kernel
theorem dX6_putWhom_79 : decode cX6_putWhom 79 = .ok (.putfield 57, 3) := by decide +kernel
theorem dX6_putWhom_82 : decode cX6_putWhom 82 = .ok (.goto 49, 3) := by decide +kernel
theorem dX6_putWhom_85 : decode cX6_putWhom 85 = .ok (.aload_n 0, 1) := by decide +kernel
theorem dX6_putWhom_86 : decode cX6_putWhom 86 = .ok (.getfield 82, 3) := by decide +kernel
theorem dX6_putWhom_89 : decode cX6_putWhom 89 = .ok (.getstatic 189, 3) := by decide +kernel
theorem dX6_putWhom_92 : decode cX6_putWhom 92 = .ok (.if_acmp .ne 12, 3) := by decide +kernel
theorem dX6_putWhom_95 : decode cX6_putWhom 95 = .ok (.aload_n 0, 1) := by decide +kernel
theorem dX6_putWhom_96 : decode cX6_putWhom 96 = .ok (.bipush 6, 2) := by decide +kernel
theorem dX6_putWhom_98 : decode cX6_putWhom 98 = .ok (.putfield 57, 3) := by decide +kernel
theorem dX6_putWhom_101 : decode cX6_putWhom 101 = .ok (.goto 30, 3) := by decide +kernel
theorem dX6_putWhom_104 : decode cX6_putWhom 104 = .ok (.aload_n 0, 1) := by decide +kernel
theorem dX6_putWhom_105 : decode cX6_putWhom 105 = .ok (.getfield 44, 3) := by decide +kernel
theorem dX6_putWhom_108 : decode cX6_putWhom 108 = .ok (.aload_n 0, 1) := by decide +kernel
theorem dX6_putWhom_109 : decode cX6_putWhom 109 = .ok (.getfield 82, 3) := by decide +kernel
theorem dX6_putWhom_112 : decode cX6_putWhom 112 = .ok (.getstatic 192, 3) := by decide +kernel
theorem dX6_putWhom_115 : decode cX6_putWhom 115 = .ok (.if_acmp .ne 7, 3) := by decide +kernel
theorem dX6_putWhom_118 : decode cX6_putWhom 118 = .ok (.iconst 2, 1) := by decide +kernel
theorem dX6_putWhom_119 : decode cX6_putWhom 119 = .ok (.goto 4, 3) := by decide +kernel
theorem dX6_putWhom_122 : decode cX6_putWhom 122 = .ok (.iconst 1, 1) := by decide +kernel
theorem dX6_putWhom_123 : decode cX6_putWhom 123 = .ok (.putfield 195, 3) := by decide +kernel
theorem dX6_putWhom_126 : decode cX6_putWhom 126 = .ok (.aload_n 0, 1) := by decide +kernel
theorem dX6_putWhom_127 : decode cX6_putWhom 127 = .ok (.iconst 2, 1) := by decide +kernel
theorem dX6_putWhom_128 : decode cX6_putWhom 128 = .ok (.putfield 57, 3) := by decide +kernel
theorem dX6_putWhom_131 : decode cX6_putWhom 131 = .ok (.iconst 0, 1) := by decide +kernel
theorem dX6_putWhom_132 : decode cX6_putWhom 132 = .ok (.ireturn, 1) := by decide +kernel
theorem dX6_putFrom_0 : decode cX6_putFrom 0 = .ok (.aload_n 0, 1) := by decide +kernel
theorem dX6_putFrom_1 : decode cX6_putFrom 1 = .ok (.aload_n 0, 1) := by decide +kernel
theorem dX6_putFrom_2 : decode cX6_putFrom 2 = .ok (.getfield 85, 3) := by decide +kernel
theorem dX6_putFrom_5 : decode cX6_putFrom 5 = .ok (.putfield 198, 3) := by decide +kernel
theorem dX6_putFrom_8 : decode cX6_putFrom 8 = .ok (.aload_n 0, 1) := by decide +kernel
theorem dX6_putFrom_9 : decode cX6_putFrom 9 = .ok (.iconst 4, 1) := by decide +kernel
theorem dX6_putFrom_10 : decode cX6_putFrom 10 = .ok (.putfield 57, 3) := by decide +kernel
theorem dX6_putFrom_13 : decode cX6_putFrom 13 = .ok (.aload_n 0, 1) := by decide +kernel
theorem dX6_putFrom_14 : decode cX6_putFrom 14 = .ok (.invokevirtual 172, 3) := by decide +kernel
theorem dX6_putFrom_17 : decode cX6_putFrom 17 = .ok (.ireturn, 1) := by decide +kernel
theorem dX6_putUpTo_0 : decode cX6_putUpTo 0 = .ok (.aload_n 0, 1) := by decide +kernel
theorem dX6_putUpTo_1 : decode cX6_putUpTo 1 = .ok (.invokevirtual 172, 3) := by decide +kernel
theorem dX6_putUpTo_4 : decode cX6_putUpTo 4 = .ok (.istore_n 1, 1) := by decide +kernel
theorem dX6_putUpTo_5 : decode cX6_putUpTo 5 = .ok (.iload_n 1, 1) := by decide +kernel
theorem dX6_putUpTo_6 : decode cX6_putUpTo 6 = .ok (.ifCond .eq 5, 3) := by decide +kernel
theorem dX6_putUpTo_9 : decode cX6_putUpTo 9 = .ok (.iload_n 1, 1) := by decide +kernel
theorem dX6_putUpTo_10 : decode cX6_putUpTo 10 = .ok (.ireturn, 1) := by decide +kernel
theorem dX6_putUpTo_11 : decode cX6_putUpTo 11 = .ok (.aload_n 0, 1) := by decide +kernel
theorem dX6_putUpTo_12 : decode cX6_putUpTo 12 = .ok (.getfield 85, 3) := by decide +kernel
theorem dX6_putUpTo_15 : decode cX6_putUpTo 15 = .ok (.aload_n 0, 1) := by decide +kernel
theorem dX6_putUpTo_16 : decode cX6_putUpTo 16 = .ok (.getfield 198, 3) := by decide +kernel
theorem dX6_putUpTo_19 : decode cX6_putUpTo 19 = .ok (.if_icmp .ge 5, 3) := by decide +kernel
theorem dX6_putUpTo_22 : decode cX6_putUpTo 22 = .ok (.iconst 2, 1) := by decide +kernel
theorem dX6_putUpTo_23 : decode cX6_putUpTo 23 = .ok (.ireturn, 1) := by decide +kernel
theorem dX6_putUpTo_24 : decode cX6_putUpTo 24 = .ok (.aload_n 0, 1) := by decide +kernel
theorem dX6_putUpTo_25 : decode cX6_putUpTo 25 = .ok (.getfield 54, 3) := by decide +kernel
theorem dX6_putUpTo_28 : decode cX6_putUpTo 28 = .ok (.getstatic 183, 3) := by decide +kernel
theorem dX6_putUpTo_31 : decode cX6_putUpTo 31 = .ok (.if_acmp .ne 28, 3) := by decide +kernel
theorem dX6_putUpTo_34 : decode cX6_putUpTo 34 = .ok (.aload_n 0, 1) := by decide +kernel
theorem dX6_putUpTo_35 : decode cX6_putUpTo 35 = .ok (.getfield 44, 3) := by decide +kernel
theorem dX6_putUpTo_38 : decode cX6_putUpTo 38 = .ok (.aload_n 0, 1) := by decide +kernel
theorem dX6_putUpTo_39 : decode cX6_putUpTo 39 = .ok (.getfield 198, 3) := by decide +kernel
theorem dX6_putUpTo_42 : decode cX6_putUpTo 42 = .ok (.putfield 201, 3) := by decide +kernel
theorem dX6_putUpTo_45 : decode cX6_putUpTo 45 = .ok (.aload_n 0, 1) := by decide +kernel
theorem dX6_putUpTo_46 : decode cX6_putUpTo 46 = .ok (.getfield 44, 3) := by decide +kernel
theorem dX6_putUpTo_49 : decode cX6_putUpTo 49 = .ok (.aload_n 0, 1) := by decide +kernel
theorem dX6_putUpTo_50 : decode cX6_putUpTo 50 = .ok (.getfield 85, 3) := by decide +kernel
theorem dX6_putUpTo_53 : decode cX6_putUpTo 53 = .ok (.putfield 204, 3) := by decide +kernel
theorem dX6_putUpTo_56 : decode cX6_putUpTo 56 = .ok (.goto 25, 3) := by decide +kernel
theorem dX6_putUpTo_59 : decode cX6_putUpTo 59 = .ok (.aload_n 0, 1) := by decide +kernel
theorem dX6_putUpTo_60 : decode cX6_putUpTo 60 = .ok (.getfield 44, 3) := by decide +kernel
theorem dX6_putUpTo_63 : decode cX6_putUpTo 63 = .ok (.aload_n 0, 1) := by decide +kernel
theorem dX6_putUpTo_64 : decode cX6_putUpTo 64 = .ok (.getfield 198, 3) := by decide +kernel
theorem dX6_putUpTo_67 : decode cX6_putUpTo 67 = .ok (.putfield 207, 3) := by decide +kernel
theorem dX6_putUpTo_70 : decode cX6_putUpTo 70 = .ok (.aload_n 0, 1) := by decide +kernel
theorem dX6_putUpTo_71 : decode cX6_putUpTo 71 = .ok (.getfield 44, 3) := by decide +kernel
theorem dX6_putUpTo_74 : decode cX6_putUpTo 74 = .ok (.aload_n 0, 1) := by decide +kernel
theorem dX6_putUpTo_75 : decode cX6_putUpTo 75 = .ok (.getfield 85, 3) := by decide +kernel
theorem dX6_putUpTo_78 : decode cX6_putUpTo 78 = .ok (.putfield 210, 3) := by decide +kernel
theorem dX6_putUpTo_81 : decode cX6_putUpTo 81 = .ok (.aload_n 0, 1) := by decide +kernel
theorem dX6_putUpTo_82 : decode cX6_putUpTo 82 = .ok (.iconst 2, 1) := by decide +kernel
theorem dX6_putUpTo_83 : decode cX6_putUpTo 83 = .ok (.putfield 57, 3) := by decide +kernel
theorem dX6_putUpTo_86 : decode cX6_putUpTo 86 = .ok (.iconst 0, 1) := by decide +kernel
theorem dX6_putUpTo_87 : decode cX6_putUpTo 87 = .ok (.ireturn, 1) := by decide +kernel
theorem dX6_putClass_0 : decode cX6_putClass 0 = .ok (.aload_n 0, 1) := by decide +kernel
theorem dX6_putClass_1 : decode cX6_putClass 1 = .ok (.invokevirtual 172, 3) := by decide +kernel
theorem dX6_putClass_4 : decode cX6_putClass 4 = .ok (.istore_n 1, 1) := by decide +kernel
theorem dX6_putClass_5 : decode cX6_putClass 5 = .ok (.iload_n 1, 1) := by decide +kernel
theorem dX6_putClass_6 : decode cX6_putClass 6 = .ok (.ifCond .eq 5, 3) := by decide +kernel
theorem dX6_putClass_9 : decode cX6_putClass 9 = .ok (.iload_n 1, 1) := by decide +kernel
theorem dX6_putClass_10 : decode cX6_putClass 10 = .ok (.ireturn, 1) := by decide +kernel
theorem dX6_putClass_11 : decode cX6_putClass 11 = .ok (.iconst 1, 1) := by decide +kernel
theorem dX6_putClass_12 : decode cX6_putClass 12 = .ok (.aload_n 0, 1) := by decide +kernel
theorem dX6_putClass_13 : decode cX6_putClass 13 = .ok (.getfield 85, 3) := by decide +kernel
theorem dX6_putClass_16 : decode cX6_putClass 16 = .ok (.ishl, 1) := by decide +kernel
theorem dX6_putClass_17 : decode cX6_putClass 17 = .ok (.istore_n 2, 1) := by decide +kernel
theorem dX6_putClass_18 : decode cX6_putClass 18 = .ok (.aload_n 0, 1) := by decide +kernel
theorem dX6_putClass_19 : decode cX6_putClass 19 = .ok (.getfield 44, 3) := by decide +kernel
theorem dX6_putClass_22 : decode cX6_putClass 22 = .ok (.getfield 213, 3) := by decide +kernel
theorem dX6_putClass_25 : decode cX6_putClass 25 = .ok (.iload_n 2, 1) := by decide +kernel
theorem dX6_putClass_26 : decode cX6_putClass 26 = .ok (.iand, 1) := by decide +kernel
theorem dX6_putClass_27 : decode cX6_putClass 27 = .ok (.ifCond .eq 5, 3) := by decide +kernel
theorem dX6_putClass_30 : decode cX6_putClass 30 = .ok (.iconst 3, 1) := by decide +kernel
theorem dX6_putClass_31 : decode cX6_putClass 31 = .ok (.ireturn, 1) := by decide +kernel
theorem dX6_putClass_32 : decode cX6_putClass 32 = .ok (.aload_n 0, 1) := by decide +kernel
theorem dX6_putClass_33 : decode cX6_putClass 33 = .ok (.getfield 44, 3) := by decide +kernel
theorem dX6_putClass_36 : decode cX6_putClass 36 = .ok (.dup, 1) := by decide +kernel
theorem dX6_putClass_37 : decode cX6_putClass 37 = .ok (.getfield 213, 3) := by decide +kernel
theorem dX6_putClass_40 : decode cX6_putClass 40 = .ok (.iload_n 2, 1) := by decide +kernel
theorem dX6_putClass_41 : decode cX6_putClass 41 = .ok (.ior, 1) := by decide +kernel
theorem dX6_putClass_42 : decode cX6_putClass 42 = .ok (.putfield 213, 3) := by decide +kernel
theorem dX6_putClass_45 : decode cX6_putClass 45 = .ok (.aload_n 0, 1) := by decide +kernel
theorem dX6_putClass_46 : decode cX6_putClass 46 = .ok (.bipush 7, 2) := by decide +kernel
theorem dX6_putClass_48 : decode cX6_putClass 48 = .ok (.putfield 57, 3) := by decide +kernel
theorem dX6_putClass_51 : decode cX6_putClass 51 = .ok (.iconst 0, 1) := by decide +kernel
theorem dX6_putClass_52 : decode cX6_putClass 52 = .ok (.ireturn, 1) := by decide +kernel
theorem dX6_putLineEnd_0 : decode cX6_putLineEnd 0 = .ok (.aload_n 0, 1) := by decide +kernel
theorem dX6_putLineEnd_1 : decode cX6_putLineEnd 1 = .ok (.getfield 101, 3) := by decide +kernel
theorem dX6_putLineEnd_4 : decode cX6_putLineEnd 4 = .ok (.iconst 2, 1) := by decide +kernel
theorem dX6_putLineEnd_5 : decode cX6_putLineEnd 5 = .ok (.if_icmp .eq 5, 3) := by decide +kernel
theorem dX6_putLineEnd_8 : decode cX6_putLineEnd 8 = .ok (.iconst 1, 1) := by decide +kernel
theorem dX6_putLineEnd_9 : decode cX6_putLineEnd 9 = .ok (.ireturn, 1) := by decide +kernel
theorem dX6_putLineEnd_10 : decode cX6_putLineEnd 10 = .ok (.aload_n 0, 1) := by decide +kernel
theorem dX6_putLineEnd_11 : decode cX6_putLineEnd 11 = .ok (.dup, 1) := by decide +kernel
theorem dX6_putLineEnd_12 : decode cX6_putLineEnd 12 = .ok (.getfield 60, 3) := by decide +kernel
theorem dX6_putLineEnd_15 : decode cX6_putLineEnd 15 = .ok (.iconst 1, 1) := by decide +kernel
theorem dX6_putLineEnd_16 : decode cX6_putLineEnd 16 = .ok (.iadd, 1) := by decide +kernel
theorem dX6_putLineEnd_17 : decode cX6_putLineEnd 17 = .ok (.putfield 60, 3) := by decide +kernel
theorem dX6_putLineEnd_20 : decode cX6_putLineEnd 20 = .ok (.aload_n 0, 1) := by decide +kernel
theorem dX6_putLineEnd_21 : decode cX6_putLineEnd 21 = .ok (.iconst 0, 1) := by decide +kernel
theorem dX6_putLineEnd_22 : decode cX6_putLineEnd 22 = .ok (.putfield 57, 3) := by decide +kernel
theorem dX6_putLineEnd_25 : decode cX6_putLineEnd 25 = .ok (.iconst 0, 1) := by decide +kernel
theorem dX6_putLineEnd_26 : decode cX6_putLineEnd 26 = .ok (.ireturn, 1) := by decide +kernel
theorem dX7_isAloneOn_0 : decode cX7_isAloneOn 0 = .ok (.aload_n 0, 1) := by decide +kernel
theorem dX7_isAloneOn_1 : decode cX7_isAloneOn 1 = .ok (.getfield 19, 3) := by decide +kernel
theorem dX7_isAloneOn_4 : decode cX7_isAloneOn 4 = .ok (.iload_n 1, 1) := by decide +kernel
theorem dX7_isAloneOn_5 : decode cX7_isAloneOn 5 = .ok (.if_icmp .ne 15, 3) := by decide +kernel
theorem dX7_isAloneOn_8 : decode cX7_isAloneOn 8 = .ok (.aload_n 0, 1) := by decide +kernel
theorem dX7_isAloneOn_9 : decode cX7_isAloneOn 9 = .ok (.getfield 22, 3) := by decide +kernel
theorem dX7_isAloneOn_12 : decode cX7_isAloneOn 12 = .ok (.iconst (-1), 1) := by decide +kernel
theorem dX7_isAloneOn_13 : decode cX7_isAloneOn 13 = .ok (.if_icmp .ne 7, 3) := by decide +kernel
theorem dX7_isAloneOn_16 : decode cX7_isAloneOn 16 = .ok (.iconst 1, 1) := by decide +kernel
theorem dX7_isAloneOn_17 : decode cX7_isAloneOn 17 = .ok (.goto 4, 3) := by decide +kernel
theorem dX7_isAloneOn_20 : decode cX7_isAloneOn 20 = .ok (.iconst 0, 1) := by decide +kernel
theorem dX7_isAloneOn_21 : decode cX7_isAloneOn 21 = .ok (.ireturn, 1) := by decide +kernel
theorem dX7_forgetFrom_0 : decode cX7_forgetFrom 0 = .ok (.iconst 0, 1) := by decide +kernel
theorem dX7_forgetFrom_1 : decode cX7_forgetFrom 1 = .ok (.istore_n 2, 1) := by decide +kernel
theorem dX7_forgetFrom_2 : decode cX7_forgetFrom 2 = .ok (.iload_n 2, 1) := by decide +kernel
theorem dX7_forgetFrom_3 : decode cX7_forgetFrom 3 = .ok (.bipush 80, 2) := by decide +kernel
theorem dX7_forgetFrom_5 : decode cX7_forgetFrom 5 = .ok (.if_icmp .ge 26, 3) := by decide +kernel
theorem dX7_forgetFrom_8 : decode cX7_forgetFrom 8 = .ok (.aload_n 0, 1) := by decide +kernel
theorem dX7_forgetFrom_9 : decode cX7_forgetFrom 9 = .ok (.getfield 9, 3) := by decide +kernel
theorem dX7_forgetFrom_12 : decode cX7_forgetFrom 12 = .ok (.iload_n 2, 1) := by decide +kernel
theorem dX7_forgetFrom_13 : decode cX7_forgetFrom 13 = .ok (.iaload, 1) := by decide +kernel
theorem dX7_forgetFrom_14 : decode cX7_forgetFrom 14 = .ok (.iload_n 1, 1) := by decide +kernel
theorem dX7_forgetFrom_15 : decode cX7_forgetFrom 15 = .ok (.if_icmp .lt 10, 3) := by decide +kernel
theorem dX7_forgetFrom_18 : decode cX7_forgetFrom 18 = .ok (.aload_n 0, 1) := by decide +kernel
theorem dX7_forgetFrom_19 : decode cX7_forgetFrom 19 = .ok (.getfield 9, 3) := by decide +kernel
theorem dX7_forgetFrom_22 : decode cX7_forgetFrom 22 = .ok (.iload_n 2, 1) := by decide +kernel
theorem dX7_forgetFrom_23 : decode cX7_forgetFrom 23 = .ok (.iconst (-1), 1) := by decide +kernel
theorem dX7_forgetFrom_24 : decode cX7_forgetFrom 24 = .ok (.iastore, 1) := by decide +kernel
theorem dX7_forgetFrom_25 : decode cX7_forgetFrom 25 = .ok (.iinc 2 1, 3) := by decide +kernel
theorem dX7_forgetFrom_28 : decode cX7_forgetFrom 28 = .ok (.goto (-26), 3) := by decide +kernel
theorem dX7_forgetFrom_31 : decode cX7_forgetFrom 31 = .ok (.return_, 1) := by decide +kernel
theorem dX7_isPaidBy_0 : decode cX7_isPaidBy 0 = .ok (.aload_n 0, 1) := by decide +kernel
theorem dX7_isPaidBy_1 : decode cX7_isPaidBy 1 = .ok (.getfield 9, 3) := by decide +kernel
theorem dX7_isPaidBy_4 : decode cX7_isPaidBy 4 = .ok (.iload_n 1, 1) := by decide +kernel
theorem dX7_isPaidBy_5 : decode cX7_isPaidBy 5 = .ok (.iaload, 1) := by decide +kernel
theorem dX7_isPaidBy_6 : decode cX7_isPaidBy 6 = .ok (.iconst (-1), 1) := by decide +kernel
theorem dX7_isPaidBy_7 : decode cX7_isPaidBy 7 = .ok (.if_icmp .eq 17, 3) := by decide +kernel
theorem dX7_isPaidBy_10 : decode cX7_isPaidBy 10 = .ok (.aload_n 0, 1) := by decide +kernel
theorem dX7_isPaidBy_11 : decode cX7_isPaidBy 11 = .ok (.getfield 9, 3) := by decide +kernel
theorem dX7_isPaidBy_14 : decode cX7_isPaidBy 14 = .ok (.iload_n 1, 1) := by decide +kernel
theorem dX7_isPaidBy_15 : decode cX7_isPaidBy 15 = .ok (.iaload, 1) := by decide +kernel
theorem dX7_isPaidBy_16 : decode cX7_isPaidBy 16 = .ok (.iload_n 2, 1) := by decide +kernel
theorem dX7_isPaidBy_17 : decode cX7_isPaidBy 17 = .ok (.if_icmp .gt 7, 3) := by decide +kernel
theorem dX7_isPaidBy_20 : decode cX7_isPaidBy 20 = .ok (.iconst 1, 1) := by decide +kernel
theorem dX7_isPaidBy_21 : decode cX7_isPaidBy 21 = .ok (.goto 4, 3) := by decide +kernel
theorem dX7_isPaidBy_24 : decode cX7_isPaidBy 24 = .ok (.iconst 0, 1) := by decide +kernel
theorem dX7_isPaidBy_25 : decode cX7_isPaidBy 25 = .ok (.ireturn, 1) := by decide +kernel
theorem dX8_countYears_0 : decode cX8_countYears 0 = .ok (.aload_n 0, 1) := by decide +kernel
theorem dX8_countYears_1 : decode cX8_countYears 1 = .ok (.iconst 0, 1) := by decide +kernel
theorem dX8_countYears_2 : decode cX8_countYears 2 = .ok (.putfield 37, 3) := by decide +kernel
theorem dX8_countYears_5 : decode cX8_countYears 5 = .ok (.aload_n 0, 1) := by decide +kernel
theorem dX8_countYears_6 : decode cX8_countYears 6 = .ok (.iconst 0, 1) := by decide +kernel
theorem dX8_countYears_7 : decode cX8_countYears 7 = .ok (.putfield 41, 3) := by decide +kernel
theorem dX8_countYears_10 : decode cX8_countYears 10 = .ok (.iconst 0, 1) := by decide +kernel
theorem dX8_countYears_11 : decode cX8_countYears 11 = .ok (.istore 4, 2) := by decide +kernel
theorem dX8_countYears_13 : decode cX8_countYears 13 = .ok (.iload 4, 2) := by decide +kernel
theorem dX8_countYears_15 : decode cX8_countYears 15 = .ok (.aload_n 0, 1) := by decide +kernel
theorem dX8_countYears_16 : decode cX8_countYears 16 = .ok (.getfield 23, 3) := by decide +kernel
theorem dX8_countYears_19 : decode cX8_countYears 19 = .ok (.getfield 44, 3) := by decide +kernel
theorem dX8_countYears_22 : decode cX8_countYears 22 = .ok (.if_icmp .ge 31, 3) := by decide +kernel
theorem dX8_countYears_25 : decode cX8_countYears 25 = .ok (.aload_n 0, 1) := by decide +kernel
theorem dX8_countYears_26 : decode cX8_countYears 26 = .ok (.getfield 23, 3) := by decide +kernel
theorem dX8_countYears_29 : decode cX8_countYears 29 = .ok (.getfield 49, 3) := by decide +kernel
theorem dX8_countYears_32 : decode cX8_countYears 32 = .ok (.iload 4, 2) := by decide +kernel
theorem dX8_countYears_34 : decode cX8_countYears 34 = .ok (.iaload, 1) := by decide +kernel
theorem dX8_countYears_35 : decode cX8_countYears 35 = .ok (.iload_n 1, 1) := by decide +kernel
theorem dX8_countYears_36 : decode cX8_countYears 36 = .ok (.if_icmp .ne 11, 3) := by decide +kernel
theorem dX8_countYears_39 : decode cX8_countYears 39 = .ok (.aload_n 0, 1) := by decide +kernel
theorem dX8_countYears_40 : decode cX8_countYears 40 = .ok (.iload 4, 2) := by decide +kernel
theorem dX8_countYears_42 : decode cX8_countYears 42 = .ok (.iload_n 2, 1) := by decide +kernel
theorem dX8_countYears_43 : decode cX8_countYears 43 = .ok (.iload_n 3, 1) := by decide +kernel
theorem dX8_countYears_44 : decode cX8_countYears 44 = .ok (.invokevirtual 52, 3) := by decide +kernel
theorem dX8_countYears_47 : decode cX8_countYears 47 = .ok (.iinc 4 1, 3) := by decide +kernel
theorem dX8_countYears_50 : decode cX8_countYears 50 = .ok (.goto (-37), 3) := by decide +kernel
theorem dX8_countYears_53 : decode cX8_countYears 53 = .ok (.return_, 1) := by decide +kernel
theorem dX8_countYearsOf_0 : decode cX8_countYearsOf 0 = .ok (.aload_n 0, 1) := by decide +kernel
theorem dX8_countYearsOf_1 : decode cX8_countYearsOf 1 = .ok (.getfield 27, 3) := by decide +kernel
theorem dX8_countYearsOf_4 : decode cX8_countYearsOf 4 = .ok (.getfield 56, 3) := by decide +kernel
theorem dX8_countYearsOf_7 : decode cX8_countYearsOf 7 = .ok (.iload_n 1, 1) := by decide +kernel
theorem dX8_countYearsOf_8 : decode cX8_countYearsOf 8 = .ok (.iaload, 1) := by decide +kernel
theorem dX8_countYearsOf_9 : decode cX8_countYearsOf 9 = .ok (.istore 4, 2) := by decide +kernel
theorem dX8_countYearsOf_11 : decode cX8_countYearsOf 11 = .ok (.iload 4, 2) := by decide +kernel
theorem dX8_countYearsOf_13 : decode cX8_countYearsOf 13 = .ok (.iconst (-1), 1) := by decide +kernel
theorem dX8_countYearsOf_14 : decode cX8_countYearsOf 14 = .ok (.if_icmp .ne 7, 3) := by decide +kernel
theorem dX8_countYearsOf_17 : decode cX8_countYearsOf 17 = .ok (.iload_n 3, 1) := by decide +kernel
theorem dX8_countYearsOf_18 : decode cX8_countYearsOf 18 = .ok (.goto 9, 3) := by decide +kernel
theorem dX8_countYearsOf_21 : decode cX8_countYearsOf 21 = .ok (.iload 4, 2) := by decide +kernel
theorem dX8_countYearsOf_23 : decode cX8_countYearsOf 23 = .ok (.iload_n 3, 1) := by decide +kernel
theorem dX8_countYearsOf_24 : decode cX8_countYearsOf 24 = .ok (.invokestatic 61, 3) := by decide +kernel
theorem dX8_countYearsOf_27 : decode cX8_countYearsOf 27 = .ok (.istore 5, 2) := by decide +kernel
theorem dX8_countYearsOf_29 : decode cX8_countYearsOf 29 = .ok (.aload_n 0, 1) := by decide +kernel
theorem dX8_countYearsOf_30 : decode cX8_countYearsOf 30 = .ok (.getfield 23, 3) := by decide +kernel
theorem dX8_countYearsOf_33 : decode cX8_countYearsOf 33 = .ok (.getfield 67, 3) := by decide +kernel
theorem dX8_countYearsOf_36 : decode cX8_countYearsOf 36 = .ok (.iload_n 1, 1) := by decide +kernel
theorem dX8_countYearsOf_37 : decode cX8_countYearsOf 37 = .ok (.iaload, 1) := by decide +kernel
theorem dX8_countYearsOf_38 : decode cX8_countYearsOf 38 = .ok (.bipush 20, 2) := by decide +kernel
theorem dX8_countYearsOf_40 : decode cX8_countYearsOf 40 = .ok (.iload_n 2, 1) := by decide +kernel
theorem dX8_countYearsOf_41 : decode cX8_countYearsOf 41 = .ok (.imul, 1) := by decide +kernel
theorem dX8_countYearsOf_42 : decode cX8_countYearsOf 42 = .ok (.iadd, 1) := by decide +kernel
theorem dX8_countYearsOf_43 : decode cX8_countYearsOf 43 = .ok (.istore 6, 2) := by decide +kernel
theorem dX8_countYearsOf_45 : decode cX8_countYearsOf 45 = .ok (.iload_n 2, 1) := by decide +kernel
theorem dX8_countYearsOf_46 : decode cX8_countYearsOf 46 = .ok (.bipush 9, 2) := by decide +kernel
theorem dX8_countYearsOf_48 : decode cX8_countYearsOf 48 = .ok (.if_icmp .ne 8, 3) := by decide +kernel
theorem dX8_countYearsOf_51 : decode cX8_countYearsOf 51 = .ok (.iload 5, 2) := by decide +kernel
theorem dX8_countYearsOf_53 : decode cX8_countYearsOf 53 = .ok (.goto 13, 3) := by decide +kernel
theorem dX8_countYearsOf_56 : decode cX8_countYearsOf 56 = .ok (.iload 5, 2) := by decide +kernel
theorem dX8_countYearsOf_58 : decode cX8_countYearsOf 58 = .ok (.iload 6, 2) := by decide +kernel
theorem dX8_countYearsOf_60 : decode cX8_countYearsOf 60 = .ok (.bipush 18, 2) := by decide +kernel
theorem dX8_countYearsOf_62 : decode cX8_countYearsOf 62 = .ok (.iadd, 1) := by decide +kernel
theorem dX8_countYearsOf_63 : decode cX8_countYearsOf 63 = .ok (.invokestatic 61, 3) := by decide +kernel
theorem dX8_countYearsOf_66 : decode cX8_countYearsOf 66 = .ok (.istore 7, 2) := by decide +kernel
theorem dX8_countYearsOf_68 : decode cX8_countYearsOf 68 = .ok (.iload 6, 2) := by decide +kernel
theorem dX8_countYearsOf_70 : decode cX8_countYearsOf 70 = .ok (.istore 8, 2) := by decide +kernel
theorem dX8_countYearsOf_72 : decode cX8_countYearsOf 72 = .ok (.iload 8, 2) := by decide +kernel
theorem dX8_countYearsOf_74 : decode cX8_countYearsOf 74 = .ok (.iload 7, 2) := by decide +kernel
theorem dX8_countYearsOf_76 : decode cX8_countYearsOf 76 = .ok (.if_icmp .gt 50, 3) := by decide +kernel
theorem dX8_countYearsOf_79 : decode cX8_countYearsOf 79 = .ok (.iload 8, 2) := by decide +kernel
theorem dX8_countYearsOf_81 : decode cX8_countYearsOf 81 = .ok (.ifCond .lt 39, 3) := by decide +kernel
theorem dX8_countYearsOf_84 : decode cX8_countYearsOf 84 = .ok (.aload_n 0, 1) := by decide +kernel
theorem dX8_countYearsOf_85 : decode cX8_countYearsOf 85 = .ok (.dup, 1) := by decide +kernel
theorem dX8_countYearsOf_86 : decode cX8_countYearsOf 86 = .ok (.getfield 37, 3) := by decide +kernel
theorem dX8_countYearsOf_89 : decode cX8_countYearsOf 89 = .ok (.iconst 1, 1) := by decide +kernel
theorem dX8_countYearsOf_90 : decode cX8_countYearsOf 90 = .ok (.iadd, 1) := by decide +kernel
theorem dX8_countYearsOf_91 : decode cX8_countYearsOf 91 = .ok (.putfield 37, 3) := by decide +kernel
theorem dX8_countYearsOf_94 : decode cX8_countYearsOf 94 = .ok (.iload 4, 2) := by decide +kernel
theorem dX8_countYearsOf_96 : decode cX8_countYearsOf 96 = .ok (.iload 8, 2) := by decide +kernel
theorem dX8_countYearsOf_98 : decode cX8_countYearsOf 98 = .ok (.if_icmp .eq 12, 3) := by decide +kernel
theorem dX8_countYearsOf_101 : decode cX8_countYearsOf 101 = .ok (.iload 4, 2) := by decide +kernel
theorem dX8_countYearsOf_103 : decode cX8_countYearsOf 103 = .ok (.iload 8, 2) := by decide +kernel
theorem dX8_countYearsOf_105 : decode cX8_countYearsOf 105 = .ok (.iconst 1, 1) := by decide +kernel
theorem dX8_countYearsOf_106 : decode cX8_countYearsOf 106 = .ok (.iadd, 1) := by decide +kernel
theorem dX8_countYearsOf_107 : decode cX8_countYearsOf 107 = .ok (.if_icmp .ne 13, 3) := by decide +kernel
theorem dX8_countYearsOf_110 : decode cX8_countYearsOf 110 = .ok (.aload_n 0, 1) := by decide +kernel
theorem dX8_countYearsOf_111 : decode cX8_countYearsOf 111 = .ok (.dup, 1) := by decide +kernel
theorem dX8_countYearsOf_112 : decode cX8_countYearsOf 112 = .ok (.getfield 41, 3) := by decide +kernel
theorem dX8_countYearsOf_115 : decode cX8_countYearsOf 115 = .ok (.iconst 1, 1) := by decide +kernel
theorem dX8_countYearsOf_116 : decode cX8_countYearsOf 116 = .ok (.iadd, 1) := by decide +kernel
theorem dX8_countYearsOf_117 : decode cX8_countYearsOf 117 = .ok (.putfield 41, 3) := by decide +kernel
theorem dX8_countYearsOf_120 : decode cX8_countYearsOf 120 = .ok (.iinc 8 2, 3) := by decide +kernel
theorem dX8_countYearsOf_123 : decode cX8_countYearsOf 123 = .ok (.goto (-51), 3) := by decide +kernel
theorem dX8_countYearsOf_126 : decode cX8_countYearsOf 126 = .ok (.return_, 1) := by decide +kernel
theorem dX8_live_0 : decode cX8_live 0 = .ok (.iload 4, 2) := by decide +kernel
theorem dX8_live_2 : decode cX8_live 2 = .ok (.ifCond .ne 12, 3) := by decide +kernel
theorem dX8_live_5 : decode cX8_live 5 = .ok (.aload_n 0, 1) := by decide +kernel
theorem dX8_live_6 : decode cX8_live 6 = .ok (.getfield 11, 3) := by decide +kernel
theorem dX8_live_9 : decode cX8_live 9 = .ok (.iload_n 1, 1) := by decide +kernel
theorem dX8_live_10 : decode cX8_live 10 = .ok (.aaload, 1) := by decide +kernel
theorem dX8_live_11 : decode cX8_live 11 = .ok (.iload_n 2, 1) := by decide +kernel
theorem dX8_live_12 : decode cX8_live 12 = .ok (.iaload, 1) := by decide +kernel
theorem dX8_live_13 : decode cX8_live 13 = .ok (.ireturn, 1) := by decide +kernel
theorem dX8_live_14 : decode cX8_live 14 = .ok (.aload_n 0, 1) := by decide +kernel
theorem dX8_live_15 : decode cX8_live 15 = .ok (.iload_n 1, 1) := by decide +kernel
theorem dX8_live_16 : decode cX8_live 16 = .ok (.iload_n 2, 1) := by decide +kernel
theorem dX8_live_17 : decode cX8_live 17 = .ok (.iload_n 3, 1) := by decide +kernel
theorem dX8_live_18 : decode cX8_live 18 = .ok (.invokevirtual 70, 3) := by decide +kernel
theorem dX8_live_21 : decode cX8_live 21 = .ok (.aload_n 0, 1) := by decide +kernel
theorem dX8_live_22 : decode cX8_live 22 = .ok (.getfield 37, 3) := by decide +kernel
theorem dX8_live_25 : decode cX8_live 25 = .ok (.ifCond .ne 12, 3) := by decide +kernel
theorem dX8_live_28 : decode cX8_live 28 = .ok (.aload_n 0, 1) := by decide +kernel
theorem dX8_live_29 : decode cX8_live 29 = .ok (.getfield 11, 3) := by decide +kernel
theorem dX8_live_32 : decode cX8_live 32 = .ok (.iload_n 1, 1) := by decide +kernel
theorem dX8_live_33 : decode cX8_live 33 = .ok (.aaload, 1) := by decide +kernel
theorem dX8_live_34 : decode cX8_live 34 = .ok (.iload_n 2, 1) := by decide +kernel
theorem dX8_live_35 : decode cX8_live 35 = .ok (.iaload, 1) := by decide +kernel
theorem dX8_live_36 : decode cX8_live 36 = .ok (.ireturn, 1) := by decide +kernel
theorem dX8_live_37 : decode cX8_live 37 = .ok (.aload_n 0, 1) := by decide +kernel
theorem dX8_live_38 : decode cX8_live 38 = .ok (.getfield 41, 3) := by decide +kernel
theorem dX8_live_41 : decode cX8_live 41 = .ok (.istore 5, 2) := by decide +kernel
theorem dX8_live_43 : decode cX8_live 43 = .ok (.iload 4, 2) := by decide +kernel
theorem dX8_live_45 : decode cX8_live 45 = .ok (.iconst 2, 1) := by decide +kernel
theorem dX8_live_46 : decode cX8_live 46 = .ok (.if_icmp .ne 21, 3) := by decide +kernel
theorem dX8_live_49 : decode cX8_live 49 = .ok (.aload_n 0, 1) := by decide +kernel
theorem dX8_live_50 : decode cX8_live 50 = .ok (.getfield 37, 3) := by decide +kernel
theorem dX8_live_53 : decode cX8_live 53 = .ok (.aload_n 0, 1) := by decide +kernel
theorem dX8_live_54 : decode cX8_live 54 = .ok (.getfield 41, 3) := by decide +kernel
theorem dX8_live_57 : decode cX8_live 57 = .ok (.iconst 1, 1) := by decide +kernel
theorem dX8_live_58 : decode cX8_live 58 = .ok (.iadd, 1) := by decide +kernel
theorem dX8_live_59 : decode cX8_live 59 = .ok (.invokestatic 61, 3) := by decide +kernel
theorem dX8_live_62 : decode cX8_live 62 = .ok (.istore 5, 2) := by decide +kernel
theorem dX8_live_64 : decode cX8_live 64 = .ok (.goto 21, 3) := by decide +kernel
theorem dX8_live_67 : decode cX8_live 67 = .ok (.iload 4, 2) := by decide +kernel
theorem dX8_live_69 : decode cX8_live 69 = .ok (.iconst 3, 1) := by decide +kernel
theorem dX8_live_70 : decode cX8_live 70 = .ok (.if_icmp .ne 15, 3) := by decide +kernel
theorem dX8_live_73 : decode cX8_live 73 = .ok (.iconst 0, 1) := by decide +kernel
theorem dX8_live_74 : decode cX8_live 74 = .ok (.aload_n 0, 1) := by decide +kernel
theorem dX8_live_75 : decode cX8_live 75 = .ok (.getfield 41, 3) := by decide +kernel
theorem dX8_live_78 : decode cX8_live 78 = .ok (.iconst 1, 1) := by decide +kernel
theorem dX8_live_79 : decode cX8_live 79 = .ok (.isub, 1) := by decide +kernel
theorem dX8_live_80 : decode cX8_live 80 = .ok (.invokestatic 73, 3) := by decide +kernel
theorem dX8_live_83 : decode cX8_live 83 = .ok (.istore 5, 2) := by decide +kernel
theorem dX8_live_85 : decode cX8_live 85 = .ok (.sipush 1000, 3) := by decide +kernel
theorem dX8_live_88 : decode cX8_live 88 = .ok (.aload_n 0, 1) := by decide +kernel
theorem dX8_live_89 : decode cX8_live 89 = .ok (.getfield 37, 3) := by decide +kernel
theorem dX8_live_92 : decode cX8_live 92 = .ok (.iload 5, 2) := by decide +kernel
theorem dX8_live_94 : decode cX8_live 94 = .ok (.isub, 1) := by decide +kernel
theorem dX8_live_95 : decode cX8_live 95 = .ok (.imul, 1) := by decide +kernel
theorem dX8_live_96 : decode cX8_live 96 = .ok (.aload_n 0, 1) := by decide +kernel
theorem dX8_live_97 : decode cX8_live 97 = .ok (.getfield 37, 3) := by decide +kernel
theorem dX8_live_100 : decode cX8_live 100 = .ok (.idiv, 1) := by decide +kernel
theorem dX8_live_101 : decode cX8_live 101 = .ok (.ireturn, 1) := by decide +kernel
theorem dX8_fillRow_0 : decode cX8_fillRow 0 = .ok (.iconst 0, 1) := by decide +kernel
theorem dX8_fillRow_1 : decode cX8_fillRow 1 = .ok (.istore 5, 2) := by decide +kernel
theorem dX8_fillRow_3 : decode cX8_fillRow 3 = .ok (.iload 5, 2) := by decide +kernel
theorem dX8_fillRow_5 : decode cX8_fillRow 5 = .ok (.bipush 10, 2) := by decide +kernel
theorem dX8_fillRow_7 : decode cX8_fillRow 7 = .ok (.if_icmp .ge 31, 3) := by decide +kernel
theorem dX8_fillRow_10 : decode cX8_fillRow 10 = .ok (.aload_n 1, 1) := by decide +kernel
theorem dX8_fillRow_11 : decode cX8_fillRow 11 = .ok (.iload 5, 2) := by decide +kernel
theorem dX8_fillRow_13 : decode cX8_fillRow 13 = .ok (.aload_n 0, 1) := by decide +kernel
theorem dX8_fillRow_14 : decode cX8_fillRow 14 = .ok (.aload_n 0, 1) := by decide +kernel
theorem dX8_fillRow_15 : decode cX8_fillRow 15 = .ok (.getfield 23, 3) := by decide +kernel
theorem dX8_fillRow_18 : decode cX8_fillRow 18 = .ok (.getfield 49, 3) := by decide +kernel
theorem dX8_fillRow_21 : decode cX8_fillRow 21 = .ok (.iload_n 2, 1) := by decide +kernel
theorem dX8_fillRow_22 : decode cX8_fillRow 22 = .ok (.iaload, 1) := by decide +kernel
theorem dX8_fillRow_23 : decode cX8_fillRow 23 = .ok (.iload 5, 2) := by decide +kernel
theorem dX8_fillRow_25 : decode cX8_fillRow 25 = .ok (.iload_n 3, 1) := by decide +kernel
theorem dX8_fillRow_26 : decode cX8_fillRow 26 = .ok (.iload 4, 2) := by decide +kernel
theorem dX8_fillRow_28 : decode cX8_fillRow 28 = .ok (.invokevirtual 76, 3) := by decide +kernel
theorem dX8_fillRow_31 : decode cX8_fillRow 31 = .ok (.iastore, 1) := by decide +kernel
theorem dX8_fillRow_32 : decode cX8_fillRow 32 = .ok (.iinc 5 1, 3) := by decide +kernel
theorem dX8_fillRow_35 : decode cX8_fillRow 35 = .ok (.goto (-32), 3) := by decide +kernel
theorem dX8_fillRow_38 : decode cX8_fillRow 38 = .ok (.return_, 1) := by decide +kernel
theorem dX8_worthOf_0 : decode cX8_worthOf 0 = .ok (.aload_n 0, 1) := by decide +kernel
theorem dX8_worthOf_1 : decode cX8_worthOf 1 = .ok (.getfield 23, 3) := by decide +kernel
theorem dX8_worthOf_4 : decode cX8_worthOf 4 = .ok (.iload_n 1, 1) := by decide +kernel
theorem dX8_worthOf_5 : decode cX8_worthOf 5 = .ok (.iload_n 3, 1) := by decide +kernel
theorem dX8_worthOf_6 : decode cX8_worthOf 6 = .ok (.invokevirtual 80, 3) := by decide +kernel
theorem dX8_worthOf_9 : decode cX8_worthOf 9 = .ok (.istore 6, 2) := by decide +kernel
theorem dX8_worthOf_11 : decode cX8_worthOf 11 = .ok (.aload_n 0, 1) := by decide +kernel
theorem dX8_worthOf_12 : decode cX8_worthOf 12 = .ok (.aload_n 0, 1) := by decide +kernel
theorem dX8_worthOf_13 : decode cX8_worthOf 13 = .ok (.getfield 16, 3) := by decide +kernel
theorem dX8_worthOf_16 : decode cX8_worthOf 16 = .ok (.iload_n 1, 1) := by decide +kernel
theorem dX8_worthOf_17 : decode cX8_worthOf 17 = .ok (.iload_n 3, 1) := by decide +kernel
theorem dX8_worthOf_18 : decode cX8_worthOf 18 = .ok (.iload 4, 2) := by decide +kernel
theorem dX8_worthOf_20 : decode cX8_worthOf 20 = .ok (.invokevirtual 83, 3) := by decide +kernel
theorem dX8_worthOf_23 : decode cX8_worthOf 23 = .ok (.iload 6, 2) := by decide +kernel
theorem dX8_worthOf_25 : decode cX8_worthOf 25 = .ok (.aload_n 0, 1) := by decide +kernel
theorem dX8_worthOf_26 : decode cX8_worthOf 26 = .ok (.getfield 16, 3) := by decide +kernel
theorem dX8_worthOf_29 : decode cX8_worthOf 29 = .ok (.iload 5, 2) := by decide +kernel
theorem dX8_worthOf_31 : decode cX8_worthOf 31 = .ok (.invokestatic 87, 3) := by decide +kernel
theorem dX8_worthOf_34 : decode cX8_worthOf 34 = .ok (.istore 7, 2) := by decide +kernel
theorem dX8_worthOf_36 : decode cX8_worthOf 36 = .ok (.iload_n 2, 1) := by decide +kernel
theorem dX8_worthOf_37 : decode cX8_worthOf 37 = .ok (.iconst (-1), 1) := by decide +kernel
theorem dX8_worthOf_38 : decode cX8_worthOf 38 = .ok (.if_icmp .ne 6, 3) := by decide +kernel
theorem dX8_worthOf_41 : decode cX8_worthOf 41 = .ok (.iload 7, 2) := by decide +kernel
theorem dX8_worthOf_43 : decode cX8_worthOf 43 = .ok (.ireturn, 1) := by decide +kernel
theorem dX8_worthOf_44 : decode cX8_worthOf 44 = .ok (.aload_n 0, 1) := by decide +kernel
theorem dX8_worthOf_45 : decode cX8_worthOf 45 = .ok (.getfield 23, 3) := by decide +kernel
theorem dX8_worthOf_48 : decode cX8_worthOf 48 = .ok (.iload_n 2, 1) := by decide +kernel
theorem dX8_worthOf_49 : decode cX8_worthOf 49 = .ok (.iload_n 3, 1) := by decide +kernel
theorem dX8_worthOf_50 : decode cX8_worthOf 50 = .ok (.invokevirtual 80, 3) := by decide +kernel
theorem dX8_worthOf_53 : decode cX8_worthOf 53 = .ok (.istore 8, 2) := by decide +kernel
theorem dX8_worthOf_55 : decode cX8_worthOf 55 = .ok (.aload_n 0, 1) := by decide +kernel
theorem dX8_worthOf_56 : decode cX8_worthOf 56 = .ok (.aload_n 0, 1) := by decide +kernel
theorem dX8_worthOf_57 : decode cX8_worthOf 57 = .ok (.getfield 20, 3) := by decide +kernel
theorem dX8_worthOf_60 : decode cX8_worthOf 60 = .ok (.iload_n 2, 1) := by decide +kernel
theorem dX8_worthOf_61 : decode cX8_worthOf 61 = .ok (.iload_n 3, 1) := by decide +kernel
theorem dX8_worthOf_62 : decode cX8_worthOf 62 = .ok (.iload 4, 2) := by decide +kernel
theorem dX8_worthOf_64 : decode cX8_worthOf 64 = .ok (.invokevirtual 83, 3) := by decide +kernel
theorem dX8_worthOf_67 : decode cX8_worthOf 67 = .ok (.iload 7, 2) := by decide +kernel
theorem dX8_worthOf_69 : decode cX8_worthOf 69 = .ok (.iload 8, 2) := by decide +kernel
theorem dX8_worthOf_71 : decode cX8_worthOf 71 = .ok (.aload_n 0, 1) := by decide +kernel
theorem dX8_worthOf_72 : decode cX8_worthOf 72 = .ok (.getfield 20, 3) := by decide +kernel
theorem dX8_worthOf_75 : decode cX8_worthOf 75 = .ok (.iload 5, 2) := by decide +kernel
theorem dX8_worthOf_77 : decode cX8_worthOf 77 = .ok (.invokestatic 87, 3) := by decide +kernel
theorem dX8_worthOf_80 : decode cX8_worthOf 80 = .ok (.iadd, 1) := by decide +kernel
theorem dX8_worthOf_81 : decode cX8_worthOf 81 = .ok (.aload_n 0, 1) := by decide +kernel
theorem dX8_worthOf_82 : decode cX8_worthOf 82 = .ok (.iload 6, 2) := by decide +kernel
theorem dX8_worthOf_84 : decode cX8_worthOf 84 = .ok (.iload 8, 2) := by decide +kernel
theorem dX8_worthOf_86 : decode cX8_worthOf 86 = .ok (.iload 5, 2) := by decide +kernel
theorem dX8_worthOf_88 : decode cX8_worthOf 88 = .ok (.invokevirtual 91, 3) := by decide +kernel
theorem dX8_worthOf_91 : decode cX8_worthOf 91 = .ok (.isub, 1) := by decide +kernel
theorem dX8_worthOf_92 : decode cX8_worthOf 92 = .ok (.ireturn, 1) := by decide +kernel
theorem dX8_worthOnOne_0 : decode cX8_worthOnOne 0 = .ok (.iconst 0, 1) := by decide +kernel
theorem dX8_worthOnOne_1 : decode cX8_worthOnOne 1 = .ok (.istore_n 3, 1) := by decide +kernel
theorem dX8_worthOnOne_2 : decode cX8_worthOnOne 2 = .ok (.bipush 99, 2) := by decide +kernel
theorem dX8_worthOnOne_4 : decode cX8_worthOnOne 4 = .ok (.istore 4, 2) := by decide +kernel
theorem dX8_worthOnOne_6 : decode cX8_worthOnOne 6 = .ok (.iload 4, 2) := by decide +kernel
theorem dX8_worthOnOne_8 : decode cX8_worthOnOne 8 = .ok (.iload_n 0, 1) := by decide +kernel
theorem dX8_worthOnOne_9 : decode cX8_worthOnOne 9 = .ok (.if_icmp .lt 22, 3) := by decide +kernel
theorem dX8_worthOnOne_12 : decode cX8_worthOnOne 12 = .ok (.iload_n 3, 1) := by decide +kernel
theorem dX8_worthOnOne_13 : decode cX8_worthOnOne 13 = .ok (.aload_n 1, 1) := by decide +kernel
theorem dX8_worthOnOne_14 : decode cX8_worthOnOne 14 = .ok (.iload 4, 2) := by decide +kernel
theorem dX8_worthOnOne_16 : decode cX8_worthOnOne 16 = .ok (.invokestatic 95, 3) := by decide +kernel
theorem dX8_worthOnOne_19 : decode cX8_worthOnOne 19 = .ok (.iaload, 1) := by decide +kernel
theorem dX8_worthOnOne_20 : decode cX8_worthOnOne 20 = .ok (.iload_n 2, 1) := by decide +kernel
theorem dX8_worthOnOne_21 : decode cX8_worthOnOne 21 = .ok (.invokestatic 99, 3) := by decide +kernel
theorem dX8_worthOnOne_24 : decode cX8_worthOnOne 24 = .ok (.istore_n 3, 1) := by decide +kernel
theorem dX8_worthOnOne_25 : decode cX8_worthOnOne 25 = .ok (.iinc 4 (-1), 3) := by decide +kernel
theorem dX8_worthOnOne_28 : decode cX8_worthOnOne 28 = .ok (.goto (-22), 3) := by decide +kernel
theorem dX8_worthOnOne_31 : decode cX8_worthOnOne 31 = .ok (.iload_n 3, 1) := by decide +kernel
theorem dX8_worthOnOne_32 : decode cX8_worthOnOne 32 = .ok (.ireturn, 1) := by decide +kernel
theorem dX8_worthTillFirst_0 : decode cX8_worthTillFirst 0 = .ok (.iconst 0, 1) := by decide +kernel
theorem dX8_worthTillFirst_1 : decode cX8_worthTillFirst 1 = .ok (.istore 4, 2) := by decide +kernel
theorem dX8_worthTillFirst_3 : decode cX8_worthTillFirst 3 = .ok (.bipush 99, 2) := by decide +kernel
theorem dX8_worthTillFirst_5 : decode cX8_worthTillFirst 5 = .ok (.iload_n 1, 1) := by decide +kernel
theorem dX8_worthTillFirst_6 : decode cX8_worthTillFirst 6 = .ok (.iload_n 2, 1) := by decide +kernel
theorem dX8_worthTillFirst_7 : decode cX8_worthTillFirst 7 = .ok (.invokestatic 73, 3) := by decide +kernel
theorem dX8_worthTillFirst_10 : decode cX8_worthTillFirst 10 = .ok (.isub, 1) := by decide +kernel
theorem dX8_worthTillFirst_11 : decode cX8_worthTillFirst 11 = .ok (.istore 5, 2) := by decide +kernel
theorem dX8_worthTillFirst_13 : decode cX8_worthTillFirst 13 = .ok (.iload 5, 2) := by decide +kernel
theorem dX8_worthTillFirst_15 : decode cX8_worthTillFirst 15 = .ok (.ifCond .lt 50, 3) := by decide +kernel
theorem dX8_worthTillFirst_18 : decode cX8_worthTillFirst 18 = .ok (.aload_n 0, 1) := by decide +kernel
theorem dX8_worthTillFirst_19 : decode cX8_worthTillFirst 19 = .ok (.getfield 16, 3) := by decide +kernel
theorem dX8_worthTillFirst_22 : decode cX8_worthTillFirst 22 = .ok (.iload_n 1, 1) := by decide +kernel
theorem dX8_worthTillFirst_23 : decode cX8_worthTillFirst 23 = .ok (.iload 5, 2) := by decide +kernel
theorem dX8_worthTillFirst_25 : decode cX8_worthTillFirst 25 = .ok (.iadd, 1) := by decide +kernel
theorem dX8_worthTillFirst_26 : decode cX8_worthTillFirst 26 = .ok (.invokestatic 95, 3) := by decide +kernel
theorem dX8_worthTillFirst_29 : decode cX8_worthTillFirst 29 = .ok (.iaload, 1) := by decide +kernel
theorem dX8_worthTillFirst_30 : decode cX8_worthTillFirst 30 = .ok (.aload_n 0, 1) := by decide +kernel
theorem dX8_worthTillFirst_31 : decode cX8_worthTillFirst 31 = .ok (.getfield 20, 3) := by decide +kernel
theorem dX8_worthTillFirst_34 : decode cX8_worthTillFirst 34 = .ok (.iload_n 2, 1) := by decide +kernel
theorem dX8_worthTillFirst_35 : decode cX8_worthTillFirst 35 = .ok (.iload 5, 2) := by decide +kernel
theorem dX8_worthTillFirst_37 : decode cX8_worthTillFirst 37 = .ok (.iadd, 1) := by decide +kernel
theorem dX8_worthTillFirst_38 : decode cX8_worthTillFirst 38 = .ok (.invokestatic 95, 3) := by decide +kernel
theorem dX8_worthTillFirst_41 : decode cX8_worthTillFirst 41 = .ok (.iaload, 1) := by decide +kernel
theorem dX8_worthTillFirst_42 : decode cX8_worthTillFirst 42 = .ok (.imul, 1) := by decide +kernel
theorem dX8_worthTillFirst_43 : decode cX8_worthTillFirst 43 = .ok (.sipush 1000, 3) := by decide +kernel
theorem dX8_worthTillFirst_46 : decode cX8_worthTillFirst 46 = .ok (.idiv, 1) := by decide +kernel
theorem dX8_worthTillFirst_47 : decode cX8_worthTillFirst 47 = .ok (.istore 6, 2) := by decide +kernel
theorem dX8_worthTillFirst_49 : decode cX8_worthTillFirst 49 = .ok (.iload 4, 2) := by decide +kernel
theorem dX8_worthTillFirst_51 : decode cX8_worthTillFirst 51 = .ok (.iload 6, 2) := by decide +kernel
theorem dX8_worthTillFirst_53 : decode cX8_worthTillFirst 53 = .ok (.iload_n 3, 1) := by decide +kernel
theorem dX8_worthTillFirst_54 : decode cX8_worthTillFirst 54 = .ok (.invokestatic 99, 3) := by decide +kernel
theorem dX8_worthTillFirst_57 : decode cX8_worthTillFirst 57 = .ok (.istore 4, 2) := by decide +kernel
theorem dX8_worthTillFirst_59 : decode cX8_worthTillFirst 59 = .ok (.iinc 5 (-1), 3) := by decide +kernel
theorem dX8_worthTillFirst_62 : decode cX8_worthTillFirst 62 = .ok (.goto (-49), 3) := by decide +kernel
theorem dX8_worthTillFirst_65 : decode cX8_worthTillFirst 65 = .ok (.iload 4, 2) := by decide +kernel
theorem dX8_worthTillFirst_67 : decode cX8_worthTillFirst 67 = .ok (.ireturn, 1) := by decide +kernel
theorem dX8_yearBefore_0 : decode cX8_yearBefore 0 = .ok (.iload_n 2, 1) := by decide +kernel
theorem dX8_yearBefore_1 : decode cX8_yearBefore 1 = .ok (.ifCond .ge 5, 3) := by decide +kernel
theorem dX8_yearBefore_4 : decode cX8_yearBefore 4 = .ok (.iconst 0, 1) := by decide +kernel
theorem dX8_yearBefore_5 : decode cX8_yearBefore 5 = .ok (.ireturn, 1) := by decide +kernel
theorem dX8_yearBefore_6 : decode cX8_yearBefore 6 = .ok (.sipush 1000, 3) := by decide +kernel
theorem dX8_yearBefore_9 : decode cX8_yearBefore 9 = .ok (.iload_n 0, 1) := by decide +kernel
theorem dX8_yearBefore_10 : decode cX8_yearBefore 10 = .ok (.iadd, 1) := by decide +kernel
theorem dX8_yearBefore_11 : decode cX8_yearBefore 11 = .ok (.iload_n 1, 1) := by decide +kernel
theorem dX8_yearBefore_12 : decode cX8_yearBefore 12 = .ok (.imul, 1) := by decide +kernel
theorem dX8_yearBefore_13 : decode cX8_yearBefore 13 = .ok (.sipush 1000, 3) := by decide +kernel
theorem dX8_yearBefore_16 : decode cX8_yearBefore 16 = .ok (.idiv, 1) := by decide +kernel
theorem dX8_yearBefore_17 : decode cX8_yearBefore 17 = .ok (.iload_n 2, 1) := by decide +kernel
theorem dX8_yearBefore_18 : decode cX8_yearBefore 18 = .ok (.imul, 1) := by decide +kernel
theorem dX8_yearBefore_19 : decode cX8_yearBefore 19 = .ok (.iload_n 2, 1) := by decide +kernel
theorem dX8_yearBefore_20 : decode cX8_yearBefore 20 = .ok (.iconst 1, 1) := by decide +kernel
theorem dX8_yearBefore_21 : decode cX8_yearBefore 21 = .ok (.iadd, 1) := by decide +kernel
theorem dX8_yearBefore_22 : decode cX8_yearBefore 22 = .ok (.idiv, 1) := by decide +kernel
theorem dX8_yearBefore_23 : decode cX8_yearBefore 23 = .ok (.ireturn, 1) := by decide +kernel
theorem dX10_feed_0 : decode cX10_feed 0 = .ok (.aload_n 0, 1) := by decide +kernel
theorem dX10_feed_1 : decode cX10_feed 1 = .ok (.getfield 10, 3) := by decide +kernel
theorem dX10_feed_4 : decode cX10_feed 4 = .ok (.getfield 71, 3) := by decide +kernel
theorem dX10_feed_7 : decode cX10_feed 7 = .ok (.bipush 20, 2) := by decide +kernel
theorem dX10_feed_9 : decode cX10_feed 9 = .ok (.iadd, 1) := by decide +kernel
theorem dX10_feed_10 : decode cX10_feed 10 = .ok (.sipush 500, 3) := by decide +kernel
theorem dX10_feed_13 : decode cX10_feed 13 = .ok (.if_icmp .le 5, 3) := by decide +kernel
theorem dX10_feed_16 : decode cX10_feed 16 = .ok (.iconst (-1), 1) := by decide +kernel
