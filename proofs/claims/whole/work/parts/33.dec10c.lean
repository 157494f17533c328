theorem dX10_feed_17 : decode cX10_feed 17 = .ok (.ireturn, 1) := by decide +kernel
theorem dX10_feed_18 : decode cX10_feed 18 = .ok (.aload_n 0, 1) := by decide +kernel
theorem dX10_feed_19 : decode cX10_feed 19 = .ok (.getfield 10, 3) := by decide +kernel
theorem dX10_feed_22 : decode cX10_feed 22 = .ok (.iload_n 1, 1) := by decide +kernel
theorem dX10_feed_23 : decode cX10_feed 23 = .ok (.invokevirtual 75, 3) := by decide +kernel
theorem dX10_feed_26 : decode cX10_feed 26 = .ok (.aload_n 0, 1) := by decide +kernel
theorem dX10_feed_27 : decode cX10_feed 27 = .ok (.getfield 10, 3) := by decide +kernel
theorem dX10_feed_30 : decode cX10_feed 30 = .ok (.iload_n 2, 1) := by decide +kernel
theorem dX10_feed_31 : decode cX10_feed 31 = .ok (.invokevirtual 75, 3) := by decide +kernel
theorem dX10_feed_34 : decode cX10_feed 34 = .ok (.aload_n 0, 1) := by decide +kernel
theorem dX10_feed_35 : decode cX10_feed 35 = .ok (.getfield 10, 3) := by decide +kernel
theorem dX10_feed_38 : decode cX10_feed 38 = .ok (.iload_n 3, 1) := by decide +kernel
theorem dX10_feed_39 : decode cX10_feed 39 = .ok (.invokevirtual 75, 3) := by decide +kernel
theorem dX10_feed_42 : decode cX10_feed 42 = .ok (.aload_n 0, 1) := by decide +kernel
theorem dX10_feed_43 : decode cX10_feed 43 = .ok (.getfield 10, 3) := by decide +kernel
theorem dX10_feed_46 : decode cX10_feed 46 = .ok (.iload 4, 2) := by decide +kernel
theorem dX10_feed_48 : decode cX10_feed 48 = .ok (.invokevirtual 75, 3) := by decide +kernel
theorem dX10_feed_51 : decode cX10_feed 51 = .ok (.aload_n 0, 1) := by decide +kernel
theorem dX10_feed_52 : decode cX10_feed 52 = .ok (.getfield 10, 3) := by decide +kernel
theorem dX10_feed_55 : decode cX10_feed 55 = .ok (.iload 5, 2) := by decide +kernel
theorem dX10_feed_57 : decode cX10_feed 57 = .ok (.invokevirtual 75, 3) := by decide +kernel
theorem dX10_feed_60 : decode cX10_feed 60 = .ok (.aload_n 0, 1) := by decide +kernel
theorem dX10_feed_61 : decode cX10_feed 61 = .ok (.getfield 10, 3) := by decide +kernel
theorem dX10_feed_64 : decode cX10_feed 64 = .ok (.getfield 71, 3) := by decide +kernel
theorem dX10_feed_67 : decode cX10_feed 67 = .ok (.ireturn, 1) := by decide +kernel
theorem dX10_acts_0 : decode cX10_acts 0 = .ok (.iload_n 1, 1) := by decide +kernel
theorem dX10_acts_1 : decode cX10_acts 1 = .ok (.ifCond .lt 14, 3) := by decide +kernel
theorem dX10_acts_4 : decode cX10_acts 4 = .ok (.iload_n 1, 1) := by decide +kernel
theorem dX10_acts_5 : decode cX10_acts 5 = .ok (.aload_n 0, 1) := by decide +kernel
theorem dX10_acts_6 : decode cX10_acts 6 = .ok (.getfield 10, 3) := by decide +kernel
theorem dX10_acts_9 : decode cX10_acts 9 = .ok (.getfield 71, 3) := by decide +kernel
theorem dX10_acts_12 : decode cX10_acts 12 = .ok (.if_icmp .le 6, 3) := by decide +kernel
theorem dX10_acts_15 : decode cX10_acts 15 = .ok (.bipush (-2), 2) := by decide +kernel
theorem dX10_acts_17 : decode cX10_acts 17 = .ok (.ireturn, 1) := by decide +kernel
theorem dX10_acts_18 : decode cX10_acts 18 = .ok (.aload_n 0, 1) := by decide +kernel
theorem dX10_acts_19 : decode cX10_acts 19 = .ok (.getfield 10, 3) := by decide +kernel
theorem dX10_acts_22 : decode cX10_acts 22 = .ok (.iload_n 1, 1) := by decide +kernel
theorem dX10_acts_23 : decode cX10_acts 23 = .ok (.aload_n 0, 1) := by decide +kernel
theorem dX10_acts_24 : decode cX10_acts 24 = .ok (.getfield 23, 3) := by decide +kernel
theorem dX10_acts_27 : decode cX10_acts 27 = .ok (.invokevirtual 79, 3) := by decide +kernel
theorem dX10_acts_30 : decode cX10_acts 30 = .ok (.istore_n 2, 1) := by decide +kernel
theorem dX10_acts_31 : decode cX10_acts 31 = .ok (.iload_n 2, 1) := by decide +kernel
theorem dX10_acts_32 : decode cX10_acts 32 = .ok (.iconst (-1), 1) := by decide +kernel
theorem dX10_acts_33 : decode cX10_acts 33 = .ok (.if_icmp .ne 5, 3) := by decide +kernel
theorem dX10_acts_36 : decode cX10_acts 36 = .ok (.iconst (-1), 1) := by decide +kernel
theorem dX10_acts_37 : decode cX10_acts 37 = .ok (.ireturn, 1) := by decide +kernel
theorem dX10_acts_38 : decode cX10_acts 38 = .ok (.aload_n 0, 1) := by decide +kernel
theorem dX10_acts_39 : decode cX10_acts 39 = .ok (.getfield 19, 3) := by decide +kernel
theorem dX10_acts_42 : decode cX10_acts 42 = .ok (.astore_n 3, 1) := by decide +kernel
theorem dX10_acts_43 : decode cX10_acts 43 = .ok (.aload_n 0, 1) := by decide +kernel
theorem dX10_acts_44 : decode cX10_acts 44 = .ok (.aload_n 0, 1) := by decide +kernel
theorem dX10_acts_45 : decode cX10_acts 45 = .ok (.getfield 23, 3) := by decide +kernel
theorem dX10_acts_48 : decode cX10_acts 48 = .ok (.putfield 19, 3) := by decide +kernel
theorem dX10_acts_51 : decode cX10_acts 51 = .ok (.aload_n 0, 1) := by decide +kernel
theorem dX10_acts_52 : decode cX10_acts 52 = .ok (.aload_n 3, 1) := by decide +kernel
theorem dX10_acts_53 : decode cX10_acts 53 = .ok (.putfield 23, 3) := by decide +kernel
theorem dX10_acts_56 : decode cX10_acts 56 = .ok (.aload_n 0, 1) := by decide +kernel
theorem dX10_acts_57 : decode cX10_acts 57 = .ok (.getfield 47, 3) := by decide +kernel
theorem dX10_acts_60 : decode cX10_acts 60 = .ok (.invokevirtual 83, 3) := by decide +kernel
theorem dX10_acts_63 : decode cX10_acts 63 = .ok (.iload_n 2, 1) := by decide +kernel
theorem dX10_acts_64 : decode cX10_acts 64 = .ok (.ireturn, 1) := by decide +kernel
theorem dX10_fault_0 : decode cX10_fault 0 = .ok (.iload_n 1, 1) := by decide +kernel
theorem dX10_fault_1 : decode cX10_fault 1 = .ok (.ifCond .ne 11, 3) := by decide +kernel
theorem dX10_fault_4 : decode cX10_fault 4 = .ok (.aload_n 0, 1) := by decide +kernel
theorem dX10_fault_5 : decode cX10_fault 5 = .ok (.getfield 10, 3) := by decide +kernel
theorem dX10_fault_8 : decode cX10_fault 8 = .ok (.getfield 86, 3) := by decide +kernel
theorem dX10_fault_11 : decode cX10_fault 11 = .ok (.ireturn, 1) := by decide +kernel
theorem dX10_fault_12 : decode cX10_fault 12 = .ok (.iload_n 1, 1) := by decide +kernel
theorem dX10_fault_13 : decode cX10_fault 13 = .ok (.iconst 1, 1) := by decide +kernel
theorem dX10_fault_14 : decode cX10_fault 14 = .ok (.if_icmp .ne 13, 3) := by decide +kernel
theorem dX10_fault_17 : decode cX10_fault 17 = .ok (.aload_n 0, 1) := by decide +kernel
theorem dX10_fault_18 : decode cX10_fault 18 = .ok (.getfield 10, 3) := by decide +kernel
theorem dX10_fault_21 : decode cX10_fault 21 = .ok (.getfield 89, 3) := by decide +kernel
theorem dX10_fault_24 : decode cX10_fault 24 = .ok (.goto 4, 3) := by decide +kernel
theorem dX10_fault_27 : decode cX10_fault 27 = .ok (.iconst (-1), 1) := by decide +kernel
theorem dX10_fault_28 : decode cX10_fault 28 = .ok (.ireturn, 1) := by decide +kernel
theorem dX10_halves_0 : decode cX10_halves 0 = .ok (.iload_n 1, 1) := by decide +kernel
theorem dX10_halves_1 : decode cX10_halves 1 = .ok (.ifCond .lt 20, 3) := by decide +kernel
theorem dX10_halves_4 : decode cX10_halves 4 = .ok (.iload_n 1, 1) := by decide +kernel
theorem dX10_halves_5 : decode cX10_halves 5 = .ok (.bipush 80, 2) := by decide +kernel
theorem dX10_halves_7 : decode cX10_halves 7 = .ok (.if_icmp .ge 14, 3) := by decide +kernel
theorem dX10_halves_10 : decode cX10_halves 10 = .ok (.aload_n 0, 1) := by decide +kernel
theorem dX10_halves_11 : decode cX10_halves 11 = .ok (.getfield 92, 3) := by decide +kernel
theorem dX10_halves_14 : decode cX10_halves 14 = .ok (.iload_n 1, 1) := by decide +kernel
theorem dX10_halves_15 : decode cX10_halves 15 = .ok (.iadd, 1) := by decide +kernel
theorem dX10_halves_16 : decode cX10_halves 16 = .ok (.bipush 80, 2) := by decide +kernel
theorem dX10_halves_18 : decode cX10_halves 18 = .ok (.if_icmp .lt 5, 3) := by decide +kernel
theorem dX10_halves_21 : decode cX10_halves 21 = .ok (.iconst (-1), 1) := by decide +kernel
theorem dX10_halves_22 : decode cX10_halves 22 = .ok (.ireturn, 1) := by decide +kernel
theorem dX10_halves_23 : decode cX10_halves 23 = .ok (.aload_n 0, 1) := by decide +kernel
theorem dX10_halves_24 : decode cX10_halves 24 = .ok (.dup, 1) := by decide +kernel
theorem dX10_halves_25 : decode cX10_halves 25 = .ok (.getfield 92, 3) := by decide +kernel
theorem dX10_halves_28 : decode cX10_halves 28 = .ok (.iload_n 1, 1) := by decide +kernel
theorem dX10_halves_29 : decode cX10_halves 29 = .ok (.iadd, 1) := by decide +kernel
theorem dX10_halves_30 : decode cX10_halves 30 = .ok (.putfield 92, 3) := by decide +kernel
theorem dX10_halves_33 : decode cX10_halves 33 = .ok (.aload_n 0, 1) := by decide +kernel
theorem dX10_halves_34 : decode cX10_halves 34 = .ok (.getfield 92, 3) := by decide +kernel
theorem dX10_halves_37 : decode cX10_halves 37 = .ok (.ireturn, 1) := by decide +kernel
theorem dX10_life_0 : decode cX10_life 0 = .ok (.iload_n 1, 1) := by decide +kernel
theorem dX10_life_1 : decode cX10_life 1 = .ok (.sipush (-160), 3) := by decide +kernel
theorem dX10_life_4 : decode cX10_life 4 = .ok (.if_icmp .lt 18, 3) := by decide +kernel
theorem dX10_life_7 : decode cX10_life 7 = .ok (.iload_n 1, 1) := by decide +kernel
theorem dX10_life_8 : decode cX10_life 8 = .ok (.aload_n 0, 1) := by decide +kernel
theorem dX10_life_9 : decode cX10_life 9 = .ok (.getfield 92, 3) := by decide +kernel
theorem dX10_life_12 : decode cX10_life 12 = .ok (.if_icmp .gt 10, 3) := by decide +kernel
theorem dX10_life_15 : decode cX10_life 15 = .ok (.iload_n 2, 1) := by decide +kernel
theorem dX10_life_16 : decode cX10_life 16 = .ok (.invokestatic 95, 3) := by decide +kernel
theorem dX10_life_19 : decode cX10_life 19 = .ok (.ifCond .ne 5, 3) := by decide +kernel
theorem dX10_life_22 : decode cX10_life 22 = .ok (.iconst (-1), 1) := by decide +kernel
theorem dX10_life_23 : decode cX10_life 23 = .ok (.ireturn, 1) := by decide +kernel
theorem dX10_life_24 : decode cX10_life 24 = .ok (.aload_n 0, 1) := by decide +kernel
theorem dX10_life_25 : decode cX10_life 25 = .ok (.getfield 29, 3) := by decide +kernel
theorem dX10_life_28 : decode cX10_life 28 = .ok (.iload_n 1, 1) := by decide +kernel
theorem dX10_life_29 : decode cX10_life 29 = .ok (.iload_n 2, 1) := by decide +kernel
theorem dX10_life_30 : decode cX10_life 30 = .ok (.invokevirtual 99, 3) := by decide +kernel
theorem dX10_life_33 : decode cX10_life 33 = .ok (.ireturn, 1) := by decide +kernel
theorem dX10_asks_0 : decode cX10_asks 0 = .ok (.aload_n 0, 1) := by decide +kernel
theorem dX10_asks_1 : decode cX10_asks 1 = .ok (.getfield 29, 3) := by decide +kernel
theorem dX10_asks_4 : decode cX10_asks 4 = .ok (.iload_n 1, 1) := by decide +kernel
theorem dX10_asks_5 : decode cX10_asks 5 = .ok (.invokevirtual 103, 3) := by decide +kernel
theorem dX10_asks_8 : decode cX10_asks 8 = .ok (.ifCond .ne 5, 3) := by decide +kernel
theorem dX10_asks_11 : decode cX10_asks 11 = .ok (.iconst (-1), 1) := by decide +kernel
theorem dX10_asks_12 : decode cX10_asks 12 = .ok (.ireturn, 1) := by decide +kernel
theorem dX10_asks_13 : decode cX10_asks 13 = .ok (.iload_n 2, 1) := by decide +kernel
theorem dX10_asks_14 : decode cX10_asks 14 = .ok (.tableswitch 55 0 2 #[26, 41, 48], 26) := by decide +kernel
theorem dX10_asks_40 : decode cX10_asks 40 = .ok (.aload_n 0, 1) := by decide +kernel
theorem dX10_asks_41 : decode cX10_asks 41 = .ok (.iload_n 1, 1) := by decide +kernel
theorem dX10_asks_42 : decode cX10_asks 42 = .ok (.iconst (-1), 1) := by decide +kernel
theorem dX10_asks_43 : decode cX10_asks 43 = .ok (.invokevirtual 106, 3) := by decide +kernel
theorem dX10_asks_46 : decode cX10_asks 46 = .ok (.ifCond .eq 7, 3) := by decide +kernel
theorem dX10_asks_49 : decode cX10_asks 49 = .ok (.iconst 1, 1) := by decide +kernel
theorem dX10_asks_50 : decode cX10_asks 50 = .ok (.goto 4, 3) := by decide +kernel
theorem dX10_asks_53 : decode cX10_asks 53 = .ok (.iconst 0, 1) := by decide +kernel
theorem dX10_asks_54 : decode cX10_asks 54 = .ok (.ireturn, 1) := by decide +kernel
theorem dX10_asks_55 : decode cX10_asks 55 = .ok (.aload_n 0, 1) := by decide +kernel
theorem dX10_asks_56 : decode cX10_asks 56 = .ok (.iload_n 1, 1) := by decide +kernel
theorem dX10_asks_57 : decode cX10_asks 57 = .ok (.iconst (-1), 1) := by decide +kernel
theorem dX10_asks_58 : decode cX10_asks 58 = .ok (.invokevirtual 110, 3) := by decide +kernel
theorem dX10_asks_61 : decode cX10_asks 61 = .ok (.ireturn, 1) := by decide +kernel
theorem dX10_asks_62 : decode cX10_asks 62 = .ok (.aload_n 0, 1) := by decide +kernel
theorem dX10_asks_63 : decode cX10_asks 63 = .ok (.iload_n 1, 1) := by decide +kernel
theorem dX10_asks_64 : decode cX10_asks 64 = .ok (.iconst (-1), 1) := by decide +kernel
theorem dX10_asks_65 : decode cX10_asks 65 = .ok (.invokevirtual 113, 3) := by decide +kernel
theorem dX10_asks_68 : decode cX10_asks 68 = .ok (.ireturn, 1) := by decide +kernel
theorem dX10_asks_69 : decode cX10_asks 69 = .ok (.iconst (-1), 1) := by decide +kernel
theorem dX10_asks_70 : decode cX10_asks 70 = .ok (.ireturn, 1) := by decide +kernel
theorem dX10_rent_0 : decode cX10_rent 0 = .ok (.iload_n 1, 1) := by decide +kernel
theorem dX10_rent_1 : decode cX10_rent 1 = .ok (.invokestatic 116, 3) := by decide +kernel
theorem dX10_rent_4 : decode cX10_rent 4 = .ok (.ifCond .eq 27, 3) := by decide +kernel
theorem dX10_rent_7 : decode cX10_rent 7 = .ok (.aload_n 0, 1) := by decide +kernel
theorem dX10_rent_8 : decode cX10_rent 8 = .ok (.getfield 29, 3) := by decide +kernel
theorem dX10_rent_11 : decode cX10_rent 11 = .ok (.iload_n 2, 1) := by decide +kernel
theorem dX10_rent_12 : decode cX10_rent 12 = .ok (.invokevirtual 103, 3) := by decide +kernel
theorem dX10_rent_15 : decode cX10_rent 15 = .ok (.ifCond .eq 16, 3) := by decide +kernel
theorem dX10_rent_18 : decode cX10_rent 18 = .ok (.iload 4, 2) := by decide +kernel
theorem dX10_rent_20 : decode cX10_rent 20 = .ok (.iconst 1, 1) := by decide +kernel
theorem dX10_rent_21 : decode cX10_rent 21 = .ok (.if_icmp .lt 10, 3) := by decide +kernel
theorem dX10_rent_24 : decode cX10_rent 24 = .ok (.iload 4, 2) := by decide +kernel
theorem dX10_rent_26 : decode cX10_rent 26 = .ok (.bipush 99, 2) := by decide +kernel
theorem dX10_rent_28 : decode cX10_rent 28 = .ok (.if_icmp .le 5, 3) := by decide +kernel
theorem dX10_rent_31 : decode cX10_rent 31 = .ok (.iconst (-1), 1) := by decide +kernel
theorem dX10_rent_32 : decode cX10_rent 32 = .ok (.ireturn, 1) := by decide +kernel
theorem dX10_rent_33 : decode cX10_rent 33 = .ok (.iload_n 3, 1) := by decide +kernel
theorem dX10_rent_34 : decode cX10_rent 34 = .ok (.iconst (-1), 1) := by decide +kernel
theorem dX10_rent_35 : decode cX10_rent 35 = .ok (.if_icmp .eq 21, 3) := by decide +kernel
theorem dX10_rent_38 : decode cX10_rent 38 = .ok (.iload_n 3, 1) := by decide +kernel
theorem dX10_rent_39 : decode cX10_rent 39 = .ok (.iload_n 2, 1) := by decide +kernel
theorem dX10_rent_40 : decode cX10_rent 40 = .ok (.if_icmp .eq 14, 3) := by decide +kernel
theorem dX10_rent_43 : decode cX10_rent 43 = .ok (.aload_n 0, 1) := by decide +kernel
theorem dX10_rent_44 : decode cX10_rent 44 = .ok (.getfield 29, 3) := by decide +kernel
theorem dX10_rent_47 : decode cX10_rent 47 = .ok (.iload_n 3, 1) := by decide +kernel
theorem dX10_rent_48 : decode cX10_rent 48 = .ok (.invokevirtual 103, 3) := by decide +kernel
theorem dX10_rent_51 : decode cX10_rent 51 = .ok (.ifCond .ne 5, 3) := by decide +kernel
theorem dX10_rent_54 : decode cX10_rent 54 = .ok (.iconst (-1), 1) := by decide +kernel
theorem dX10_rent_55 : decode cX10_rent 55 = .ok (.ireturn, 1) := by decide +kernel
theorem dX10_rent_56 : decode cX10_rent 56 = .ok (.aload_n 0, 1) := by decide +kernel
theorem dX10_rent_57 : decode cX10_rent 57 = .ok (.getfield 47, 3) := by decide +kernel
theorem dX10_rent_60 : decode cX10_rent 60 = .ok (.invokevirtual 119, 3) := by decide +kernel
theorem dX10_rent_63 : decode cX10_rent 63 = .ok (.ifCond .ne 12, 3) := by decide +kernel
theorem dX10_rent_66 : decode cX10_rent 66 = .ok (.aload_n 0, 1) := by decide +kernel
theorem dX10_rent_67 : decode cX10_rent 67 = .ok (.iload_n 2, 1) := by decide +kernel
theorem dX10_rent_68 : decode cX10_rent 68 = .ok (.iload_n 3, 1) := by decide +kernel
theorem dX10_rent_69 : decode cX10_rent 69 = .ok (.invokevirtual 106, 3) := by decide +kernel
theorem dX10_rent_72 : decode cX10_rent 72 = .ok (.ifCond .ne 5, 3) := by decide +kernel
theorem dX10_rent_75 : decode cX10_rent 75 = .ok (.iconst (-1), 1) := by decide +kernel
theorem dX10_rent_76 : decode cX10_rent 76 = .ok (.ireturn, 1) := by decide +kernel
theorem dX10_rent_77 : decode cX10_rent 77 = .ok (.aload_n 0, 1) := by decide +kernel
theorem dX10_rent_78 : decode cX10_rent 78 = .ok (.getfield 47, 3) := by decide +kernel
theorem dX10_rent_81 : decode cX10_rent 81 = .ok (.new 123, 3) := by decide +kernel
theorem dX10_rent_84 : decode cX10_rent 84 = .ok (.dup, 1) := by decide +kernel
theorem dX10_rent_85 : decode cX10_rent 85 = .ok (.iload_n 1, 1) := by decide +kernel
theorem dX10_rent_86 : decode cX10_rent 86 = .ok (.iload_n 2, 1) := by decide +kernel
theorem dX10_rent_87 : decode cX10_rent 87 = .ok (.iload_n 3, 1) := by decide +kernel
theorem dX10_rent_88 : decode cX10_rent 88 = .ok (.iload 4, 2) := by decide +kernel
theorem dX10_rent_90 : decode cX10_rent 90 = .ok (.aload_n 0, 1) := by decide +kernel
theorem dX10_rent_91 : decode cX10_rent 91 = .ok (.getfield 92, 3) := by decide +kernel
theorem dX10_rent_94 : decode cX10_rent 94 = .ok (.iload 4, 2) := by decide +kernel
theorem dX10_rent_96 : decode cX10_rent 96 = .ok (.aload_n 0, 1) := by decide +kernel
theorem dX10_rent_97 : decode cX10_rent 97 = .ok (.iload_n 2, 1) := by decide +kernel
theorem dX10_rent_98 : decode cX10_rent 98 = .ok (.iload_n 3, 1) := by decide +kernel
theorem dX10_rent_99 : decode cX10_rent 99 = .ok (.invokevirtual 110, 3) := by decide +kernel
theorem dX10_rent_102 : decode cX10_rent 102 = .ok (.imul, 1) := by decide +kernel
theorem dX10_rent_103 : decode cX10_rent 103 = .ok (.invokespecial 125, 3) := by decide +kernel
theorem dX10_rent_106 : decode cX10_rent 106 = .ok (.invokevirtual 128, 3) := by decide +kernel
theorem dX10_rent_109 : decode cX10_rent 109 = .ok (.ireturn, 1) := by decide +kernel
theorem dX10_sell_0 : decode cX10_sell 0 = .ok (.aload_n 0, 1) := by decide +kernel
theorem dX10_sell_1 : decode cX10_sell 1 = .ok (.getfield 47, 3) := by decide +kernel
theorem dX10_sell_4 : decode cX10_sell 4 = .ok (.iload_n 1, 1) := by decide +kernel
theorem dX10_sell_5 : decode cX10_sell 5 = .ok (.invokevirtual 132, 3) := by decide +kernel
theorem dX10_sell_8 : decode cX10_sell 8 = .ok (.ifCond .eq 22, 3) := by decide +kernel
theorem dX10_sell_11 : decode cX10_sell 11 = .ok (.iload_n 2, 1) := by decide +kernel
theorem dX10_sell_12 : decode cX10_sell 12 = .ok (.invokestatic 116, 3) := by decide +kernel
theorem dX10_sell_15 : decode cX10_sell 15 = .ok (.ifCond .eq 15, 3) := by decide +kernel
theorem dX10_sell_18 : decode cX10_sell 18 = .ok (.iload_n 3, 1) := by decide +kernel
theorem dX10_sell_19 : decode cX10_sell 19 = .ok (.invokestatic 116, 3) := by decide +kernel
theorem dX10_sell_22 : decode cX10_sell 22 = .ok (.ifCond .eq 8, 3) := by decide +kernel
theorem dX10_sell_25 : decode cX10_sell 25 = .ok (.iload_n 2, 1) := by decide +kernel
theorem dX10_sell_26 : decode cX10_sell 26 = .ok (.iload_n 3, 1) := by decide +kernel
theorem dX10_sell_27 : decode cX10_sell 27 = .ok (.if_icmp .ne 5, 3) := by decide +kernel
theorem dX10_sell_30 : decode cX10_sell 30 = .ok (.iconst 0, 1) := by decide +kernel
theorem dX10_sell_31 : decode cX10_sell 31 = .ok (.ireturn, 1) := by decide +kernel
theorem dX10_sell_32 : decode cX10_sell 32 = .ok (.iload 4, 2) := by decide +kernel
theorem dX10_sell_34 : decode cX10_sell 34 = .ok (.iconst 1, 1) := by decide +kernel
theorem dX10_sell_35 : decode cX10_sell 35 = .ok (.if_icmp .lt 21, 3) := by decide +kernel
theorem dX10_sell_38 : decode cX10_sell 38 = .ok (.iload 4, 2) := by decide +kernel
theorem dX10_sell_40 : decode cX10_sell 40 = .ok (.aload_n 0, 1) := by decide +kernel
theorem dX10_sell_41 : decode cX10_sell 41 = .ok (.getfield 47, 3) := by decide +kernel
theorem dX10_sell_44 : decode cX10_sell 44 = .ok (.iload_n 1, 1) := by decide +kernel
theorem dX10_sell_45 : decode cX10_sell 45 = .ok (.iload_n 2, 1) := by decide +kernel
theorem dX10_sell_46 : decode cX10_sell 46 = .ok (.aload_n 0, 1) := by decide +kernel
theorem dX10_sell_47 : decode cX10_sell 47 = .ok (.getfield 92, 3) := by decide +kernel
theorem dX10_sell_50 : decode cX10_sell 50 = .ok (.invokevirtual 133, 3) := by decide +kernel
theorem dX10_sell_53 : decode cX10_sell 53 = .ok (.if_icmp .le 5, 3) := by decide +kernel
theorem dX10_sell_56 : decode cX10_sell 56 = .ok (.iconst 0, 1) := by decide +kernel
theorem dX10_sell_57 : decode cX10_sell 57 = .ok (.ireturn, 1) := by decide +kernel
theorem dX10_sell_58 : decode cX10_sell 58 = .ok (.aload_n 0, 1) := by decide +kernel
theorem dX10_sell_59 : decode cX10_sell 59 = .ok (.getfield 47, 3) := by decide +kernel
theorem dX10_sell_62 : decode cX10_sell 62 = .ok (.iload_n 1, 1) := by decide +kernel
theorem dX10_sell_63 : decode cX10_sell 63 = .ok (.iload_n 2, 1) := by decide +kernel
theorem dX10_sell_64 : decode cX10_sell 64 = .ok (.iload_n 3, 1) := by decide +kernel
theorem dX10_sell_65 : decode cX10_sell 65 = .ok (.iload 4, 2) := by decide +kernel
theorem dX10_sell_67 : decode cX10_sell 67 = .ok (.aload_n 0, 1) := by decide +kernel
theorem dX10_sell_68 : decode cX10_sell 68 = .ok (.getfield 92, 3) := by decide +kernel
theorem dX10_sell_71 : decode cX10_sell 71 = .ok (.invokevirtual 137, 3) := by decide +kernel
theorem dX10_sell_74 : decode cX10_sell 74 = .ok (.ireturn, 1) := by decide +kernel
theorem dX10_parts_0 : decode cX10_parts 0 = .ok (.aload_n 0, 1) := by decide +kernel
theorem dX10_parts_1 : decode cX10_parts 1 = .ok (.getfield 47, 3) := by decide +kernel
theorem dX10_parts_4 : decode cX10_parts 4 = .ok (.iload_n 1, 1) := by decide +kernel
theorem dX10_parts_5 : decode cX10_parts 5 = .ok (.invokevirtual 132, 3) := by decide +kernel
theorem dX10_parts_8 : decode cX10_parts 8 = .ok (.ifCond .eq 17, 3) := by decide +kernel
theorem dX10_parts_11 : decode cX10_parts 11 = .ok (.iload_n 2, 1) := by decide +kernel
theorem dX10_parts_12 : decode cX10_parts 12 = .ok (.invokestatic 116, 3) := by decide +kernel
theorem dX10_parts_15 : decode cX10_parts 15 = .ok (.ifCond .eq 10, 3) := by decide +kernel
theorem dX10_parts_18 : decode cX10_parts 18 = .ok (.iload_n 3, 1) := by decide +kernel
theorem dX10_parts_19 : decode cX10_parts 19 = .ok (.invokestatic 141, 3) := by decide +kernel
theorem dX10_parts_22 : decode cX10_parts 22 = .ok (.ifCond .ne 5, 3) := by decide +kernel
theorem dX10_parts_25 : decode cX10_parts 25 = .ok (.iconst (-1), 1) := by decide +kernel
theorem dX10_parts_26 : decode cX10_parts 26 = .ok (.ireturn, 1) := by decide +kernel
theorem dX10_parts_27 : decode cX10_parts 27 = .ok (.aload_n 0, 1) := by decide +kernel
theorem dX10_parts_28 : decode cX10_parts 28 = .ok (.getfield 47, 3) := by decide +kernel
theorem dX10_parts_31 : decode cX10_parts 31 = .ok (.iload_n 1, 1) := by decide +kernel
theorem dX10_parts_32 : decode cX10_parts 32 = .ok (.iload_n 2, 1) := by decide +kernel
theorem dX10_parts_33 : decode cX10_parts 33 = .ok (.iload_n 3, 1) := by decide +kernel
theorem dX10_parts_34 : decode cX10_parts 34 = .ok (.invokevirtual 133, 3) := by decide +kernel
theorem dX10_parts_37 : decode cX10_parts 37 = .ok (.ireturn, 1) := by decide +kernel
theorem dX10_note_0 : decode cX10_note 0 = .ok (.aload_n 0, 1) := by decide +kernel
theorem dX10_note_1 : decode cX10_note 1 = .ok (.getfield 29, 3) := by decide +kernel
theorem dX10_note_4 : decode cX10_note 4 = .ok (.iload_n 1, 1) := by decide +kernel
theorem dX10_note_5 : decode cX10_note 5 = .ok (.invokevirtual 103, 3) := by decide +kernel
theorem dX10_note_8 : decode cX10_note 8 = .ok (.ifCond .eq 15, 3) := by decide +kernel
theorem dX10_note_11 : decode cX10_note 11 = .ok (.iload_n 2, 1) := by decide +kernel
theorem dX10_note_12 : decode cX10_note 12 = .ok (.ifCond .lt 11, 3) := by decide +kernel
theorem dX10_note_15 : decode cX10_note 15 = .ok (.iload_n 2, 1) := by decide +kernel
theorem dX10_note_16 : decode cX10_note 16 = .ok (.aload_n 0, 1) := by decide +kernel
theorem dX10_note_17 : decode cX10_note 17 = .ok (.getfield 92, 3) := by decide +kernel
theorem dX10_note_20 : decode cX10_note 20 = .ok (.if_icmp .le 5, 3) := by decide +kernel
theorem dX10_note_23 : decode cX10_note 23 = .ok (.iconst (-1), 1) := by decide +kernel
theorem dX10_note_24 : decode cX10_note 24 = .ok (.ireturn, 1) := by decide +kernel
theorem dX10_note_25 : decode cX10_note 25 = .ok (.aload_n 0, 1) := by decide +kernel
theorem dX10_note_26 : decode cX10_note 26 = .ok (.getfield 38, 3) := by decide +kernel
theorem dX10_note_29 : decode cX10_note 29 = .ok (.iload_n 3, 1) := by decide +kernel
theorem dX10_note_30 : decode cX10_note 30 = .ok (.ifCond .eq 7, 3) := by decide +kernel
theorem dX10_note_33 : decode cX10_note 33 = .ok (.iconst 1, 1) := by decide +kernel
theorem dX10_note_34 : decode cX10_note 34 = .ok (.goto 4, 3) := by decide +kernel
theorem dX10_note_37 : decode cX10_note 37 = .ok (.iconst 0, 1) := by decide +kernel
theorem dX10_note_38 : decode cX10_note 38 = .ok (.iload_n 1, 1) := by decide +kernel
theorem dX10_note_39 : decode cX10_note 39 = .ok (.iload_n 2, 1) := by decide +kernel
theorem dX10_note_40 : decode cX10_note 40 = .ok (.aload_n 0, 1) := by decide +kernel
theorem dX10_note_41 : decode cX10_note 41 = .ok (.getfield 92, 3) := by decide +kernel
theorem dX10_note_44 : decode cX10_note 44 = .ok (.invokevirtual 144, 3) := by decide +kernel
theorem dX10_note_47 : decode cX10_note 47 = .ok (.ireturn, 1) := by decide +kernel
theorem dX10_strike_0 : decode cX10_strike 0 = .ok (.aload_n 0, 1) := by decide +kernel
theorem dX10_strike_1 : decode cX10_strike 1 = .ok (.getfield 38, 3) := by decide +kernel
theorem dX10_strike_4 : decode cX10_strike 4 = .ok (.iload_n 1, 1) := by decide +kernel
theorem dX10_strike_5 : decode cX10_strike 5 = .ok (.invokevirtual 148, 3) := by decide +kernel
theorem dX10_strike_8 : decode cX10_strike 8 = .ok (.ifCond .ne 5, 3) := by decide +kernel
theorem dX10_strike_11 : decode cX10_strike 11 = .ok (.iconst (-1), 1) := by decide +kernel
theorem dX10_strike_12 : decode cX10_strike 12 = .ok (.ireturn, 1) := by decide +kernel
theorem dX10_strike_13 : decode cX10_strike 13 = .ok (.aload_n 0, 1) := by decide +kernel
theorem dX10_strike_14 : decode cX10_strike 14 = .ok (.getfield 38, 3) := by decide +kernel
theorem dX10_strike_17 : decode cX10_strike 17 = .ok (.iconst 2, 1) := by decide +kernel
theorem dX10_strike_18 : decode cX10_strike 18 = .ok (.iload_n 1, 1) := by decide +kernel
theorem dX10_strike_19 : decode cX10_strike 19 = .ok (.aload_n 0, 1) := by decide +kernel
theorem dX10_strike_20 : decode cX10_strike 20 = .ok (.getfield 92, 3) := by decide +kernel
theorem dX10_strike_23 : decode cX10_strike 23 = .ok (.aload_n 0, 1) := by decide +kernel
theorem dX10_strike_24 : decode cX10_strike 24 = .ok (.getfield 92, 3) := by decide +kernel
theorem dX10_strike_27 : decode cX10_strike 27 = .ok (.invokevirtual 144, 3) := by decide +kernel
theorem dX10_strike_30 : decode cX10_strike 30 = .ok (.ireturn, 1) := by decide +kernel
theorem dX10_dead_0 : decode cX10_dead 0 = .ok (.aload_n 0, 1) := by decide +kernel
theorem dX10_dead_1 : decode cX10_dead 1 = .ok (.getfield 29, 3) := by decide +kernel
theorem dX10_dead_4 : decode cX10_dead 4 = .ok (.iload_n 1, 1) := by decide +kernel
theorem dX10_dead_5 : decode cX10_dead 5 = .ok (.invokevirtual 103, 3) := by decide +kernel
theorem dX10_dead_8 : decode cX10_dead 8 = .ok (.ifCond .eq 10, 3) := by decide +kernel
theorem dX10_dead_11 : decode cX10_dead 11 = .ok (.iload_n 2, 1) := by decide +kernel
theorem dX10_dead_12 : decode cX10_dead 12 = .ok (.invokestatic 141, 3) := by decide +kernel
theorem dX10_dead_15 : decode cX10_dead 15 = .ok (.ifCond .ne 6, 3) := by decide +kernel
theorem dX10_dead_18 : decode cX10_dead 18 = .ok (.bipush (-2), 2) := by decide +kernel
theorem dX10_dead_20 : decode cX10_dead 20 = .ok (.ireturn, 1) := by decide +kernel
theorem dX10_dead_21 : decode cX10_dead 21 = .ok (.aload_n 0, 1) := by decide +kernel
theorem dX10_dead_22 : decode cX10_dead 22 = .ok (.getfield 38, 3) := by decide +kernel
theorem dX10_dead_25 : decode cX10_dead 25 = .ok (.iload_n 2, 1) := by decide +kernel
theorem dX10_dead_26 : decode cX10_dead 26 = .ok (.invokevirtual 149, 3) := by decide +kernel
theorem dX10_dead_29 : decode cX10_dead 29 = .ok (.aload_n 0, 1) := by decide +kernel
theorem dX10_dead_30 : decode cX10_dead 30 = .ok (.getfield 38, 3) := by decide +kernel
theorem dX10_dead_33 : decode cX10_dead 33 = .ok (.getfield 152, 3) := by decide +kernel
theorem dX10_dead_36 : decode cX10_dead 36 = .ok (.iload_n 1, 1) := by decide +kernel
theorem dX10_dead_37 : decode cX10_dead 37 = .ok (.iaload, 1) := by decide +kernel
theorem dX10_dead_38 : decode cX10_dead 38 = .ok (.ireturn, 1) := by decide +kernel
theorem dX10_holds_0 : decode cX10_holds 0 = .ok (.aload_n 0, 1) := by decide +kernel
theorem dX10_holds_1 : decode cX10_holds 1 = .ok (.getfield 38, 3) := by decide +kernel
theorem dX10_holds_4 : decode cX10_holds 4 = .ok (.iload_n 1, 1) := by decide +kernel
theorem dX10_holds_5 : decode cX10_holds 5 = .ok (.invokevirtual 148, 3) := by decide +kernel
theorem dX10_holds_8 : decode cX10_holds 8 = .ok (.ifCond .eq 10, 3) := by decide +kernel
theorem dX10_holds_11 : decode cX10_holds 11 = .ok (.iload_n 2, 1) := by decide +kernel
theorem dX10_holds_12 : decode cX10_holds 12 = .ok (.invokestatic 141, 3) := by decide +kernel
theorem dX10_holds_15 : decode cX10_holds 15 = .ok (.ifCond .ne 5, 3) := by decide +kernel
theorem dX10_holds_18 : decode cX10_holds 18 = .ok (.iconst (-1), 1) := by decide +kernel
theorem dX10_holds_19 : decode cX10_holds 19 = .ok (.ireturn, 1) := by decide +kernel
theorem dX10_holds_20 : decode cX10_holds 20 = .ok (.aload_n 0, 1) := by decide +kernel
theorem dX10_holds_21 : decode cX10_holds 21 = .ok (.getfield 38, 3) := by decide +kernel
theorem dX10_holds_24 : decode cX10_holds 24 = .ok (.iload_n 2, 1) := by decide +kernel
theorem dX10_holds_25 : decode cX10_holds 25 = .ok (.invokevirtual 149, 3) := by decide +kernel
theorem dX10_holds_28 : decode cX10_holds 28 = .ok (.aload_n 0, 1) := by decide +kernel
theorem dX10_holds_29 : decode cX10_holds 29 = .ok (.getfield 38, 3) := by decide +kernel
theorem dX10_holds_32 : decode cX10_holds 32 = .ok (.getfield 156, 3) := by decide +kernel
theorem dX10_holds_35 : decode cX10_holds 35 = .ok (.iload_n 1, 1) := by decide +kernel
theorem dX10_holds_36 : decode cX10_holds 36 = .ok (.baload, 1) := by decide +kernel
theorem dX10_holds_37 : decode cX10_holds 37 = .ok (.ifCond .ne 5, 3) := by decide +kernel
theorem dX10_holds_40 : decode cX10_holds 40 = .ok (.iconst 0, 1) := by decide +kernel
theorem dX10_holds_41 : decode cX10_holds 41 = .ok (.ireturn, 1) := by decide +kernel
theorem dX10_holds_42 : decode cX10_holds 42 = .ok (.aload_n 0, 1) := by decide +kernel
theorem dX10_holds_43 : decode cX10_holds 43 = .ok (.getfield 38, 3) := by decide +kernel
theorem dX10_holds_46 : decode cX10_holds 46 = .ok (.iload_n 1, 1) := by decide +kernel
theorem dX10_holds_47 : decode cX10_holds 47 = .ok (.invokevirtual 160, 3) := by decide +kernel
theorem dX10_holds_50 : decode cX10_holds 50 = .ok (.ifCond .eq 7, 3) := by decide +kernel
theorem dX10_holds_53 : decode cX10_holds 53 = .ok (.iconst 2, 1) := by decide +kernel
theorem dX10_holds_54 : decode cX10_holds 54 = .ok (.goto 4, 3) := by decide +kernel
theorem dX10_holds_57 : decode cX10_holds 57 = .ok (.iconst 1, 1) := by decide +kernel
theorem dX10_holds_58 : decode cX10_holds 58 = .ok (.ireturn, 1) := by decide +kernel
theorem dX10_paid_0 : decode cX10_paid 0 = .ok (.aload_n 0, 1) := by decide +kernel
theorem dX10_paid_1 : decode cX10_paid 1 = .ok (.getfield 47, 3) := by decide +kernel
theorem dX10_paid_4 : decode cX10_paid 4 = .ok (.iload_n 1, 1) := by decide +kernel
theorem dX10_paid_5 : decode cX10_paid 5 = .ok (.invokevirtual 132, 3) := by decide +kernel
theorem dX10_paid_8 : decode cX10_paid 8 = .ok (.ifCond .eq 10, 3) := by decide +kernel
theorem dX10_paid_11 : decode cX10_paid 11 = .ok (.iload_n 2, 1) := by decide +kernel
theorem dX10_paid_12 : decode cX10_paid 12 = .ok (.invokestatic 141, 3) := by decide +kernel
theorem dX10_paid_15 : decode cX10_paid 15 = .ok (.ifCond .ne 5, 3) := by decide +kernel
theorem dX10_paid_18 : decode cX10_paid 18 = .ok (.iconst (-1), 1) := by decide +kernel
theorem dX10_paid_19 : decode cX10_paid 19 = .ok (.ireturn, 1) := by decide +kernel
theorem dX10_paid_20 : decode cX10_paid 20 = .ok (.iload_n 3, 1) := by decide +kernel
theorem dX10_paid_21 : decode cX10_paid 21 = .ok (.ifCond .ne 33, 3) := by decide +kernel
theorem dX10_paid_24 : decode cX10_paid 24 = .ok (.aload_n 0, 1) := by decide +kernel
theorem dX10_paid_25 : decode cX10_paid 25 = .ok (.getfield 47, 3) := by decide +kernel
theorem dX10_paid_28 : decode cX10_paid 28 = .ok (.aload_n 0, 1) := by decide +kernel
theorem dX10_paid_29 : decode cX10_paid 29 = .ok (.getfield 92, 3) := by decide +kernel
theorem dX10_paid_32 : decode cX10_paid 32 = .ok (.aload_n 0, 1) := by decide +kernel
theorem dX10_paid_33 : decode cX10_paid 33 = .ok (.getfield 19, 3) := by decide +kernel
theorem dX10_paid_36 : decode cX10_paid 36 = .ok (.invokevirtual 163, 3) := by decide +kernel
theorem dX10_paid_39 : decode cX10_paid 39 = .ok (.aload_n 0, 1) := by decide +kernel
theorem dX10_paid_40 : decode cX10_paid 40 = .ok (.getfield 47, 3) := by decide +kernel
theorem dX10_paid_43 : decode cX10_paid 43 = .ok (.getfield 167, 3) := by decide +kernel
theorem dX10_paid_46 : decode cX10_paid 46 = .ok (.iload_n 1, 1) := by decide +kernel
theorem dX10_paid_47 : decode cX10_paid 47 = .ok (.aaload, 1) := by decide +kernel
theorem dX10_paid_48 : decode cX10_paid 48 = .ok (.getfield 171, 3) := by decide +kernel
theorem dX10_paid_51 : decode cX10_paid 51 = .ok (.iload_n 2, 1) := by decide +kernel
theorem dX10_paid_52 : decode cX10_paid 52 = .ok (.iaload, 1) := by decide +kernel
theorem dX10_paid_53 : decode cX10_paid 53 = .ok (.ireturn, 1) := by decide +kernel
theorem dX10_paid_54 : decode cX10_paid 54 = .ok (.aload_n 0, 1) := by decide +kernel
theorem dX10_paid_55 : decode cX10_paid 55 = .ok (.getfield 38, 3) := by decide +kernel
theorem dX10_paid_58 : decode cX10_paid 58 = .ok (.aload_n 0, 1) := by decide +kernel
theorem dX10_paid_59 : decode cX10_paid 59 = .ok (.getfield 92, 3) := by decide +kernel
theorem dX10_paid_62 : decode cX10_paid 62 = .ok (.invokevirtual 149, 3) := by decide +kernel
theorem dX10_paid_65 : decode cX10_paid 65 = .ok (.iload_n 3, 1) := by decide +kernel
theorem dX10_paid_66 : decode cX10_paid 66 = .ok (.iconst 1, 1) := by decide +kernel
theorem dX10_paid_67 : decode cX10_paid 67 = .ok (.if_icmp .ne 21, 3) := by decide +kernel
theorem dX10_paid_70 : decode cX10_paid 70 = .ok (.aload_n 0, 1) := by decide +kernel
theorem dX10_paid_71 : decode cX10_paid 71 = .ok (.getfield 47, 3) := by decide +kernel
theorem dX10_paid_74 : decode cX10_paid 74 = .ok (.iload_n 1, 1) := by decide +kernel
theorem dX10_paid_75 : decode cX10_paid 75 = .ok (.iload_n 2, 1) := by decide +kernel
theorem dX10_paid_76 : decode cX10_paid 76 = .ok (.invokevirtual 174, 3) := by decide +kernel
theorem dX10_paid_79 : decode cX10_paid 79 = .ok (.ifCond .eq 7, 3) := by decide +kernel
theorem dX10_paid_82 : decode cX10_paid 82 = .ok (.iconst 1, 1) := by decide +kernel
theorem dX10_paid_83 : decode cX10_paid 83 = .ok (.goto 4, 3) := by decide +kernel
theorem dX10_paid_86 : decode cX10_paid 86 = .ok (.iconst 0, 1) := by decide +kernel
theorem dX10_paid_87 : decode cX10_paid 87 = .ok (.ireturn, 1) := by decide +kernel
theorem dX10_paid_88 : decode cX10_paid 88 = .ok (.iload_n 3, 1) := by decide +kernel
theorem dX10_paid_89 : decode cX10_paid 89 = .ok (.iconst 2, 1) := by decide +kernel
theorem dX10_paid_90 : decode cX10_paid 90 = .ok (.if_icmp .ne 29, 3) := by decide +kernel
theorem dX10_paid_93 : decode cX10_paid 93 = .ok (.aload_n 0, 1) := by decide +kernel
theorem dX10_paid_94 : decode cX10_paid 94 = .ok (.getfield 47, 3) := by decide +kernel
theorem dX10_paid_97 : decode cX10_paid 97 = .ok (.iload_n 1, 1) := by decide +kernel
theorem dX10_paid_98 : decode cX10_paid 98 = .ok (.iload_n 2, 1) := by decide +kernel
theorem dX10_paid_99 : decode cX10_paid 99 = .ok (.aload_n 0, 1) := by decide +kernel
theorem dX10_paid_100 : decode cX10_paid 100 = .ok (.getfield 19, 3) := by decide +kernel
theorem dX10_paid_103 : decode cX10_paid 103 = .ok (.iconst 1, 1) := by decide +kernel
theorem dX10_paid_104 : decode cX10_paid 104 = .ok (.invokevirtual 177, 3) := by decide +kernel
theorem dX10_paid_107 : decode cX10_paid 107 = .ok (.invokevirtual 181, 3) := by decide +kernel
theorem dX10_paid_110 : decode cX10_paid 110 = .ok (.ifCond .eq 7, 3) := by decide +kernel
theorem dX10_paid_113 : decode cX10_paid 113 = .ok (.iconst 1, 1) := by decide +kernel
theorem dX10_paid_114 : decode cX10_paid 114 = .ok (.goto 4, 3) := by decide +kernel
theorem dX10_paid_117 : decode cX10_paid 117 = .ok (.iconst 0, 1) := by decide +kernel
theorem dX10_paid_118 : decode cX10_paid 118 = .ok (.ireturn, 1) := by decide +kernel
theorem dX10_paid_119 : decode cX10_paid 119 = .ok (.iconst (-1), 1) := by decide +kernel
theorem dX10_paid_120 : decode cX10_paid 120 = .ok (.ireturn, 1) := by decide +kernel
theorem dX10_got_0 : decode cX10_got 0 = .ok (.iload_n 1, 1) := by decide +kernel
theorem dX10_got_1 : decode cX10_got 1 = .ok (.invokestatic 116, 3) := by decide +kernel
theorem dX10_got_4 : decode cX10_got 4 = .ok (.ifCond .eq 11, 3) := by decide +kernel
theorem dX10_got_7 : decode cX10_got 7 = .ok (.aload_n 0, 1) := by decide +kernel
theorem dX10_got_8 : decode cX10_got 8 = .ok (.iload_n 2, 1) := by decide +kernel
theorem dX10_got_9 : decode cX10_got 9 = .ok (.invokevirtual 185, 3) := by decide +kernel
theorem dX10_got_12 : decode cX10_got 12 = .ok (.ifCond .ne 5, 3) := by decide +kernel
theorem dX10_got_15 : decode cX10_got 15 = .ok (.iconst (-1), 1) := by decide +kernel
theorem dX10_got_16 : decode cX10_got 16 = .ok (.ireturn, 1) := by decide +kernel
theorem dX10_got_17 : decode cX10_got 17 = .ok (.aload_n 0, 1) := by decide +kernel
theorem dX10_got_18 : decode cX10_got 18 = .ok (.getfield 47, 3) := by decide +kernel
theorem dX10_got_21 : decode cX10_got 21 = .ok (.aload_n 0, 1) := by decide +kernel
theorem dX10_got_22 : decode cX10_got 22 = .ok (.getfield 92, 3) := by decide +kernel
theorem dX10_got_25 : decode cX10_got 25 = .ok (.aload_n 0, 1) := by decide +kernel
theorem dX10_got_26 : decode cX10_got 26 = .ok (.getfield 19, 3) := by decide +kernel
theorem dX10_got_29 : decode cX10_got 29 = .ok (.invokevirtual 163, 3) := by decide +kernel
theorem dX10_got_32 : decode cX10_got 32 = .ok (.aload_n 0, 1) := by decide +kernel
theorem dX10_got_33 : decode cX10_got 33 = .ok (.getfield 47, 3) := by decide +kernel
theorem dX10_got_36 : decode cX10_got 36 = .ok (.iload_n 1, 1) := by decide +kernel
theorem dX10_got_37 : decode cX10_got 37 = .ok (.iload_n 2, 1) := by decide +kernel
theorem dX10_got_38 : decode cX10_got 38 = .ok (.invokevirtual 188, 3) := by decide +kernel
theorem dX10_got_41 : decode cX10_got 41 = .ok (.ireturn, 1) := by decide +kernel
theorem dX10_owed_0 : decode cX10_owed 0 = .ok (.aload_n 0, 1) := by decide +kernel
theorem dX10_owed_1 : decode cX10_owed 1 = .ok (.getfield 47, 3) := by decide +kernel
theorem dX10_owed_4 : decode cX10_owed 4 = .ok (.iload_n 1, 1) := by decide +kernel
theorem dX10_owed_5 : decode cX10_owed 5 = .ok (.invokevirtual 132, 3) := by decide +kernel
theorem dX10_owed_8 : decode cX10_owed 8 = .ok (.ifCond .eq 11, 3) := by decide +kernel
theorem dX10_owed_11 : decode cX10_owed 11 = .ok (.aload_n 0, 1) := by decide +kernel
theorem dX10_owed_12 : decode cX10_owed 12 = .ok (.iload_n 2, 1) := by decide +kernel
theorem dX10_owed_13 : decode cX10_owed 13 = .ok (.invokevirtual 185, 3) := by decide +kernel
theorem dX10_owed_16 : decode cX10_owed 16 = .ok (.ifCond .ne 5, 3) := by decide +kernel
theorem dX10_owed_19 : decode cX10_owed 19 = .ok (.iconst (-1), 1) := by decide +kernel
theorem dX10_owed_20 : decode cX10_owed 20 = .ok (.ireturn, 1) := by decide +kernel
theorem dX10_owed_21 : decode cX10_owed 21 = .ok (.aload_n 0, 1) := by decide +kernel
theorem dX10_owed_22 : decode cX10_owed 22 = .ok (.getfield 47, 3) := by decide +kernel
theorem dX10_owed_25 : decode cX10_owed 25 = .ok (.aload_n 0, 1) := by decide +kernel
theorem dX10_owed_26 : decode cX10_owed 26 = .ok (.getfield 92, 3) := by decide +kernel
theorem dX10_owed_29 : decode cX10_owed 29 = .ok (.aload_n 0, 1) := by decide +kernel
theorem dX10_owed_30 : decode cX10_owed 30 = .ok (.getfield 19, 3) := by decide +kernel
theorem dX10_owed_33 : decode cX10_owed 33 = .ok (.invokevirtual 163, 3) := by decide +kernel
theorem dX10_owed_36 : decode cX10_owed 36 = .ok (.aload_n 0, 1) := by decide +kernel
theorem dX10_owed_37 : decode cX10_owed 37 = .ok (.getfield 47, 3) := by decide +kernel
theorem dX10_owed_40 : decode cX10_owed 40 = .ok (.iload_n 1, 1) := by decide +kernel
theorem dX10_owed_41 : decode cX10_owed 41 = .ok (.iload_n 2, 1) := by decide +kernel
theorem dX10_owed_42 : decode cX10_owed 42 = .ok (.invokevirtual 191, 3) := by decide +kernel
theorem dX10_owed_45 : decode cX10_owed 45 = .ok (.ireturn, 1) := by decide +kernel
theorem dX10_state_0 : decode cX10_state 0 = .ok (.aload_n 0, 1) := by decide +kernel
theorem dX10_state_1 : decode cX10_state 1 = .ok (.iload_n 1, 1) := by decide +kernel
theorem dX10_state_2 : decode cX10_state 2 = .ok (.invokevirtual 185, 3) := by decide +kernel
theorem dX10_state_5 : decode cX10_state 5 = .ok (.ifCond .ne 5, 3) := by decide +kernel
theorem dX10_state_8 : decode cX10_state 8 = .ok (.iconst (-1), 1) := by decide +kernel
theorem dX10_state_9 : decode cX10_state 9 = .ok (.ireturn, 1) := by decide +kernel
theorem dX10_state_10 : decode cX10_state 10 = .ok (.iload_n 2, 1) := by decide +kernel
theorem dX10_state_11 : decode cX10_state 11 = .ok (.tableswitch 82 0 2 #[25, 34, 58], 25) := by decide +kernel
theorem dX10_state_36 : decode cX10_state 36 = .ok (.aload_n 0, 1) := by decide +kernel
theorem dX10_state_37 : decode cX10_state 37 = .ok (.getfield 47, 3) := by decide +kernel
theorem dX10_state_40 : decode cX10_state 40 = .ok (.iload_n 1, 1) := by decide +kernel
theorem dX10_state_41 : decode cX10_state 41 = .ok (.invokevirtual 194, 3) := by decide +kernel
theorem dX10_state_44 : decode cX10_state 44 = .ok (.ireturn, 1) := by decide +kernel
theorem dX10_state_45 : decode cX10_state 45 = .ok (.aload_n 0, 1) := by decide +kernel
theorem dX10_state_46 : decode cX10_state 46 = .ok (.getfield 47, 3) := by decide +kernel
theorem dX10_state_49 : decode cX10_state 49 = .ok (.aload_n 0, 1) := by decide +kernel
theorem dX10_state_50 : decode cX10_state 50 = .ok (.getfield 92, 3) := by decide +kernel
theorem dX10_state_53 : decode cX10_state 53 = .ok (.aload_n 0, 1) := by decide +kernel
theorem dX10_state_54 : decode cX10_state 54 = .ok (.getfield 19, 3) := by decide +kernel
theorem dX10_state_57 : decode cX10_state 57 = .ok (.invokevirtual 163, 3) := by decide +kernel
theorem dX10_state_60 : decode cX10_state 60 = .ok (.aload_n 0, 1) := by decide +kernel
theorem dX10_state_61 : decode cX10_state 61 = .ok (.getfield 47, 3) := by decide +kernel
theorem dX10_state_64 : decode cX10_state 64 = .ok (.iload_n 1, 1) := by decide +kernel
theorem dX10_state_65 : decode cX10_state 65 = .ok (.invokevirtual 197, 3) := by decide +kernel
theorem dX10_state_68 : decode cX10_state 68 = .ok (.ireturn, 1) := by decide +kernel
theorem dX10_state_69 : decode cX10_state 69 = .ok (.aload_n 0, 1) := by decide +kernel
theorem dX10_state_70 : decode cX10_state 70 = .ok (.getfield 47, 3) := by decide +kernel
theorem dX10_state_73 : decode cX10_state 73 = .ok (.aload_n 0, 1) := by decide +kernel
theorem dX10_state_74 : decode cX10_state 74 = .ok (.getfield 92, 3) := by decide +kernel
theorem dX10_state_77 : decode cX10_state 77 = .ok (.aload_n 0, 1) := by decide +kernel
theorem dX10_state_78 : decode cX10_state 78 = .ok (.getfield 19, 3) := by decide +kernel
theorem dX10_state_81 : decode cX10_state 81 = .ok (.invokevirtual 163, 3) := by decide +kernel
theorem dX10_state_84 : decode cX10_state 84 = .ok (.aload_n 0, 1) := by decide +kernel
theorem dX10_state_85 : decode cX10_state 85 = .ok (.getfield 47, 3) := by decide +kernel
theorem dX10_state_88 : decode cX10_state 88 = .ok (.iload_n 1, 1) := by decide +kernel
theorem dX10_state_89 : decode cX10_state 89 = .ok (.invokevirtual 200, 3) := by decide +kernel
theorem dX10_state_92 : decode cX10_state 92 = .ok (.ireturn, 1) := by decide +kernel
theorem dX10_state_93 : decode cX10_state 93 = .ok (.iconst (-1), 1) := by decide +kernel
theorem dX10_state_94 : decode cX10_state 94 = .ok (.ireturn, 1) := by decide +kernel
theorem dX10_sold_0 : decode cX10_sold 0 = .ok (.iload_n 1, 1) := by decide +kernel
theorem dX10_sold_1 : decode cX10_sold 1 = .ok (.invokestatic 95, 3) := by decide +kernel
theorem dX10_sold_4 : decode cX10_sold 4 = .ok (.ifCond .eq 21, 3) := by decide +kernel
theorem dX10_sold_7 : decode cX10_sold 7 = .ok (.iload_n 2, 1) := by decide +kernel
theorem dX10_sold_8 : decode cX10_sold 8 = .ok (.invokestatic 203, 3) := by decide +kernel
theorem dX10_sold_11 : decode cX10_sold 11 = .ok (.ifCond .eq 14, 3) := by decide +kernel
theorem dX10_sold_14 : decode cX10_sold 14 = .ok (.iload_n 3, 1) := by decide +kernel
theorem dX10_sold_15 : decode cX10_sold 15 = .ok (.ifCond .lt 10, 3) := by decide +kernel
theorem dX10_sold_18 : decode cX10_sold 18 = .ok (.iload_n 3, 1) := by decide +kernel
theorem dX10_sold_19 : decode cX10_sold 19 = .ok (.sipush 1000, 3) := by decide +kernel
theorem dX10_sold_22 : decode cX10_sold 22 = .ok (.if_icmp .le 5, 3) := by decide +kernel
theorem dX10_sold_25 : decode cX10_sold 25 = .ok (.iconst 0, 1) := by decide +kernel
theorem dX10_sold_26 : decode cX10_sold 26 = .ok (.ireturn, 1) := by decide +kernel
theorem dX10_sold_27 : decode cX10_sold 27 = .ok (.aload_n 0, 1) := by decide +kernel
theorem dX10_sold_28 : decode cX10_sold 28 = .ok (.getfield 56, 3) := by decide +kernel
theorem dX10_sold_31 : decode cX10_sold 31 = .ok (.getfield 206, 3) := by decide +kernel
theorem dX10_sold_34 : decode cX10_sold 34 = .ok (.iload_n 1, 1) := by decide +kernel
theorem dX10_sold_35 : decode cX10_sold 35 = .ok (.aaload, 1) := by decide +kernel
theorem dX10_sold_36 : decode cX10_sold 36 = .ok (.iload_n 2, 1) := by decide +kernel
theorem dX10_sold_37 : decode cX10_sold 37 = .ok (.iload_n 3, 1) := by decide +kernel
theorem dX10_sold_38 : decode cX10_sold 38 = .ok (.iastore, 1) := by decide +kernel
theorem dX10_sold_39 : decode cX10_sold 39 = .ok (.iconst 1, 1) := by decide +kernel
theorem dX10_sold_40 : decode cX10_sold 40 = .ok (.ireturn, 1) := by decide +kernel
theorem dX10_own_0 : decode cX10_own 0 = .ok (.iload_n 1, 1) := by decide +kernel
theorem dX10_own_1 : decode cX10_own 1 = .ok (.invokestatic 95, 3) := by decide +kernel
theorem dX10_own_4 : decode cX10_own 4 = .ok (.ifCond .eq 17, 3) := by decide +kernel
theorem dX10_own_7 : decode cX10_own 7 = .ok (.iload_n 2, 1) := by decide +kernel
theorem dX10_own_8 : decode cX10_own 8 = .ok (.invokestatic 203, 3) := by decide +kernel
theorem dX10_own_11 : decode cX10_own 11 = .ok (.ifCond .eq 10, 3) := by decide +kernel
theorem dX10_own_14 : decode cX10_own 14 = .ok (.iload_n 3, 1) := by decide +kernel
theorem dX10_own_15 : decode cX10_own 15 = .ok (.invokestatic 141, 3) := by decide +kernel
theorem dX10_own_18 : decode cX10_own 18 = .ok (.ifCond .ne 5, 3) := by decide +kernel
theorem dX10_own_21 : decode cX10_own 21 = .ok (.iconst (-1), 1) := by decide +kernel
theorem dX10_own_22 : decode cX10_own 22 = .ok (.ireturn, 1) := by decide +kernel
theorem dX10_own_23 : decode cX10_own 23 = .ok (.aload_n 0, 1) := by decide +kernel
theorem dX10_own_24 : decode cX10_own 24 = .ok (.getfield 38, 3) := by decide +kernel
theorem dX10_own_27 : decode cX10_own 27 = .ok (.iload_n 3, 1) := by decide +kernel
theorem dX10_own_28 : decode cX10_own 28 = .ok (.invokevirtual 149, 3) := by decide +kernel
theorem dX10_own_31 : decode cX10_own 31 = .ok (.iload 4, 2) := by decide +kernel
theorem dX10_own_33 : decode cX10_own 33 = .ok (.tableswitch 107 0 4 #[35, 53, 71, 83, 95], 35) := by decide +kernel
theorem dX10_own_68 : decode cX10_own 68 = .ok (.aload_n 0, 1) := by decide +kernel
theorem dX10_own_69 : decode cX10_own 69 = .ok (.getfield 56, 3) := by decide +kernel
theorem dX10_own_72 : decode cX10_own 72 = .ok (.iload_n 1, 1) := by decide +kernel
theorem dX10_own_73 : decode cX10_own 73 = .ok (.iload_n 2, 1) := by decide +kernel
theorem dX10_own_74 : decode cX10_own 74 = .ok (.iload_n 3, 1) := by decide +kernel
theorem dX10_own_75 : decode cX10_own 75 = .ok (.invokevirtual 210, 3) := by decide +kernel
theorem dX10_own_78 : decode cX10_own 78 = .ok (.aload_n 0, 1) := by decide +kernel
theorem dX10_own_79 : decode cX10_own 79 = .ok (.getfield 56, 3) := by decide +kernel
theorem dX10_own_82 : decode cX10_own 82 = .ok (.getfield 214, 3) := by decide +kernel
theorem dX10_own_85 : decode cX10_own 85 = .ok (.ireturn, 1) := by decide +kernel
theorem dX10_own_86 : decode cX10_own 86 = .ok (.aload_n 0, 1) := by decide +kernel
theorem dX10_own_87 : decode cX10_own 87 = .ok (.getfield 56, 3) := by decide +kernel
theorem dX10_own_90 : decode cX10_own 90 = .ok (.iload_n 1, 1) := by decide +kernel
theorem dX10_own_91 : decode cX10_own 91 = .ok (.iload_n 2, 1) := by decide +kernel
theorem dX10_own_92 : decode cX10_own 92 = .ok (.iload_n 3, 1) := by decide +kernel
theorem dX10_own_93 : decode cX10_own 93 = .ok (.invokevirtual 210, 3) := by decide +kernel
theorem dX10_own_96 : decode cX10_own 96 = .ok (.aload_n 0, 1) := by decide +kernel
theorem dX10_own_97 : decode cX10_own 97 = .ok (.getfield 56, 3) := by decide +kernel
theorem dX10_own_100 : decode cX10_own 100 = .ok (.getfield 217, 3) := by decide +kernel
theorem dX10_own_103 : decode cX10_own 103 = .ok (.ireturn, 1) := by decide +kernel
theorem dX10_own_104 : decode cX10_own 104 = .ok (.aload_n 0, 1) := by decide +kernel
theorem dX10_own_105 : decode cX10_own 105 = .ok (.getfield 56, 3) := by decide +kernel
theorem dX10_own_108 : decode cX10_own 108 = .ok (.iload_n 1, 1) := by decide +kernel
theorem dX10_own_109 : decode cX10_own 109 = .ok (.iload_n 2, 1) := by decide +kernel
theorem dX10_own_110 : decode cX10_own 110 = .ok (.iload_n 3, 1) := by decide +kernel
theorem dX10_own_111 : decode cX10_own 111 = .ok (.iconst 1, 1) := by decide +kernel
theorem dX10_own_112 : decode cX10_own 112 = .ok (.invokevirtual 220, 3) := by decide +kernel
theorem dX10_own_115 : decode cX10_own 115 = .ok (.ireturn, 1) := by decide +kernel
theorem dX10_own_116 : decode cX10_own 116 = .ok (.aload_n 0, 1) := by decide +kernel
theorem dX10_own_117 : decode cX10_own 117 = .ok (.getfield 56, 3) := by decide +kernel
theorem dX10_own_120 : decode cX10_own 120 = .ok (.iload_n 1, 1) := by decide +kernel
theorem dX10_own_121 : decode cX10_own 121 = .ok (.iload_n 2, 1) := by decide +kernel
theorem dX10_own_122 : decode cX10_own 122 = .ok (.iload_n 3, 1) := by decide +kernel
theorem dX10_own_123 : decode cX10_own 123 = .ok (.iconst 2, 1) := by decide +kernel
theorem dX10_own_124 : decode cX10_own 124 = .ok (.invokevirtual 220, 3) := by decide +kernel
theorem dX10_own_127 : decode cX10_own 127 = .ok (.ireturn, 1) := by decide +kernel
theorem dX10_own_128 : decode cX10_own 128 = .ok (.aload_n 0, 1) := by decide +kernel
theorem dX10_own_129 : decode cX10_own 129 = .ok (.getfield 56, 3) := by decide +kernel
theorem dX10_own_132 : decode cX10_own 132 = .ok (.iload_n 1, 1) := by decide +kernel
theorem dX10_own_133 : decode cX10_own 133 = .ok (.iload_n 2, 1) := by decide +kernel
theorem dX10_own_134 : decode cX10_own 134 = .ok (.iload_n 3, 1) := by decide +kernel
theorem dX10_own_135 : decode cX10_own 135 = .ok (.iconst 3, 1) := by decide +kernel
theorem dX10_own_136 : decode cX10_own 136 = .ok (.invokevirtual 220, 3) := by decide +kernel
theorem dX10_own_139 : decode cX10_own 139 = .ok (.ireturn, 1) := by decide +kernel
theorem dX10_own_140 : decode cX10_own 140 = .ok (.iconst (-1), 1) := by decide +kernel
theorem dX10_own_141 : decode cX10_own 141 = .ok (.ireturn, 1) := by decide +kernel
theorem dX10_worth_0 : decode cX10_worth 0 = .ok (.aload_n 0, 1) := by decide +kernel
theorem dX10_worth_1 : decode cX10_worth 1 = .ok (.iload_n 1, 1) := by decide +kernel
theorem dX10_worth_2 : decode cX10_worth 2 = .ok (.invokevirtual 223, 3) := by decide +kernel
theorem dX10_worth_5 : decode cX10_worth 5 = .ok (.ifCond .eq 12, 3) := by decide +kernel
theorem dX10_worth_8 : decode cX10_worth 8 = .ok (.iload_n 3, 1) := by decide +kernel
theorem dX10_worth_9 : decode cX10_worth 9 = .ok (.ifCond .lt 8, 3) := by decide +kernel
theorem dX10_worth_12 : decode cX10_worth 12 = .ok (.iload_n 3, 1) := by decide +kernel
theorem dX10_worth_13 : decode cX10_worth 13 = .ok (.iconst 3, 1) := by decide +kernel
theorem dX10_worth_14 : decode cX10_worth 14 = .ok (.if_icmp .le 5, 3) := by decide +kernel
theorem dX10_worth_17 : decode cX10_worth 17 = .ok (.iconst (-1), 1) := by decide +kernel
theorem dX10_worth_18 : decode cX10_worth 18 = .ok (.ireturn, 1) := by decide +kernel
theorem dX10_worth_19 : decode cX10_worth 19 = .ok (.iload_n 2, 1) := by decide +kernel
theorem dX10_worth_20 : decode cX10_worth 20 = .ok (.iconst (-1), 1) := by decide +kernel
theorem dX10_worth_21 : decode cX10_worth 21 = .ok (.if_icmp .eq 18, 3) := by decide +kernel
theorem dX10_worth_24 : decode cX10_worth 24 = .ok (.iload_n 2, 1) := by decide +kernel
theorem dX10_worth_25 : decode cX10_worth 25 = .ok (.iload_n 1, 1) := by decide +kernel
theorem dX10_worth_26 : decode cX10_worth 26 = .ok (.if_icmp .eq 11, 3) := by decide +kernel
theorem dX10_worth_29 : decode cX10_worth 29 = .ok (.aload_n 0, 1) := by decide +kernel
theorem dX10_worth_30 : decode cX10_worth 30 = .ok (.iload_n 2, 1) := by decide +kernel
theorem dX10_worth_31 : decode cX10_worth 31 = .ok (.invokevirtual 223, 3) := by decide +kernel
theorem dX10_worth_34 : decode cX10_worth 34 = .ok (.ifCond .ne 5, 3) := by decide +kernel
theorem dX10_worth_37 : decode cX10_worth 37 = .ok (.iconst (-1), 1) := by decide +kernel
theorem dX10_worth_38 : decode cX10_worth 38 = .ok (.ireturn, 1) := by decide +kernel
theorem dX10_worth_39 : decode cX10_worth 39 = .ok (.aload_n 0, 1) := by decide +kernel
theorem dX10_worth_40 : decode cX10_worth 40 = .ok (.iload_n 1, 1) := by decide +kernel
theorem dX10_worth_41 : decode cX10_worth 41 = .ok (.iload_n 2, 1) := by decide +kernel
theorem dX10_worth_42 : decode cX10_worth 42 = .ok (.iload_n 3, 1) := by decide +kernel
theorem dX10_worth_43 : decode cX10_worth 43 = .ok (.invokevirtual 226, 3) := by decide +kernel
theorem dX10_worth_46 : decode cX10_worth 46 = .ok (.ireturn, 1) := by decide +kernel
theorem dX10_names_0 : decode cX10_names 0 = .ok (.iload_n 1, 1) := by decide +kernel
theorem dX10_names_1 : decode cX10_names 1 = .ok (.ifCond .lt 9, 3) := by decide +kernel
theorem dX10_names_4 : decode cX10_names 4 = .ok (.iload_n 1, 1) := by decide +kernel
theorem dX10_names_5 : decode cX10_names 5 = .ok (.ldc 229, 2) := by decide +kernel
theorem dX10_names_7 : decode cX10_names 7 = .ok (.if_icmp .le 6, 3) := by decide +kernel
theorem dX10_names_10 : decode cX10_names 10 = .ok (.ldc 232, 2) := by decide +kernel
theorem dX10_names_12 : decode cX10_names 12 = .ok (.ireturn, 1) := by decide +kernel
theorem dX10_names_13 : decode cX10_names 13 = .ok (.aload_n 0, 1) := by decide +kernel
theorem dX10_names_14 : decode cX10_names 14 = .ok (.getfield 38, 3) := by decide +kernel
theorem dX10_names_17 : decode cX10_names 17 = .ok (.aload_n 0, 1) := by decide +kernel
theorem dX10_names_18 : decode cX10_names 18 = .ok (.getfield 92, 3) := by decide +kernel
theorem dX10_names_21 : decode cX10_names 21 = .ok (.invokevirtual 149, 3) := by decide +kernel
theorem dX10_names_24 : decode cX10_names 24 = .ok (.aload_n 0, 1) := by decide +kernel
theorem dX10_names_25 : decode cX10_names 25 = .ok (.getfield 63, 3) := by decide +kernel
theorem dX10_names_28 : decode cX10_names 28 = .ok (.invokevirtual 233, 3) := by decide +kernel
theorem dX10_names_31 : decode cX10_names 31 = .ok (.iconst 0, 1) := by decide +kernel
theorem dX10_names_32 : decode cX10_names 32 = .ok (.istore_n 2, 1) := by decide +kernel
theorem dX10_names_33 : decode cX10_names 33 = .ok (.iload_n 2, 1) := by decide +kernel
theorem dX10_names_34 : decode cX10_names 34 = .ok (.aload_n 0, 1) := by decide +kernel
theorem dX10_names_35 : decode cX10_names 35 = .ok (.getfield 29, 3) := by decide +kernel
theorem dX10_names_38 : decode cX10_names 38 = .ok (.getfield 236, 3) := by decide +kernel
theorem dX10_names_41 : decode cX10_names 41 = .ok (.if_icmp .ge 60, 3) := by decide +kernel
theorem dX10_names_44 : decode cX10_names 44 = .ok (.aload_n 0, 1) := by decide +kernel
theorem dX10_names_45 : decode cX10_names 45 = .ok (.getfield 38, 3) := by decide +kernel
theorem dX10_names_48 : decode cX10_names 48 = .ok (.iload_n 2, 1) := by decide +kernel
theorem dX10_names_49 : decode cX10_names 49 = .ok (.invokevirtual 239, 3) := by decide +kernel
theorem dX10_names_52 : decode cX10_names 52 = .ok (.ifCond .ne 43, 3) := by decide +kernel
theorem dX10_names_55 : decode cX10_names 55 = .ok (.aload_n 0, 1) := by decide +kernel
theorem dX10_names_56 : decode cX10_names 56 = .ok (.iload_n 2, 1) := by decide +kernel
theorem dX10_names_57 : decode cX10_names 57 = .ok (.iconst (-1), 1) := by decide +kernel
theorem dX10_names_58 : decode cX10_names 58 = .ok (.invokevirtual 106, 3) := by decide +kernel
theorem dX10_names_61 : decode cX10_names 61 = .ok (.ifCond .eq 34, 3) := by decide +kernel
theorem dX10_names_64 : decode cX10_names 64 = .ok (.aload_n 0, 1) := by decide +kernel
theorem dX10_names_65 : decode cX10_names 65 = .ok (.iload_n 2, 1) := by decide +kernel
theorem dX10_names_66 : decode cX10_names 66 = .ok (.iconst (-1), 1) := by decide +kernel
theorem dX10_names_67 : decode cX10_names 67 = .ok (.invokevirtual 110, 3) := by decide +kernel
theorem dX10_names_70 : decode cX10_names 70 = .ok (.istore_n 3, 1) := by decide +kernel
theorem dX10_names_71 : decode cX10_names 71 = .ok (.aload_n 0, 1) := by decide +kernel
theorem dX10_names_72 : decode cX10_names 72 = .ok (.getfield 63, 3) := by decide +kernel
theorem dX10_names_75 : decode cX10_names 75 = .ok (.iload_n 2, 1) := by decide +kernel
theorem dX10_names_76 : decode cX10_names 76 = .ok (.iload_n 3, 1) := by decide +kernel
theorem dX10_names_77 : decode cX10_names 77 = .ok (.iconst 2, 1) := by decide +kernel
theorem dX10_names_78 : decode cX10_names 78 = .ok (.aload_n 0, 1) := by decide +kernel
theorem dX10_names_79 : decode cX10_names 79 = .ok (.iload_n 2, 1) := by decide +kernel
theorem dX10_names_80 : decode cX10_names 80 = .ok (.iconst (-1), 1) := by decide +kernel
theorem dX10_names_81 : decode cX10_names 81 = .ok (.iconst 0, 1) := by decide +kernel
theorem dX10_names_82 : decode cX10_names 82 = .ok (.invokevirtual 226, 3) := by decide +kernel
theorem dX10_names_85 : decode cX10_names 85 = .ok (.imul, 1) := by decide +kernel
theorem dX10_names_86 : decode cX10_names 86 = .ok (.sipush 1000, 3) := by decide +kernel
theorem dX10_names_89 : decode cX10_names 89 = .ok (.iload_n 3, 1) := by decide +kernel
theorem dX10_names_90 : decode cX10_names 90 = .ok (.imul, 1) := by decide +kernel
theorem dX10_names_91 : decode cX10_names 91 = .ok (.isub, 1) := by decide +kernel
theorem dX10_names_92 : decode cX10_names 92 = .ok (.invokevirtual 242, 3) := by decide +kernel
theorem dX10_names_95 : decode cX10_names 95 = .ok (.iinc 2 1, 3) := by decide +kernel
theorem dX10_names_98 : decode cX10_names 98 = .ok (.goto (-65), 3) := by decide +kernel
theorem dX10_names_101 : decode cX10_names 101 = .ok (.aload_n 0, 1) := by decide +kernel
theorem dX10_names_102 : decode cX10_names 102 = .ok (.getfield 63, 3) := by decide +kernel
theorem dX10_names_105 : decode cX10_names 105 = .ok (.iload_n 1, 1) := by decide +kernel
theorem dX10_names_106 : decode cX10_names 106 = .ok (.aload_n 0, 1) := by decide +kernel
theorem dX10_names_107 : decode cX10_names 107 = .ok (.getfield 19, 3) := by decide +kernel
theorem dX10_names_110 : decode cX10_names 110 = .ok (.iconst 3, 1) := by decide +kernel
theorem dX10_names_111 : decode cX10_names 111 = .ok (.invokevirtual 177, 3) := by decide +kernel
theorem dX10_names_114 : decode cX10_names 114 = .ok (.invokevirtual 245, 3) := by decide +kernel
theorem dX10_names_117 : decode cX10_names 117 = .ok (.ireturn, 1) := by decide +kernel
theorem dX10_named_0 : decode cX10_named 0 = .ok (.aload_n 0, 1) := by decide +kernel
theorem dX10_named_1 : decode cX10_named 1 = .ok (.getfield 29, 3) := by decide +kernel
theorem dX10_named_4 : decode cX10_named 4 = .ok (.iload_n 1, 1) := by decide +kernel
theorem dX10_named_5 : decode cX10_named 5 = .ok (.invokevirtual 103, 3) := by decide +kernel
theorem dX10_named_8 : decode cX10_named 8 = .ok (.ifCond .eq 13, 3) := by decide +kernel
theorem dX10_named_11 : decode cX10_named 11 = .ok (.aload_n 0, 1) := by decide +kernel
theorem dX10_named_12 : decode cX10_named 12 = .ok (.getfield 63, 3) := by decide +kernel
theorem dX10_named_15 : decode cX10_named 15 = .ok (.getfield 248, 3) := by decide +kernel
theorem dX10_named_18 : decode cX10_named 18 = .ok (.ifCond .ne 5, 3) := by decide +kernel
theorem dX10_named_21 : decode cX10_named 21 = .ok (.iconst (-1), 1) := by decide +kernel
theorem dX10_named_22 : decode cX10_named 22 = .ok (.ireturn, 1) := by decide +kernel
theorem dX10_named_23 : decode cX10_named 23 = .ok (.aload_n 0, 1) := by decide +kernel
theorem dX10_named_24 : decode cX10_named 24 = .ok (.getfield 63, 3) := by decide +kernel
theorem dX10_named_27 : decode cX10_named 27 = .ok (.getfield 252, 3) := by decide +kernel
theorem dX10_named_30 : decode cX10_named 30 = .ok (.iload_n 1, 1) := by decide +kernel
theorem dX10_named_31 : decode cX10_named 31 = .ok (.iaload, 1) := by decide +kernel
theorem dX10_named_32 : decode cX10_named 32 = .ok (.ireturn, 1) := by decide +kernel
theorem dX10_look_0 : decode cX10_look 0 = .ok (.aload_n 0, 1) := by decide +kernel
theorem dX10_look_1 : decode cX10_look 1 = .ok (.getfield 38, 3) := by decide +kernel
theorem dX10_look_4 : decode cX10_look 4 = .ok (.aload_n 0, 1) := by decide +kernel
theorem dX10_look_5 : decode cX10_look 5 = .ok (.getfield 92, 3) := by decide +kernel
theorem dX10_look_8 : decode cX10_look 8 = .ok (.invokevirtual 149, 3) := by decide +kernel
theorem dX10_look_11 : decode cX10_look 11 = .ok (.iconst 0, 1) := by decide +kernel
theorem dX10_look_12 : decode cX10_look 12 = .ok (.istore_n 2, 1) := by decide +kernel
theorem dX10_look_13 : decode cX10_look 13 = .ok (.iload_n 2, 1) := by decide +kernel
theorem dX10_look_14 : decode cX10_look 14 = .ok (.aload_n 0, 1) := by decide +kernel
theorem dX10_look_15 : decode cX10_look 15 = .ok (.getfield 29, 3) := by decide +kernel
theorem dX10_look_18 : decode cX10_look 18 = .ok (.getfield 236, 3) := by decide +kernel
theorem dX10_look_21 : decode cX10_look 21 = .ok (.if_icmp .ge 37, 3) := by decide +kernel
theorem dX10_look_24 : decode cX10_look 24 = .ok (.aload_n 0, 1) := by decide +kernel
theorem dX10_look_25 : decode cX10_look 25 = .ok (.getfield 67, 3) := by decide +kernel
theorem dX10_look_28 : decode cX10_look 28 = .ok (.iload_n 2, 1) := by decide +kernel
theorem dX10_look_29 : decode cX10_look 29 = .ok (.aload_n 0, 1) := by decide +kernel
theorem dX10_look_30 : decode cX10_look 30 = .ok (.getfield 38, 3) := by decide +kernel
theorem dX10_look_33 : decode cX10_look 33 = .ok (.iload_n 2, 1) := by decide +kernel
theorem dX10_look_34 : decode cX10_look 34 = .ok (.invokevirtual 239, 3) := by decide +kernel
theorem dX10_look_37 : decode cX10_look 37 = .ok (.ifCond .eq 9, 3) := by decide +kernel
theorem dX10_look_40 : decode cX10_look 40 = .ok (.ldc2_w 255, 3) := by decide +kernel
theorem dX10_look_43 : decode cX10_look 43 = .ok (.goto 8, 3) := by decide +kernel
theorem dX10_look_46 : decode cX10_look 46 = .ok (.aload_n 0, 1) := by decide +kernel
theorem dX10_look_47 : decode cX10_look 47 = .ok (.iload_n 2, 1) := by decide +kernel
theorem dX10_look_48 : decode cX10_look 48 = .ok (.invokevirtual 257, 3) := by decide +kernel
theorem dX10_look_51 : decode cX10_look 51 = .ok (.lastore, 1) := by decide +kernel
theorem dX10_look_52 : decode cX10_look 52 = .ok (.iinc 2 1, 3) := by decide +kernel
theorem dX10_look_55 : decode cX10_look 55 = .ok (.goto (-42), 3) := by decide +kernel
theorem dX10_look_58 : decode cX10_look 58 = .ok (.iconst 0, 1) := by decide +kernel
theorem dX10_look_59 : decode cX10_look 59 = .ok (.istore_n 2, 1) := by decide +kernel
theorem dX10_look_60 : decode cX10_look 60 = .ok (.iload_n 2, 1) := by decide +kernel
theorem dX10_look_61 : decode cX10_look 61 = .ok (.aload_n 0, 1) := by decide +kernel
theorem dX10_look_62 : decode cX10_look 62 = .ok (.getfield 29, 3) := by decide +kernel
theorem dX10_look_65 : decode cX10_look 65 = .ok (.getfield 236, 3) := by decide +kernel
theorem dX10_look_68 : decode cX10_look 68 = .ok (.if_icmp .ge 31, 3) := by decide +kernel
theorem dX10_look_71 : decode cX10_look 71 = .ok (.aload_n 0, 1) := by decide +kernel
theorem dX10_look_72 : decode cX10_look 72 = .ok (.getfield 38, 3) := by decide +kernel
theorem dX10_look_75 : decode cX10_look 75 = .ok (.iload_n 2, 1) := by decide +kernel
theorem dX10_look_76 : decode cX10_look 76 = .ok (.invokevirtual 239, 3) := by decide +kernel
theorem dX10_look_79 : decode cX10_look 79 = .ok (.ifCond .ne 14, 3) := by decide +kernel
theorem dX10_look_82 : decode cX10_look 82 = .ok (.aload_n 0, 1) := by decide +kernel
theorem dX10_look_83 : decode cX10_look 83 = .ok (.iload_n 2, 1) := by decide +kernel
theorem dX10_look_84 : decode cX10_look 84 = .ok (.invokevirtual 261, 3) := by decide +kernel
theorem dX10_look_87 : decode cX10_look 87 = .ok (.iload_n 1, 1) := by decide +kernel
theorem dX10_look_88 : decode cX10_look 88 = .ok (.if_icmp .ne 5, 3) := by decide +kernel
theorem dX10_look_91 : decode cX10_look 91 = .ok (.iload_n 2, 1) := by decide +kernel
theorem dX10_look_92 : decode cX10_look 92 = .ok (.ireturn, 1) := by decide +kernel
theorem dX10_look_93 : decode cX10_look 93 = .ok (.iinc 2 1, 3) := by decide +kernel
theorem dX10_look_96 : decode cX10_look 96 = .ok (.goto (-36), 3) := by decide +kernel
theorem dX10_look_99 : decode cX10_look 99 = .ok (.iconst (-1), 1) := by decide +kernel
theorem dX10_look_100 : decode cX10_look 100 = .ok (.ireturn, 1) := by decide +kernel
theorem dX10_risk_0 : decode cX10_risk 0 = .ok (.aload_n 0, 1) := by decide +kernel
theorem dX10_risk_1 : decode cX10_risk 1 = .ok (.getfield 29, 3) := by decide +kernel
theorem dX10_risk_4 : decode cX10_risk 4 = .ok (.iload_n 1, 1) := by decide +kernel
theorem dX10_risk_5 : decode cX10_risk 5 = .ok (.invokevirtual 103, 3) := by decide +kernel
theorem dX10_risk_8 : decode cX10_risk 8 = .ok (.ifCond .ne 14, 3) := by decide +kernel
theorem dX10_risk_11 : decode cX10_risk 11 = .ok (.new 264, 3) := by decide +kernel
theorem dX10_risk_14 : decode cX10_risk 14 = .ok (.dup, 1) := by decide +kernel
theorem dX10_risk_15 : decode cX10_risk 15 = .ok (.ldc_w 266, 3) := by decide +kernel
theorem dX10_risk_18 : decode cX10_risk 18 = .ok (.invokespecial 268, 3) := by decide +kernel
theorem dX10_risk_21 : decode cX10_risk 21 = .ok (.athrow, 1) := by decide +kernel
theorem dX10_risk_22 : decode cX10_risk 22 = .ok (.aload_n 0, 1) := by decide +kernel
theorem dX10_risk_23 : decode cX10_risk 23 = .ok (.getfield 38, 3) := by decide +kernel
theorem dX10_risk_26 : decode cX10_risk 26 = .ok (.aload_n 0, 1) := by decide +kernel
theorem dX10_risk_27 : decode cX10_risk 27 = .ok (.getfield 92, 3) := by decide +kernel
theorem dX10_risk_30 : decode cX10_risk 30 = .ok (.invokevirtual 149, 3) := by decide +kernel
theorem dX10_risk_33 : decode cX10_risk 33 = .ok (.aload_n 0, 1) := by decide +kernel
theorem dX10_risk_34 : decode cX10_risk 34 = .ok (.getfield 38, 3) := by decide +kernel
theorem dX10_risk_37 : decode cX10_risk 37 = .ok (.iload_n 1, 1) := by decide +kernel
theorem dX10_risk_38 : decode cX10_risk 38 = .ok (.invokevirtual 239, 3) := by decide +kernel
theorem dX10_risk_41 : decode cX10_risk 41 = .ok (.ifCond .eq 14, 3) := by decide +kernel
theorem dX10_risk_44 : decode cX10_risk 44 = .ok (.new 271, 3) := by decide +kernel
theorem dX10_risk_47 : decode cX10_risk 47 = .ok (.dup, 1) := by decide +kernel
theorem dX10_risk_48 : decode cX10_risk 48 = .ok (.ldc_w 273, 3) := by decide +kernel
theorem dX10_risk_51 : decode cX10_risk 51 = .ok (.invokespecial 275, 3) := by decide +kernel
theorem dX10_risk_54 : decode cX10_risk 54 = .ok (.athrow, 1) := by decide +kernel
theorem dX10_risk_55 : decode cX10_risk 55 = .ok (.aload_n 0, 1) := by decide +kernel
theorem dX10_risk_56 : decode cX10_risk 56 = .ok (.iload_n 1, 1) := by decide +kernel
theorem dX10_risk_57 : decode cX10_risk 57 = .ok (.invokevirtual 257, 3) := by decide +kernel
theorem dX10_risk_60 : decode cX10_risk 60 = .ok (.lreturn, 1) := by decide +kernel
theorem dX10_converts_0 : decode cX10_converts 0 = .ok (.aload_n 0, 1) := by decide +kernel
theorem dX10_converts_1 : decode cX10_converts 1 = .ok (.getfield 47, 3) := by decide +kernel
theorem dX10_converts_4 : decode cX10_converts 4 = .ok (.iload_n 1, 1) := by decide +kernel
theorem dX10_converts_5 : decode cX10_converts 5 = .ok (.invokevirtual 132, 3) := by decide +kernel
theorem dX10_converts_8 : decode cX10_converts 8 = .ok (.ifCond .ne 5, 3) := by decide +kernel
theorem dX10_converts_11 : decode cX10_converts 11 = .ok (.iconst (-1), 1) := by decide +kernel
theorem dX10_converts_12 : decode cX10_converts 12 = .ok (.ireturn, 1) := by decide +kernel
theorem dX10_converts_13 : decode cX10_converts 13 = .ok (.aload_n 0, 1) := by decide +kernel
theorem dX10_converts_14 : decode cX10_converts 14 = .ok (.getfield 47, 3) := by decide +kernel
theorem dX10_converts_17 : decode cX10_converts 17 = .ok (.getfield 167, 3) := by decide +kernel
theorem dX10_converts_20 : decode cX10_converts 20 = .ok (.iload_n 1, 1) := by decide +kernel
theorem dX10_converts_21 : decode cX10_converts 21 = .ok (.aaload, 1) := by decide +kernel
theorem dX10_converts_22 : decode cX10_converts 22 = .ok (.astore_n 2, 1) := by decide +kernel
theorem dX10_converts_23 : decode cX10_converts 23 = .ok (.aload_n 0, 1) := by decide +kernel
theorem dX10_converts_24 : decode cX10_converts 24 = .ok (.getfield 38, 3) := by decide +kernel
theorem dX10_converts_27 : decode cX10_converts 27 = .ok (.aload_n 0, 1) := by decide +kernel
theorem dX10_converts_28 : decode cX10_converts 28 = .ok (.getfield 92, 3) := by decide +kernel
theorem dX10_converts_31 : decode cX10_converts 31 = .ok (.invokevirtual 149, 3) := by decide +kernel
theorem dX10_converts_34 : decode cX10_converts 34 = .ok (.aload_n 0, 1) := by decide +kernel
theorem dX10_converts_35 : decode cX10_converts 35 = .ok (.getfield 38, 3) := by decide +kernel
theorem dX10_converts_38 : decode cX10_converts 38 = .ok (.aload_n 2, 1) := by decide +kernel
theorem dX10_converts_39 : decode cX10_converts 39 = .ok (.getfield 276, 3) := by decide +kernel
theorem dX10_converts_42 : decode cX10_converts 42 = .ok (.invokevirtual 239, 3) := by decide +kernel
theorem dX10_converts_45 : decode cX10_converts 45 = .ok (.ifCond .eq 7, 3) := by decide +kernel
theorem dX10_converts_48 : decode cX10_converts 48 = .ok (.iconst (-1), 1) := by decide +kernel
theorem dX10_converts_49 : decode cX10_converts 49 = .ok (.goto 7, 3) := by decide +kernel
theorem dX10_converts_52 : decode cX10_converts 52 = .ok (.aload_n 2, 1) := by decide +kernel
theorem dX10_converts_53 : decode cX10_converts 53 = .ok (.getfield 276, 3) := by decide +kernel
theorem dX10_converts_56 : decode cX10_converts 56 = .ok (.istore_n 3, 1) := by decide +kernel
theorem dX10_converts_57 : decode cX10_converts 57 = .ok (.aload_n 2, 1) := by decide +kernel
theorem dX10_converts_58 : decode cX10_converts 58 = .ok (.getfield 279, 3) := by decide +kernel
theorem dX10_converts_61 : decode cX10_converts 61 = .ok (.iconst (-1), 1) := by decide +kernel
theorem dX10_converts_62 : decode cX10_converts 62 = .ok (.if_icmp .eq 17, 3) := by decide +kernel
theorem dX10_converts_65 : decode cX10_converts 65 = .ok (.aload_n 0, 1) := by decide +kernel
theorem dX10_converts_66 : decode cX10_converts 66 = .ok (.getfield 38, 3) := by decide +kernel
theorem dX10_converts_69 : decode cX10_converts 69 = .ok (.aload_n 2, 1) := by decide +kernel
theorem dX10_converts_70 : decode cX10_converts 70 = .ok (.getfield 279, 3) := by decide +kernel
theorem dX10_converts_73 : decode cX10_converts 73 = .ok (.invokevirtual 239, 3) := by decide +kernel
theorem dX10_converts_76 : decode cX10_converts 76 = .ok (.ifCond .eq 7, 3) := by decide +kernel
theorem dX10_converts_79 : decode cX10_converts 79 = .ok (.iconst (-1), 1) := by decide +kernel
theorem dX10_converts_80 : decode cX10_converts 80 = .ok (.goto 7, 3) := by decide +kernel
theorem dX10_converts_83 : decode cX10_converts 83 = .ok (.aload_n 2, 1) := by decide +kernel
theorem dX10_converts_84 : decode cX10_converts 84 = .ok (.getfield 279, 3) := by decide +kernel
theorem dX10_converts_87 : decode cX10_converts 87 = .ok (.istore 4, 2) := by decide +kernel
theorem dX10_converts_89 : decode cX10_converts 89 = .ok (.iload_n 3, 1) := by decide +kernel
theorem dX10_converts_90 : decode cX10_converts 90 = .ok (.iconst (-1), 1) := by decide +kernel
theorem dX10_converts_91 : decode cX10_converts 91 = .ok (.if_icmp .ne 9, 3) := by decide +kernel
theorem dX10_converts_94 : decode cX10_converts 94 = .ok (.iload 4, 2) := by decide +kernel
theorem dX10_converts_96 : decode cX10_converts 96 = .ok (.istore_n 3, 1) := by decide +kernel
theorem dX10_converts_97 : decode cX10_converts 97 = .ok (.iconst (-1), 1) := by decide +kernel
theorem dX10_converts_98 : decode cX10_converts 98 = .ok (.istore 4, 2) := by decide +kernel
theorem dX10_converts_100 : decode cX10_converts 100 = .ok (.iload_n 3, 1) := by decide +kernel
theorem dX10_converts_101 : decode cX10_converts 101 = .ok (.iconst (-1), 1) := by decide +kernel
theorem dX10_converts_102 : decode cX10_converts 102 = .ok (.if_icmp .ne 5, 3) := by decide +kernel
theorem dX10_converts_105 : decode cX10_converts 105 = .ok (.iconst 0, 1) := by decide +kernel
theorem dX10_converts_106 : decode cX10_converts 106 = .ok (.ireturn, 1) := by decide +kernel
theorem dX10_converts_107 : decode cX10_converts 107 = .ok (.ldc2_w 282, 3) := by decide +kernel
theorem dX10_converts_110 : decode cX10_converts 110 = .ok (.aload_n 2, 1) := by decide +kernel
theorem dX10_converts_111 : decode cX10_converts 111 = .ok (.getfield 284, 3) := by decide +kernel
theorem dX10_converts_114 : decode cX10_converts 114 = .ok (.i2l, 1) := by decide +kernel
theorem dX10_converts_115 : decode cX10_converts 115 = .ok (.lmul, 1) := by decide +kernel
theorem dX10_converts_116 : decode cX10_converts 116 = .ok (.lstore 5, 2) := by decide +kernel
theorem dX10_converts_118 : decode cX10_converts 118 = .ok (.aload_n 0, 1) := by decide +kernel
theorem dX10_converts_119 : decode cX10_converts 119 = .ok (.aload_n 2, 1) := by decide +kernel
theorem dX10_converts_120 : decode cX10_converts 120 = .ok (.getfield 276, 3) := by decide +kernel
theorem dX10_converts_123 : decode cX10_converts 123 = .ok (.aload_n 2, 1) := by decide +kernel
theorem dX10_converts_124 : decode cX10_converts 124 = .ok (.getfield 279, 3) := by decide +kernel
theorem dX10_converts_127 : decode cX10_converts 127 = .ok (.invokevirtual 113, 3) := by decide +kernel
theorem dX10_converts_130 : decode cX10_converts 130 = .ok (.i2l, 1) := by decide +kernel
theorem dX10_converts_131 : decode cX10_converts 131 = .ok (.lload 5, 2) := by decide +kernel
theorem dX10_converts_133 : decode cX10_converts 133 = .ok (.lmul, 1) := by decide +kernel
theorem dX10_converts_134 : decode cX10_converts 134 = .ok (.aload_n 0, 1) := by decide +kernel
theorem dX10_converts_135 : decode cX10_converts 135 = .ok (.iload_n 3, 1) := by decide +kernel
theorem dX10_converts_136 : decode cX10_converts 136 = .ok (.iload 4, 2) := by decide +kernel
theorem dX10_converts_138 : decode cX10_converts 138 = .ok (.iconst 0, 1) := by decide +kernel
theorem dX10_converts_139 : decode cX10_converts 139 = .ok (.invokevirtual 226, 3) := by decide +kernel
theorem dX10_converts_142 : decode cX10_converts 142 = .ok (.i2l, 1) := by decide +kernel
theorem dX10_converts_143 : decode cX10_converts 143 = .ok (.lmul, 1) := by decide +kernel
theorem dX10_converts_144 : decode cX10_converts 144 = .ok (.ldc2_w 287, 3) := by decide +kernel
theorem dX10_converts_147 : decode cX10_converts 147 = .ok (.ldiv, 1) := by decide +kernel
theorem dX10_converts_148 : decode cX10_converts 148 = .ok (.lstore 7, 2) := by decide +kernel
theorem dX10_converts_150 : decode cX10_converts 150 = .ok (.lload 7, 2) := by decide +kernel
theorem dX10_converts_152 : decode cX10_converts 152 = .ok (.lload 5, 2) := by decide +kernel
theorem dX10_converts_154 : decode cX10_converts 154 = .ok (.aload_n 0, 1) := by decide +kernel
theorem dX10_converts_155 : decode cX10_converts 155 = .ok (.iload_n 3, 1) := by decide +kernel
theorem dX10_converts_156 : decode cX10_converts 156 = .ok (.iload 4, 2) := by decide +kernel
theorem dX10_converts_158 : decode cX10_converts 158 = .ok (.iconst 1, 1) := by decide +kernel
theorem dX10_converts_159 : decode cX10_converts 159 = .ok (.invokevirtual 226, 3) := by decide +kernel
theorem dX10_converts_162 : decode cX10_converts 162 = .ok (.i2l, 1) := by decide +kernel
theorem dX10_converts_163 : decode cX10_converts 163 = .ok (.lmul, 1) := by decide +kernel
theorem dX10_converts_164 : decode cX10_converts 164 = .ok (.lcmp, 1) := by decide +kernel
theorem dX10_converts_165 : decode cX10_converts 165 = .ok (.ifCond .le 7, 3) := by decide +kernel
theorem dX10_converts_168 : decode cX10_converts 168 = .ok (.iconst 1, 1) := by decide +kernel
theorem dX10_converts_169 : decode cX10_converts 169 = .ok (.goto 4, 3) := by decide +kernel
theorem dX10_converts_172 : decode cX10_converts 172 = .ok (.iconst 0, 1) := by decide +kernel
theorem dX10_converts_173 : decode cX10_converts 173 = .ok (.ireturn, 1) := by decide +kernel
theorem dX10_count_0 : decode cX10_count 0 = .ok (.iload_n 1, 1) := by decide +kernel
theorem dX10_count_1 : decode cX10_count 1 = .ok (.tableswitch 124 0 8 #[51, 56, 64, 72, 80, 89, 98, 107, 116], 51) := by decide +kernel
theorem dX10_count_52 : decode cX10_count 52 = .ok (.aload_n 0, 1) := by decide +kernel
theorem dX10_count_53 : decode cX10_count 53 = .ok (.getfield 92, 3) := by decide +kernel
theorem dX10_count_56 : decode cX10_count 56 = .ok (.ireturn, 1) := by decide +kernel
theorem dX10_count_57 : decode cX10_count 57 = .ok (.aload_n 0, 1) := by decide +kernel
theorem dX10_count_58 : decode cX10_count 58 = .ok (.getfield 29, 3) := by decide +kernel
theorem dX10_count_61 : decode cX10_count 61 = .ok (.getfield 236, 3) := by decide +kernel
theorem dX10_count_64 : decode cX10_count 64 = .ok (.ireturn, 1) := by decide +kernel
theorem dX10_count_65 : decode cX10_count 65 = .ok (.aload_n 0, 1) := by decide +kernel
theorem dX10_count_66 : decode cX10_count 66 = .ok (.getfield 47, 3) := by decide +kernel
theorem dX10_count_69 : decode cX10_count 69 = .ok (.getfield 289, 3) := by decide +kernel
theorem dX10_count_72 : decode cX10_count 72 = .ok (.ireturn, 1) := by decide +kernel
theorem dX10_count_73 : decode cX10_count 73 = .ok (.aload_n 0, 1) := by decide +kernel
theorem dX10_count_74 : decode cX10_count 74 = .ok (.getfield 38, 3) := by decide +kernel
theorem dX10_count_77 : decode cX10_count 77 = .ok (.getfield 290, 3) := by decide +kernel
theorem dX10_count_80 : decode cX10_count 80 = .ok (.ireturn, 1) := by decide +kernel
theorem dX10_count_81 : decode cX10_count 81 = .ok (.aload_n 0, 1) := by decide +kernel
theorem dX10_count_82 : decode cX10_count 82 = .ok (.getfield 19, 3) := by decide +kernel
theorem dX10_count_85 : decode cX10_count 85 = .ok (.iconst 0, 1) := by decide +kernel
theorem dX10_count_86 : decode cX10_count 86 = .ok (.invokevirtual 177, 3) := by decide +kernel
theorem dX10_count_89 : decode cX10_count 89 = .ok (.ireturn, 1) := by decide +kernel
theorem dX10_count_90 : decode cX10_count 90 = .ok (.aload_n 0, 1) := by decide +kernel
theorem dX10_count_91 : decode cX10_count 91 = .ok (.getfield 19, 3) := by decide +kernel
theorem dX10_count_94 : decode cX10_count 94 = .ok (.iconst 1, 1) := by decide +kernel
theorem dX10_count_95 : decode cX10_count 95 = .ok (.invokevirtual 177, 3) := by decide +kernel
theorem dX10_count_98 : decode cX10_count 98 = .ok (.ireturn, 1) := by decide +kernel
theorem dX10_count_99 : decode cX10_count 99 = .ok (.aload_n 0, 1) := by decide +kernel
theorem dX10_count_100 : decode cX10_count 100 = .ok (.getfield 19, 3) := by decide +kernel
theorem dX10_count_103 : decode cX10_count 103 = .ok (.iconst 2, 1) := by decide +kernel
theorem dX10_count_104 : decode cX10_count 104 = .ok (.invokevirtual 177, 3) := by decide +kernel
theorem dX10_count_107 : decode cX10_count 107 = .ok (.ireturn, 1) := by decide +kernel
theorem dX10_count_108 : decode cX10_count 108 = .ok (.aload_n 0, 1) := by decide +kernel
theorem dX10_count_109 : decode cX10_count 109 = .ok (.getfield 19, 3) := by decide +kernel
theorem dX10_count_112 : decode cX10_count 112 = .ok (.iconst 3, 1) := by decide +kernel
theorem dX10_count_113 : decode cX10_count 113 = .ok (.invokevirtual 177, 3) := by decide +kernel
theorem dX10_count_116 : decode cX10_count 116 = .ok (.ireturn, 1) := by decide +kernel
theorem dX10_count_117 : decode cX10_count 117 = .ok (.aload_n 0, 1) := by decide +kernel
theorem dX10_count_118 : decode cX10_count 118 = .ok (.getfield 19, 3) := by decide +kernel
theorem dX10_count_121 : decode cX10_count 121 = .ok (.getfield 291, 3) := by decide +kernel
theorem dX10_count_124 : decode cX10_count 124 = .ok (.ireturn, 1) := by decide +kernel
theorem dX10_count_125 : decode cX10_count 125 = .ok (.iconst (-1), 1) := by decide +kernel
theorem dX10_count_126 : decode cX10_count 126 = .ok (.ireturn, 1) := by decide +kernel
theorem dX10_isHalf_0 : decode cX10_isHalf 0 = .ok (.iload_n 0, 1) := by decide +kernel
theorem dX10_isHalf_1 : decode cX10_isHalf 1 = .ok (.ifCond .lt 13, 3) := by decide +kernel
theorem dX10_isHalf_4 : decode cX10_isHalf 4 = .ok (.iload_n 0, 1) := by decide +kernel
theorem dX10_isHalf_5 : decode cX10_isHalf 5 = .ok (.bipush 80, 2) := by decide +kernel
theorem dX10_isHalf_7 : decode cX10_isHalf 7 = .ok (.if_icmp .ge 7, 3) := by decide +kernel
theorem dX10_isHalf_10 : decode cX10_isHalf 10 = .ok (.iconst 1, 1) := by decide +kernel
theorem dX10_isHalf_11 : decode cX10_isHalf 11 = .ok (.goto 4, 3) := by decide +kernel
theorem dX10_isHalf_14 : decode cX10_isHalf 14 = .ok (.iconst 0, 1) := by decide +kernel
theorem dX10_isHalf_15 : decode cX10_isHalf 15 = .ok (.ireturn, 1) := by decide +kernel
theorem dX10_isClass_0 : decode cX10_isClass 0 = .ok (.iload_n 0, 1) := by decide +kernel
theorem dX10_isClass_1 : decode cX10_isClass 1 = .ok (.ifCond .lt 12, 3) := by decide +kernel
theorem dX10_isClass_4 : decode cX10_isClass 4 = .ok (.iload_n 0, 1) := by decide +kernel
theorem dX10_isClass_5 : decode cX10_isClass 5 = .ok (.iconst 4, 1) := by decide +kernel
theorem dX10_isClass_6 : decode cX10_isClass 6 = .ok (.if_icmp .ge 7, 3) := by decide +kernel
theorem dX10_isClass_9 : decode cX10_isClass 9 = .ok (.iconst 1, 1) := by decide +kernel
theorem dX10_isClass_10 : decode cX10_isClass 10 = .ok (.goto 4, 3) := by decide +kernel
theorem dX10_isClass_13 : decode cX10_isClass 13 = .ok (.iconst 0, 1) := by decide +kernel
theorem dX10_isClass_14 : decode cX10_isClass 14 = .ok (.ireturn, 1) := by decide +kernel
theorem dX10_isGroup_0 : decode cX10_isGroup 0 = .ok (.iload_n 0, 1) := by decide +kernel
theorem dX10_isGroup_1 : decode cX10_isGroup 1 = .ok (.ifCond .lt 13, 3) := by decide +kernel
theorem dX10_isGroup_4 : decode cX10_isGroup 4 = .ok (.iload_n 0, 1) := by decide +kernel
theorem dX10_isGroup_5 : decode cX10_isGroup 5 = .ok (.bipush 10, 2) := by decide +kernel
theorem dX10_isGroup_7 : decode cX10_isGroup 7 = .ok (.if_icmp .ge 7, 3) := by decide +kernel
theorem dX10_isGroup_10 : decode cX10_isGroup 10 = .ok (.iconst 1, 1) := by decide +kernel
theorem dX10_isGroup_11 : decode cX10_isGroup 11 = .ok (.goto 4, 3) := by decide +kernel
theorem dX10_isGroup_14 : decode cX10_isGroup 14 = .ok (.iconst 0, 1) := by decide +kernel
theorem dX10_isGroup_15 : decode cX10_isGroup 15 = .ok (.ireturn, 1) := by decide +kernel
theorem dX10_isHolder_0 : decode cX10_isHolder 0 = .ok (.iload_n 0, 1) := by decide +kernel
theorem dX10_isHolder_1 : decode cX10_isHolder 1 = .ok (.ifCond .lt 13, 3) := by decide +kernel
theorem dX10_isHolder_4 : decode cX10_isHolder 4 = .ok (.iload_n 0, 1) := by decide +kernel
theorem dX10_isHolder_5 : decode cX10_isHolder 5 = .ok (.bipush 8, 2) := by decide +kernel
theorem dX10_isHolder_7 : decode cX10_isHolder 7 = .ok (.if_icmp .ge 7, 3) := by decide +kernel
theorem dX10_isHolder_10 : decode cX10_isHolder 10 = .ok (.iconst 1, 1) := by decide +kernel
theorem dX10_isHolder_11 : decode cX10_isHolder 11 = .ok (.goto 4, 3) := by decide +kernel
theorem dX10_isHolder_14 : decode cX10_isHolder 14 = .ok (.iconst 0, 1) := by decide +kernel
theorem dX10_isHolder_15 : decode cX10_isHolder 15 = .ok (.ireturn, 1) := by decide +kernel
theorem dX10_hasBegun_0 : decode cX10_hasBegun 0 = .ok (.iload_n 1, 1) := by decide +kernel
theorem dX10_hasBegun_1 : decode cX10_hasBegun 1 = .ok (.ifCond .lt 15, 3) := by decide +kernel
theorem dX10_hasBegun_4 : decode cX10_hasBegun 4 = .ok (.iload_n 1, 1) := by decide +kernel
theorem dX10_hasBegun_5 : decode cX10_hasBegun 5 = .ok (.aload_n 0, 1) := by decide +kernel
theorem dX10_hasBegun_6 : decode cX10_hasBegun 6 = .ok (.getfield 92, 3) := by decide +kernel
theorem dX10_hasBegun_9 : decode cX10_hasBegun 9 = .ok (.if_icmp .gt 7, 3) := by decide +kernel
theorem dX10_hasBegun_12 : decode cX10_hasBegun 12 = .ok (.iconst 1, 1) := by decide +kernel
theorem dX10_hasBegun_13 : decode cX10_hasBegun 13 = .ok (.goto 4, 3) := by decide +kernel
theorem dX10_hasBegun_16 : decode cX10_hasBegun 16 = .ok (.iconst 0, 1) := by decide +kernel
theorem dX10_hasBegun_17 : decode cX10_hasBegun 17 = .ok (.ireturn, 1) := by decide +kernel
theorem dX10_hasYearsLeft_0 : decode cX10_hasYearsLeft 0 = .ok (.aload_n 0, 1) := by decide +kernel
theorem dX10_hasYearsLeft_1 : decode cX10_hasYearsLeft 1 = .ok (.getfield 29, 3) := by decide +kernel
theorem dX10_hasYearsLeft_4 : decode cX10_hasYearsLeft 4 = .ok (.iload_n 1, 1) := by decide +kernel
theorem dX10_hasYearsLeft_5 : decode cX10_hasYearsLeft 5 = .ok (.invokevirtual 103, 3) := by decide +kernel
theorem dX10_hasYearsLeft_8 : decode cX10_hasYearsLeft 8 = .ok (.ifCond .eq 24, 3) := by decide +kernel
theorem dX10_hasYearsLeft_11 : decode cX10_hasYearsLeft 11 = .ok (.aload_n 0, 1) := by decide +kernel
theorem dX10_hasYearsLeft_12 : decode cX10_hasYearsLeft 12 = .ok (.getfield 29, 3) := by decide +kernel
theorem dX10_hasYearsLeft_15 : decode cX10_hasYearsLeft 15 = .ok (.iload_n 1, 1) := by decide +kernel
theorem dX10_hasYearsLeft_16 : decode cX10_hasYearsLeft 16 = .ok (.aload_n 0, 1) := by decide +kernel
theorem dX10_hasYearsLeft_17 : decode cX10_hasYearsLeft 17 = .ok (.getfield 92, 3) := by decide +kernel
theorem dX10_hasYearsLeft_20 : decode cX10_hasYearsLeft 20 = .ok (.invokevirtual 292, 3) := by decide +kernel
theorem dX10_hasYearsLeft_23 : decode cX10_hasYearsLeft 23 = .ok (.bipush 100, 2) := by decide +kernel
theorem dX10_hasYearsLeft_25 : decode cX10_hasYearsLeft 25 = .ok (.if_icmp .ge 7, 3) := by decide +kernel
theorem dX10_hasYearsLeft_28 : decode cX10_hasYearsLeft 28 = .ok (.iconst 1, 1) := by decide +kernel
theorem dX10_hasYearsLeft_29 : decode cX10_hasYearsLeft 29 = .ok (.goto 4, 3) := by decide +kernel
theorem dX10_hasYearsLeft_32 : decode cX10_hasYearsLeft 32 = .ok (.iconst 0, 1) := by decide +kernel
theorem dX10_hasYearsLeft_33 : decode cX10_hasYearsLeft 33 = .ok (.ireturn, 1) := by decide +kernel
theorem dX10_groupOf_0 : decode cX10_groupOf 0 = .ok (.iconst 0, 1) := by decide +kernel
theorem dX10_groupOf_1 : decode cX10_groupOf 1 = .ok (.bipush 9, 2) := by decide +kernel
theorem dX10_groupOf_3 : decode cX10_groupOf 3 = .ok (.iload_n 0, 1) := by decide +kernel
theorem dX10_groupOf_4 : decode cX10_groupOf 4 = .ok (.bipush 10, 2) := by decide +kernel
theorem dX10_groupOf_6 : decode cX10_groupOf 6 = .ok (.idiv, 1) := by decide +kernel
theorem dX10_groupOf_7 : decode cX10_groupOf 7 = .ok (.invokestatic 295, 3) := by decide +kernel
theorem dX10_groupOf_10 : decode cX10_groupOf 10 = .ok (.invokestatic 300, 3) := by decide +kernel
theorem dX10_groupOf_13 : decode cX10_groupOf 13 = .ok (.ireturn, 1) := by decide +kernel
theorem dX10_ruling_0 : decode cX10_ruling 0 = .ok (.aload_n 0, 1) := by decide +kernel
theorem dX10_ruling_1 : decode cX10_ruling 1 = .ok (.getfield 29, 3) := by decide +kernel
theorem dX10_ruling_4 : decode cX10_ruling 4 = .ok (.iload_n 3, 1) := by decide +kernel
theorem dX10_ruling_5 : decode cX10_ruling 5 = .ok (.iload 4, 2) := by decide +kernel
theorem dX10_ruling_7 : decode cX10_ruling 7 = .ok (.aload_n 0, 1) := by decide +kernel
theorem dX10_ruling_8 : decode cX10_ruling 8 = .ok (.getfield 92, 3) := by decide +kernel
theorem dX10_ruling_11 : decode cX10_ruling 11 = .ok (.invokevirtual 303, 3) := by decide +kernel
theorem dX10_ruling_14 : decode cX10_ruling 14 = .ok (.istore 5, 2) := by decide +kernel
theorem dX10_ruling_16 : decode cX10_ruling 16 = .ok (.iload 4, 2) := by decide +kernel
theorem dX10_ruling_18 : decode cX10_ruling 18 = .ok (.iconst (-1), 1) := by decide +kernel
theorem dX10_ruling_19 : decode cX10_ruling 19 = .ok (.if_icmp .ne 7, 3) := by decide +kernel
theorem dX10_ruling_22 : decode cX10_ruling 22 = .ok (.iconst 1, 1) := by decide +kernel
theorem dX10_ruling_23 : decode cX10_ruling 23 = .ok (.goto 4, 3) := by decide +kernel
theorem dX10_ruling_26 : decode cX10_ruling 26 = .ok (.iconst 2, 1) := by decide +kernel
theorem dX10_ruling_27 : decode cX10_ruling 27 = .ok (.istore 6, 2) := by decide +kernel
theorem dX10_ruling_29 : decode cX10_ruling 29 = .ok (.aload_n 0, 1) := by decide +kernel
theorem dX10_ruling_30 : decode cX10_ruling 30 = .ok (.getfield 19, 3) := by decide +kernel
theorem dX10_ruling_33 : decode cX10_ruling 33 = .ok (.aload_n 1, 1) := by decide +kernel
theorem dX10_ruling_34 : decode cX10_ruling 34 = .ok (.aload_n 2, 1) := by decide +kernel
theorem dX10_ruling_35 : decode cX10_ruling 35 = .ok (.aload_n 0, 1) := by decide +kernel
theorem dX10_ruling_36 : decode cX10_ruling 36 = .ok (.getfield 29, 3) := by decide +kernel
theorem dX10_ruling_39 : decode cX10_ruling 39 = .ok (.iload 5, 2) := by decide +kernel
theorem dX10_ruling_41 : decode cX10_ruling 41 = .ok (.aload_n 0, 1) := by decide +kernel
theorem dX10_ruling_42 : decode cX10_ruling 42 = .ok (.getfield 92, 3) := by decide +kernel
theorem dX10_ruling_45 : decode cX10_ruling 45 = .ok (.invokevirtual 292, 3) := by decide +kernel
theorem dX10_ruling_48 : decode cX10_ruling 48 = .ok (.aload_n 0, 1) := by decide +kernel
theorem dX10_ruling_49 : decode cX10_ruling 49 = .ok (.getfield 29, 3) := by decide +kernel
theorem dX10_ruling_52 : decode cX10_ruling 52 = .ok (.getfield 306, 3) := by decide +kernel
theorem dX10_ruling_55 : decode cX10_ruling 55 = .ok (.iload 5, 2) := by decide +kernel
theorem dX10_ruling_57 : decode cX10_ruling 57 = .ok (.iaload, 1) := by decide +kernel
theorem dX10_ruling_58 : decode cX10_ruling 58 = .ok (.aload_n 0, 1) := by decide +kernel
theorem dX10_ruling_59 : decode cX10_ruling 59 = .ok (.getfield 92, 3) := by decide +kernel
theorem dX10_ruling_62 : decode cX10_ruling 62 = .ok (.iload 6, 2) := by decide +kernel
theorem dX10_ruling_64 : decode cX10_ruling 64 = .ok (.invokevirtual 309, 3) := by decide +kernel
theorem dX10_ruling_67 : decode cX10_ruling 67 = .ok (.areturn, 1) := by decide +kernel
theorem dX10_mayBeNamed_0 : decode cX10_mayBeNamed 0 = .ok (.aload_n 0, 1) := by decide +kernel
theorem dX10_mayBeNamed_1 : decode cX10_mayBeNamed 1 = .ok (.getstatic 313, 3) := by decide +kernel
theorem dX10_mayBeNamed_4 : decode cX10_mayBeNamed 4 = .ok (.getstatic 319, 3) := by decide +kernel
theorem dX10_mayBeNamed_7 : decode cX10_mayBeNamed 7 = .ok (.iload_n 1, 1) := by decide +kernel
theorem dX10_mayBeNamed_8 : decode cX10_mayBeNamed 8 = .ok (.iload_n 2, 1) := by decide +kernel
theorem dX10_mayBeNamed_9 : decode cX10_mayBeNamed 9 = .ok (.invokevirtual 322, 3) := by decide +kernel
theorem dX10_mayBeNamed_12 : decode cX10_mayBeNamed 12 = .ok (.astore_n 3, 1) := by decide +kernel
theorem dX10_mayBeNamed_13 : decode cX10_mayBeNamed 13 = .ok (.aload_n 3, 1) := by decide +kernel
theorem dX10_mayBeNamed_14 : decode cX10_mayBeNamed 14 = .ok (.ifnull 13, 3) := by decide +kernel
theorem dX10_mayBeNamed_17 : decode cX10_mayBeNamed 17 = .ok (.aload_n 3, 1) := by decide +kernel
theorem dX10_mayBeNamed_18 : decode cX10_mayBeNamed 18 = .ok (.getfield 326, 3) := by decide +kernel
theorem dX10_mayBeNamed_21 : decode cX10_mayBeNamed 21 = .ok (.getstatic 313, 3) := by decide +kernel
theorem dX10_mayBeNamed_24 : decode cX10_mayBeNamed 24 = .ok (.if_acmp .ne 7, 3) := by decide +kernel
theorem dX10_mayBeNamed_27 : decode cX10_mayBeNamed 27 = .ok (.iconst 1, 1) := by decide +kernel
theorem dX10_mayBeNamed_28 : decode cX10_mayBeNamed 28 = .ok (.goto 4, 3) := by decide +kernel
theorem dX10_mayBeNamed_31 : decode cX10_mayBeNamed 31 = .ok (.iconst 0, 1) := by decide +kernel
theorem dX10_mayBeNamed_32 : decode cX10_mayBeNamed 32 = .ok (.ireturn, 1) := by decide +kernel
theorem dX10_priceOn_0 : decode cX10_priceOn 0 = .ok (.aload_n 0, 1) := by decide +kernel
theorem dX10_priceOn_1 : decode cX10_priceOn 1 = .ok (.getstatic 331, 3) := by decide +kernel
theorem dX10_priceOn_4 : decode cX10_priceOn 4 = .ok (.getstatic 331, 3) := by decide +kernel
theorem dX10_priceOn_7 : decode cX10_priceOn 7 = .ok (.iload_n 1, 1) := by decide +kernel
theorem dX10_priceOn_8 : decode cX10_priceOn 8 = .ok (.iload_n 2, 1) := by decide +kernel
theorem dX10_priceOn_9 : decode cX10_priceOn 9 = .ok (.invokevirtual 322, 3) := by decide +kernel
theorem dX10_priceOn_12 : decode cX10_priceOn 12 = .ok (.astore_n 3, 1) := by decide +kernel
theorem dX10_priceOn_13 : decode cX10_priceOn 13 = .ok (.aload_n 3, 1) := by decide +kernel
theorem dX10_priceOn_14 : decode cX10_priceOn 14 = .ok (.ifnonnull 8, 3) := by decide +kernel
theorem dX10_priceOn_17 : decode cX10_priceOn 17 = .ok (.bipush 10, 2) := by decide +kernel
theorem dX10_priceOn_19 : decode cX10_priceOn 19 = .ok (.goto 7, 3) := by decide +kernel
theorem dX10_priceOn_22 : decode cX10_priceOn 22 = .ok (.aload_n 3, 1) := by decide +kernel
theorem dX10_priceOn_23 : decode cX10_priceOn 23 = .ok (.getfield 334, 3) := by decide +kernel
theorem dX10_priceOn_26 : decode cX10_priceOn 26 = .ok (.ireturn, 1) := by decide +kernel
theorem dX10_lumpOn_0 : decode cX10_lumpOn 0 = .ok (.aload_n 0, 1) := by decide +kernel
theorem dX10_lumpOn_1 : decode cX10_lumpOn 1 = .ok (.getstatic 337, 3) := by decide +kernel
theorem dX10_lumpOn_4 : decode cX10_lumpOn 4 = .ok (.getstatic 337, 3) := by decide +kernel
theorem dX10_lumpOn_7 : decode cX10_lumpOn 7 = .ok (.iload_n 1, 1) := by decide +kernel
theorem dX10_lumpOn_8 : decode cX10_lumpOn 8 = .ok (.iload_n 2, 1) := by decide +kernel
theorem dX10_lumpOn_9 : decode cX10_lumpOn 9 = .ok (.invokevirtual 322, 3) := by decide +kernel
theorem dX10_lumpOn_12 : decode cX10_lumpOn 12 = .ok (.astore_n 3, 1) := by decide +kernel
theorem dX10_lumpOn_13 : decode cX10_lumpOn 13 = .ok (.aload_n 3, 1) := by decide +kernel
theorem dX10_lumpOn_14 : decode cX10_lumpOn 14 = .ok (.ifnonnull 7, 3) := by decide +kernel
theorem dX10_lumpOn_17 : decode cX10_lumpOn 17 = .ok (.iconst 0, 1) := by decide +kernel
theorem dX10_lumpOn_18 : decode cX10_lumpOn 18 = .ok (.goto 7, 3) := by decide +kernel
theorem dX10_lumpOn_21 : decode cX10_lumpOn 21 = .ok (.aload_n 3, 1) := by decide +kernel
theorem dX10_lumpOn_22 : decode cX10_lumpOn 22 = .ok (.getfield 334, 3) := by decide +kernel
theorem dX10_lumpOn_25 : decode cX10_lumpOn 25 = .ok (.ireturn, 1) := by decide +kernel
theorem dX10_worthNow_0 : decode cX10_worthNow 0 = .ok (.aload_n 0, 1) := by decide +kernel
theorem dX10_worthNow_1 : decode cX10_worthNow 1 = .ok (.getfield 38, 3) := by decide +kernel
theorem dX10_worthNow_4 : decode cX10_worthNow 4 = .ok (.aload_n 0, 1) := by decide +kernel
theorem dX10_worthNow_5 : decode cX10_worthNow 5 = .ok (.getfield 92, 3) := by decide +kernel
theorem dX10_worthNow_8 : decode cX10_worthNow 8 = .ok (.invokevirtual 149, 3) := by decide +kernel
theorem dX10_worthNow_11 : decode cX10_worthNow 11 = .ok (.aload_n 0, 1) := by decide +kernel
theorem dX10_worthNow_12 : decode cX10_worthNow 12 = .ok (.getfield 56, 3) := by decide +kernel
theorem dX10_worthNow_15 : decode cX10_worthNow 15 = .ok (.iload_n 1, 1) := by decide +kernel
theorem dX10_worthNow_16 : decode cX10_worthNow 16 = .ok (.iload_n 2, 1) := by decide +kernel
theorem dX10_worthNow_17 : decode cX10_worthNow 17 = .ok (.aload_n 0, 1) := by decide +kernel
theorem dX10_worthNow_18 : decode cX10_worthNow 18 = .ok (.getfield 92, 3) := by decide +kernel
theorem dX10_worthNow_21 : decode cX10_worthNow 21 = .ok (.iload_n 3, 1) := by decide +kernel
theorem dX10_worthNow_22 : decode cX10_worthNow 22 = .ok (.aload_n 0, 1) := by decide +kernel
theorem dX10_worthNow_23 : decode cX10_worthNow 23 = .ok (.getfield 19, 3) := by decide +kernel
theorem dX10_worthNow_26 : decode cX10_worthNow 26 = .ok (.iconst 2, 1) := by decide +kernel
theorem dX10_worthNow_27 : decode cX10_worthNow 27 = .ok (.invokevirtual 177, 3) := by decide +kernel
theorem dX10_worthNow_30 : decode cX10_worthNow 30 = .ok (.invokevirtual 340, 3) := by decide +kernel
theorem dX10_worthNow_33 : decode cX10_worthNow 33 = .ok (.ireturn, 1) := by decide +kernel
theorem dX10_riskOn_0 : decode cX10_riskOn 0 = .ok (.aload_n 0, 1) := by decide +kernel
theorem dX10_riskOn_1 : decode cX10_riskOn 1 = .ok (.getfield 47, 3) := by decide +kernel
theorem dX10_riskOn_4 : decode cX10_riskOn 4 = .ok (.iload_n 1, 1) := by decide +kernel
theorem dX10_riskOn_5 : decode cX10_riskOn 5 = .ok (.invokevirtual 344, 3) := by decide +kernel
theorem dX10_riskOn_8 : decode cX10_riskOn 8 = .ok (.istore_n 2, 1) := by decide +kernel
theorem dX10_riskOn_9 : decode cX10_riskOn 9 = .ok (.iload_n 2, 1) := by decide +kernel
theorem dX10_riskOn_10 : decode cX10_riskOn 10 = .ok (.iconst (-1), 1) := by decide +kernel
theorem dX10_riskOn_11 : decode cX10_riskOn 11 = .ok (.if_icmp .ne 5, 3) := by decide +kernel
theorem dX10_riskOn_14 : decode cX10_riskOn 14 = .ok (.lconst 0, 1) := by decide +kernel
theorem dX10_riskOn_15 : decode cX10_riskOn 15 = .ok (.lreturn, 1) := by decide +kernel
theorem dX10_riskOn_16 : decode cX10_riskOn 16 = .ok (.aload_n 0, 1) := by decide +kernel
theorem dX10_riskOn_17 : decode cX10_riskOn 17 = .ok (.getfield 38, 3) := by decide +kernel
theorem dX10_riskOn_20 : decode cX10_riskOn 20 = .ok (.iload_n 1, 1) := by decide +kernel
theorem dX10_riskOn_21 : decode cX10_riskOn 21 = .ok (.invokevirtual 347, 3) := by decide +kernel
theorem dX10_riskOn_24 : decode cX10_riskOn 24 = .ok (.istore_n 3, 1) := by decide +kernel
theorem dX10_riskOn_25 : decode cX10_riskOn 25 = .ok (.iload_n 3, 1) := by decide +kernel
theorem dX10_riskOn_26 : decode cX10_riskOn 26 = .ok (.iconst (-1), 1) := by decide +kernel
theorem dX10_riskOn_27 : decode cX10_riskOn 27 = .ok (.if_icmp .ne 16, 3) := by decide +kernel
theorem dX10_riskOn_30 : decode cX10_riskOn 30 = .ok (.aload_n 0, 1) := by decide +kernel
theorem dX10_riskOn_31 : decode cX10_riskOn 31 = .ok (.getfield 47, 3) := by decide +kernel
theorem dX10_riskOn_34 : decode cX10_riskOn 34 = .ok (.getfield 167, 3) := by decide +kernel
theorem dX10_riskOn_37 : decode cX10_riskOn 37 = .ok (.iload_n 2, 1) := by decide +kernel
theorem dX10_riskOn_38 : decode cX10_riskOn 38 = .ok (.aaload, 1) := by decide +kernel
theorem dX10_riskOn_39 : decode cX10_riskOn 39 = .ok (.getfield 350, 3) := by decide +kernel
theorem dX10_riskOn_42 : decode cX10_riskOn 42 = .ok (.istore_n 3, 1) := by decide +kernel
theorem dX10_riskOn_43 : decode cX10_riskOn 43 = .ok (.aload_n 0, 1) := by decide +kernel
theorem dX10_riskOn_44 : decode cX10_riskOn 44 = .ok (.getfield 29, 3) := by decide +kernel
theorem dX10_riskOn_47 : decode cX10_riskOn 47 = .ok (.iload_n 1, 1) := by decide +kernel
theorem dX10_riskOn_48 : decode cX10_riskOn 48 = .ok (.aload_n 0, 1) := by decide +kernel
theorem dX10_riskOn_49 : decode cX10_riskOn 49 = .ok (.getfield 92, 3) := by decide +kernel
theorem dX10_riskOn_52 : decode cX10_riskOn 52 = .ok (.invokevirtual 292, 3) := by decide +kernel
theorem dX10_riskOn_55 : decode cX10_riskOn 55 = .ok (.invokestatic 353, 3) := by decide +kernel
theorem dX10_riskOn_58 : decode cX10_riskOn 58 = .ok (.istore 4, 2) := by decide +kernel
theorem dX10_riskOn_60 : decode cX10_riskOn 60 = .ok (.sipush 1000, 3) := by decide +kernel
theorem dX10_riskOn_63 : decode cX10_riskOn 63 = .ok (.aload_n 0, 1) := by decide +kernel
theorem dX10_riskOn_64 : decode cX10_riskOn 64 = .ok (.getfield 56, 3) := by decide +kernel
theorem dX10_riskOn_67 : decode cX10_riskOn 67 = .ok (.getfield 206, 3) := by decide +kernel
theorem dX10_riskOn_70 : decode cX10_riskOn 70 = .ok (.aload_n 0, 1) := by decide +kernel
theorem dX10_riskOn_71 : decode cX10_riskOn 71 = .ok (.getfield 29, 3) := by decide +kernel
theorem dX10_riskOn_74 : decode cX10_riskOn 74 = .ok (.getfield 306, 3) := by decide +kernel
theorem dX10_riskOn_77 : decode cX10_riskOn 77 = .ok (.iload_n 1, 1) := by decide +kernel
theorem dX10_riskOn_78 : decode cX10_riskOn 78 = .ok (.iaload, 1) := by decide +kernel
theorem dX10_riskOn_79 : decode cX10_riskOn 79 = .ok (.aaload, 1) := by decide +kernel
theorem dX10_riskOn_80 : decode cX10_riskOn 80 = .ok (.iload 4, 2) := by decide +kernel
theorem dX10_riskOn_82 : decode cX10_riskOn 82 = .ok (.iaload, 1) := by decide +kernel
theorem dX10_riskOn_83 : decode cX10_riskOn 83 = .ok (.isub, 1) := by decide +kernel
theorem dX10_riskOn_84 : decode cX10_riskOn 84 = .ok (.i2l, 1) := by decide +kernel
theorem dX10_riskOn_85 : decode cX10_riskOn 85 = .ok (.lstore 5, 2) := by decide +kernel
theorem dX10_riskOn_87 : decode cX10_riskOn 87 = .ok (.aload_n 0, 1) := by decide +kernel
theorem dX10_riskOn_88 : decode cX10_riskOn 88 = .ok (.getfield 47, 3) := by decide +kernel
theorem dX10_riskOn_91 : decode cX10_riskOn 91 = .ok (.iload_n 1, 1) := by decide +kernel
theorem dX10_riskOn_92 : decode cX10_riskOn 92 = .ok (.invokevirtual 356, 3) := by decide +kernel
theorem dX10_riskOn_95 : decode cX10_riskOn 95 = .ok (.i2l, 1) := by decide +kernel
theorem dX10_riskOn_96 : decode cX10_riskOn 96 = .ok (.lload 5, 2) := by decide +kernel
theorem dX10_riskOn_98 : decode cX10_riskOn 98 = .ok (.lmul, 1) := by decide +kernel
theorem dX10_riskOn_99 : decode cX10_riskOn 99 = .ok (.aload_n 0, 1) := by decide +kernel
theorem dX10_riskOn_100 : decode cX10_riskOn 100 = .ok (.getfield 92, 3) := by decide +kernel
theorem dX10_riskOn_103 : decode cX10_riskOn 103 = .ok (.iload_n 3, 1) := by decide +kernel
theorem dX10_riskOn_104 : decode cX10_riskOn 104 = .ok (.isub, 1) := by decide +kernel
theorem dX10_riskOn_105 : decode cX10_riskOn 105 = .ok (.i2l, 1) := by decide +kernel
theorem dX10_riskOn_106 : decode cX10_riskOn 106 = .ok (.lmul, 1) := by decide +kernel
theorem dX10_riskOn_107 : decode cX10_riskOn 107 = .ok (.lreturn, 1) := by decide +kernel
theorem dX10_riskierThan_0 : decode cX10_riskierThan 0 = .ok (.iconst 0, 1) := by decide +kernel
theorem dX10_riskierThan_1 : decode cX10_riskierThan 1 = .ok (.istore_n 2, 1) := by decide +kernel
theorem dX10_riskierThan_2 : decode cX10_riskierThan 2 = .ok (.iconst 0, 1) := by decide +kernel
theorem dX10_riskierThan_3 : decode cX10_riskierThan 3 = .ok (.istore_n 3, 1) := by decide +kernel
theorem dX10_riskierThan_4 : decode cX10_riskierThan 4 = .ok (.iload_n 3, 1) := by decide +kernel
theorem dX10_riskierThan_5 : decode cX10_riskierThan 5 = .ok (.aload_n 0, 1) := by decide +kernel
theorem dX10_riskierThan_6 : decode cX10_riskierThan 6 = .ok (.getfield 29, 3) := by decide +kernel
theorem dX10_riskierThan_9 : decode cX10_riskierThan 9 = .ok (.getfield 236, 3) := by decide +kernel
theorem dX10_riskierThan_12 : decode cX10_riskierThan 12 = .ok (.if_icmp .ge 72, 3) := by decide +kernel
theorem dX10_riskierThan_15 : decode cX10_riskierThan 15 = .ok (.aload_n 0, 1) := by decide +kernel
theorem dX10_riskierThan_16 : decode cX10_riskierThan 16 = .ok (.getfield 67, 3) := by decide +kernel
theorem dX10_riskierThan_19 : decode cX10_riskierThan 19 = .ok (.iload_n 3, 1) := by decide +kernel
theorem dX10_riskierThan_20 : decode cX10_riskierThan 20 = .ok (.laload, 1) := by decide +kernel
theorem dX10_riskierThan_21 : decode cX10_riskierThan 21 = .ok (.aload_n 0, 1) := by decide +kernel
theorem dX10_riskierThan_22 : decode cX10_riskierThan 22 = .ok (.getfield 67, 3) := by decide +kernel
theorem dX10_riskierThan_25 : decode cX10_riskierThan 25 = .ok (.iload_n 1, 1) := by decide +kernel
theorem dX10_riskierThan_26 : decode cX10_riskierThan 26 = .ok (.laload, 1) := by decide +kernel
theorem dX10_riskierThan_27 : decode cX10_riskierThan 27 = .ok (.lcmp, 1) := by decide +kernel
theorem dX10_riskierThan_28 : decode cX10_riskierThan 28 = .ok (.ifCond .gt 24, 3) := by decide +kernel
theorem dX10_riskierThan_31 : decode cX10_riskierThan 31 = .ok (.aload_n 0, 1) := by decide +kernel
theorem dX10_riskierThan_32 : decode cX10_riskierThan 32 = .ok (.getfield 67, 3) := by decide +kernel
theorem dX10_riskierThan_35 : decode cX10_riskierThan 35 = .ok (.iload_n 3, 1) := by decide +kernel
theorem dX10_riskierThan_36 : decode cX10_riskierThan 36 = .ok (.laload, 1) := by decide +kernel
theorem dX10_riskierThan_37 : decode cX10_riskierThan 37 = .ok (.aload_n 0, 1) := by decide +kernel
theorem dX10_riskierThan_38 : decode cX10_riskierThan 38 = .ok (.getfield 67, 3) := by decide +kernel
theorem dX10_riskierThan_41 : decode cX10_riskierThan 41 = .ok (.iload_n 1, 1) := by decide +kernel
theorem dX10_riskierThan_42 : decode cX10_riskierThan 42 = .ok (.laload, 1) := by decide +kernel
theorem dX10_riskierThan_43 : decode cX10_riskierThan 43 = .ok (.lcmp, 1) := by decide +kernel
theorem dX10_riskierThan_44 : decode cX10_riskierThan 44 = .ok (.ifCond .ne 12, 3) := by decide +kernel
theorem dX10_riskierThan_47 : decode cX10_riskierThan 47 = .ok (.iload_n 3, 1) := by decide +kernel
theorem dX10_riskierThan_48 : decode cX10_riskierThan 48 = .ok (.iload_n 1, 1) := by decide +kernel
theorem dX10_riskierThan_49 : decode cX10_riskierThan 49 = .ok (.if_icmp .ge 7, 3) := by decide +kernel
theorem dX10_riskierThan_52 : decode cX10_riskierThan 52 = .ok (.iconst 1, 1) := by decide +kernel
theorem dX10_riskierThan_53 : decode cX10_riskierThan 53 = .ok (.goto 4, 3) := by decide +kernel
theorem dX10_riskierThan_56 : decode cX10_riskierThan 56 = .ok (.iconst 0, 1) := by decide +kernel
theorem dX10_riskierThan_57 : decode cX10_riskierThan 57 = .ok (.istore 4, 2) := by decide +kernel
theorem dX10_riskierThan_59 : decode cX10_riskierThan 59 = .ok (.iload 4, 2) := by decide +kernel
theorem dX10_riskierThan_61 : decode cX10_riskierThan 61 = .ok (.ifCond .eq 17, 3) := by decide +kernel
theorem dX10_riskierThan_64 : decode cX10_riskierThan 64 = .ok (.aload_n 0, 1) := by decide +kernel
theorem dX10_riskierThan_65 : decode cX10_riskierThan 65 = .ok (.getfield 38, 3) := by decide +kernel
theorem dX10_riskierThan_68 : decode cX10_riskierThan 68 = .ok (.iload_n 3, 1) := by decide +kernel
theorem dX10_riskierThan_69 : decode cX10_riskierThan 69 = .ok (.invokevirtual 239, 3) := by decide +kernel
theorem dX10_riskierThan_72 : decode cX10_riskierThan 72 = .ok (.ifCond .ne 6, 3) := by decide +kernel
theorem dX10_riskierThan_75 : decode cX10_riskierThan 75 = .ok (.iinc 2 1, 3) := by decide +kernel
theorem dX10_riskierThan_78 : decode cX10_riskierThan 78 = .ok (.iinc 3 1, 3) := by decide +kernel
theorem dX10_riskierThan_81 : decode cX10_riskierThan 81 = .ok (.goto (-77), 3) := by decide +kernel
theorem dX10_riskierThan_84 : decode cX10_riskierThan 84 = .ok (.iload_n 2, 1) := by decide +kernel
theorem dX10_riskierThan_85 : decode cX10_riskierThan 85 = .ok (.ireturn, 1) := by decide +kernel
