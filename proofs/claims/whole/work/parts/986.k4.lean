abbrev nX0_init : fr_M := (yX0_init, cX0_init, 2, none, 2, 43)
abbrev nX1_init : fr_M := (yX1_init, cX1_init, 2, none, 1, 23)
abbrev nX2_init : fr_M := (yX2_init, cX2_init, 1, none, 1, 12)
abbrev nX3_init : fr_M := (yX3_init, cX3_init, 2, none, 1, 12)
abbrev nX4_init : fr_M := (yX4_init, cX4_init, 1, none, 1, 12)
abbrev nX5_init : fr_M := (yX5_init, cX5_init, 1, none, 1, 12)
abbrev nX6_init : fr_M := (yX6_init, cX6_init, 1, none, 1, 12)
abbrev nX7_init : fr_M := (yX7_init, cX7_init, 7, none, 1, 23)
abbrev nX8_init : fr_M := (yX8_init, cX8_init, 4, none, 1, 23)
abbrev nX10_init : fr_M := (yX10_init, cX10_init, 1, none, 3, 64)
abbrev nX11_init : fr_M := (yX11_init, cX11_init, 2, none, 1, 21)
theorem ok_X0_init : MOK nX0_init 0 := ⟨gt_mem (tb1 _ (List.mem_of_getElem? (i := 96) (by decide +kernel))) rfl, gt_mem (tb1 _ (List.mem_of_getElem? (i := 3) (by decide +kernel))) rfl, by decide +kernel⟩
theorem iv_X0_init : Cond.instanceMethod yX0_init ∈ gt := gt_mem (tb1 _ (List.mem_of_getElem? (i := 95) (by decide +kernel))) rfl
theorem oi_X0_init : Cond.methodLink RX0 3 Lib.objectInit ∈ gt := gt_mem (tb1 _ (List.mem_of_getElem? (i := 97) (by decide +kernel))) rfl
theorem ok_X1_init : MOK nX1_init 1 := ⟨gt_mem (tb1 _ (List.mem_of_getElem? (i := 189) (by decide +kernel))) rfl, gt_mem (tb1 _ (List.mem_of_getElem? (i := 7) (by decide +kernel))) rfl, by decide +kernel⟩
theorem iv_X1_init : Cond.instanceMethod yX1_init ∈ gt := gt_mem (tb1 _ (List.mem_of_getElem? (i := 188) (by decide +kernel))) rfl
theorem oi_X1_init : Cond.methodLink RX1 3 Lib.objectInit ∈ gt := gt_mem (tb1 _ (List.mem_of_getElem? (i := 190) (by decide +kernel))) rfl
theorem ok_X2_init : MOK nX2_init 0 := ⟨gt_mem (tb2 _ (List.mem_of_getElem? (i := 70) (by decide +kernel))) rfl, gt_mem (tb1 _ (List.mem_of_getElem? (i := 10) (by decide +kernel))) rfl, by decide +kernel⟩
theorem iv_X2_init : Cond.instanceMethod yX2_init ∈ gt := gt_mem (tb2 _ (List.mem_of_getElem? (i := 69) (by decide +kernel))) rfl
theorem oi_X2_init : Cond.methodLink RX2 3 Lib.objectInit ∈ gt := gt_mem (tb2 _ (List.mem_of_getElem? (i := 71) (by decide +kernel))) rfl
theorem ok_X3_init : MOK nX3_init 1 := ⟨gt_mem (tb1 _ (List.mem_of_getElem? (i := 232) (by decide +kernel))) rfl, gt_mem (tb1 _ (List.mem_of_getElem? (i := 8) (by decide +kernel))) rfl, by decide +kernel⟩
theorem iv_X3_init : Cond.instanceMethod yX3_init ∈ gt := gt_mem (tb1 _ (List.mem_of_getElem? (i := 231) (by decide +kernel))) rfl
theorem oi_X3_init : Cond.methodLink RX3 3 Lib.objectInit ∈ gt := gt_mem (tb1 _ (List.mem_of_getElem? (i := 233) (by decide +kernel))) rfl
theorem ok_X4_init : MOK nX4_init 0 := ⟨gt_mem (tb1 _ (List.mem_of_getElem? (i := 105) (by decide +kernel))) rfl, gt_mem (tb1 _ (List.mem_of_getElem? (i := 4) (by decide +kernel))) rfl, by decide +kernel⟩
theorem iv_X4_init : Cond.instanceMethod yX4_init ∈ gt := gt_mem (tb1 _ (List.mem_of_getElem? (i := 104) (by decide +kernel))) rfl
theorem oi_X4_init : Cond.methodLink RX4 3 Lib.objectInit ∈ gt := gt_mem (tb1 _ (List.mem_of_getElem? (i := 106) (by decide +kernel))) rfl
theorem ok_X5_init : MOK nX5_init 0 := ⟨gt_mem (tb1 _ (List.mem_of_getElem? (i := 167) (by decide +kernel))) rfl, gt_mem (tb1 _ (List.mem_of_getElem? (i := 6) (by decide +kernel))) rfl, by decide +kernel⟩
theorem iv_X5_init : Cond.instanceMethod yX5_init ∈ gt := gt_mem (tb1 _ (List.mem_of_getElem? (i := 166) (by decide +kernel))) rfl
theorem oi_X5_init : Cond.methodLink RX5 3 Lib.objectInit ∈ gt := gt_mem (tb1 _ (List.mem_of_getElem? (i := 168) (by decide +kernel))) rfl
theorem ok_X6_init : MOK nX6_init 0 := ⟨gt_mem (tb1 _ (List.mem_of_getElem? (i := 37) (by decide +kernel))) rfl, gt_mem (tb1 _ (List.mem_of_getElem? (i := 2) (by decide +kernel))) rfl, by decide +kernel⟩
theorem iv_X6_init : Cond.instanceMethod yX6_init ∈ gt := gt_mem (tb1 _ (List.mem_of_getElem? (i := 36) (by decide +kernel))) rfl
theorem oi_X6_init : Cond.methodLink RX6 3 Lib.objectInit ∈ gt := gt_mem (tb1 _ (List.mem_of_getElem? (i := 38) (by decide +kernel))) rfl
theorem ok_X7_init : MOK nX7_init 6 := ⟨gt_mem (tb3 _ (List.mem_of_getElem? (i := 144) (by decide +kernel))) rfl, gt_mem (tb1 _ (List.mem_of_getElem? (i := 19) (by decide +kernel))) rfl, by decide +kernel⟩
theorem iv_X7_init : Cond.instanceMethod yX7_init ∈ gt := gt_mem (tb3 _ (List.mem_of_getElem? (i := 143) (by decide +kernel))) rfl
theorem oi_X7_init : Cond.methodLink RX7 3 Lib.objectInit ∈ gt := gt_mem (tb3 _ (List.mem_of_getElem? (i := 145) (by decide +kernel))) rfl
theorem ok_X8_init : MOK nX8_init 2 := ⟨gt_mem (tb2 _ (List.mem_of_getElem? (i := 36) (by decide +kernel))) rfl, gt_mem (tb1 _ (List.mem_of_getElem? (i := 9) (by decide +kernel))) rfl, by decide +kernel⟩
theorem iv_X8_init : Cond.instanceMethod yX8_init ∈ gt := gt_mem (tb2 _ (List.mem_of_getElem? (i := 35) (by decide +kernel))) rfl
theorem oi_X8_init : Cond.methodLink RX8 3 Lib.objectInit ∈ gt := gt_mem (tb2 _ (List.mem_of_getElem? (i := 37) (by decide +kernel))) rfl
theorem ok_X10_init : MOK nX10_init 0 := ⟨gt_mem (tb1 _ (List.mem_of_getElem? (i := 29) (by decide +kernel))) rfl, gt_mem (tb1 _ (List.mem_of_getElem? (i := 1) (by decide +kernel))) rfl, by decide +kernel⟩
theorem iv_X10_init : Cond.instanceMethod yX10_init ∈ gt := gt_mem (tb1 _ (List.mem_of_getElem? (i := 28) (by decide +kernel))) rfl
theorem oi_X10_init : Cond.methodLink RX10 1 Lib.objectInit ∈ gt := gt_mem (tb1 _ (List.mem_of_getElem? (i := 30) (by decide +kernel))) rfl
theorem ok_X11_init : MOK nX11_init 0 := ⟨gt_mem (tb5 _ (List.mem_of_getElem? (i := 103) rfl)) rfl, gt_mem (tb1 _ (List.mem_of_getElem? (i := 11) (by decide +kernel))) rfl, by decide +kernel⟩
theorem iv_X11_init : Cond.instanceMethod yX11_init ∈ gt := gt_mem (tb5 _ (List.mem_of_getElem? (i := 102) (by decide +kernel))) rfl
theorem oi_X11_init : Cond.methodLink RX11 1 Lib.objectInit ∈ gt := gt_mem (tb5 _ (List.mem_of_getElem? (i := 104) (by decide +kernel))) rfl
theorem oi_i : Cond.instanceMethod Lib.objectInit ∈ gt := gt_mem (tb1 _ (List.mem_of_getElem? (i := 31) (by decide +kernel))) rfl
theorem oi_c : Cond.code Lib.objectInit ⟨#[0xb1]⟩ 1 none ∈ gt := gt_mem (tb1 _ (List.mem_of_getElem? (i := 32) (by decide +kernel))) rfl
theorem aw_int : Cond.arrayClass .int ∈ gt := gt_mem (tb1 _ (List.mem_of_getElem? (i := 91) (by decide +kernel))) rfl
theorem aw_boolean : Cond.arrayClass .boolean ∈ gt := gt_mem (tb1 _ (List.mem_of_getElem? (i := 227) (by decide +kernel))) rfl
theorem aw_long : Cond.arrayClass .long ∈ gt := gt_mem (tb2 _ (List.mem_of_getElem? (i := 139) (by decide +kernel))) rfl
theorem kl_X10_7 : Cond.classLink RX10 7 RX6 ∈ gt := gt_mem (tb1 _ (List.mem_of_getElem? (i := 33) (by decide +kernel))) rfl
theorem kl_X10_16 : Cond.classLink RX10 16 RX0 ∈ gt := gt_mem (tb1 _ (List.mem_of_getElem? (i := 92) (by decide +kernel))) rfl
theorem kl_X0_9 : Cond.classLink RX0 9 RX4 ∈ gt := gt_mem (tb1 _ (List.mem_of_getElem? (i := 98) (by decide +kernel))) rfl
theorem kl_X10_26 : Cond.classLink RX10 26 RX5 ∈ gt := gt_mem (tb1 _ (List.mem_of_getElem? (i := 163) (by decide +kernel))) rfl
theorem kl_X10_33 : Cond.classLink RX10 33 RX1 ∈ gt := gt_mem (tb1 _ (List.mem_of_getElem? (i := 185) (by decide +kernel))) rfl
theorem kl_X10_42 : Cond.classLink RX10 42 RX3 ∈ gt := gt_mem (tb1 _ (List.mem_of_getElem? (i := 228) (by decide +kernel))) rfl
theorem kl_X3_9 : Cond.classLink RX3 9 RX7 ∈ gt := gt_mem (tb1 _ (List.mem_of_getElem? (i := 234) (by decide +kernel))) rfl
theorem kl_X10_51 : Cond.classLink RX10 51 RX8 ∈ gt := gt_mem (tb2 _ (List.mem_of_getElem? (i := 32) (by decide +kernel))) rfl
theorem kl_X10_60 : Cond.classLink RX10 60 RX2 ∈ gt := gt_mem (tb2 _ (List.mem_of_getElem? (i := 66) (by decide +kernel))) rfl
theorem kl_X10_123 : Cond.classLink RX10 123 RX7 ∈ gt := gt_mem (tb3 _ (List.mem_of_getElem? (i := 140) (by decide +kernel))) rfl
theorem kn_X0 : Cond.instantiable RX0 3 ∈ gt := gt_mem (tb1 _ (List.mem_of_getElem? (i := 93) (by decide +kernel))) rfl
theorem kz_X0 : Cond.initialized RX0 ∈ gt := gt_mem (tb1 _ (List.mem_of_getElem? (i := 3) (by decide +kernel))) rfl
theorem kn_X1 : Cond.instantiable RX1 10 ∈ gt := gt_mem (tb1 _ (List.mem_of_getElem? (i := 186) (by decide +kernel))) rfl
theorem kz_X1 : Cond.initialized RX1 ∈ gt := gt_mem (tb1 _ (List.mem_of_getElem? (i := 7) (by decide +kernel))) rfl
theorem kn_X2 : Cond.instantiable RX2 11 ∈ gt := gt_mem (tb2 _ (List.mem_of_getElem? (i := 67) (by decide +kernel))) rfl
theorem kz_X2 : Cond.initialized RX2 ∈ gt := gt_mem (tb1 _ (List.mem_of_getElem? (i := 10) (by decide +kernel))) rfl
theorem kn_X3 : Cond.instantiable RX3 11 ∈ gt := gt_mem (tb1 _ (List.mem_of_getElem? (i := 229) (by decide +kernel))) rfl
theorem kz_X3 : Cond.initialized RX3 ∈ gt := gt_mem (tb1 _ (List.mem_of_getElem? (i := 8) (by decide +kernel))) rfl
theorem kn_X4 : Cond.instantiable RX4 8 ∈ gt := gt_mem (tb1 _ (List.mem_of_getElem? (i := 102) (by decide +kernel))) rfl
theorem kz_X4 : Cond.initialized RX4 ∈ gt := gt_mem (tb1 _ (List.mem_of_getElem? (i := 4) (by decide +kernel))) rfl
theorem kn_X5 : Cond.instantiable RX5 3 ∈ gt := gt_mem (tb1 _ (List.mem_of_getElem? (i := 164) (by decide +kernel))) rfl
theorem kz_X5 : Cond.initialized RX5 ∈ gt := gt_mem (tb1 _ (List.mem_of_getElem? (i := 6) (by decide +kernel))) rfl
theorem kn_X6 : Cond.instantiable RX6 16 ∈ gt := gt_mem (tb1 _ (List.mem_of_getElem? (i := 34) (by decide +kernel))) rfl
theorem kz_X6 : Cond.initialized RX6 ∈ gt := gt_mem (tb1 _ (List.mem_of_getElem? (i := 2) (by decide +kernel))) rfl
theorem kn_X7 : Cond.instantiable RX7 7 ∈ gt := gt_mem (tb3 _ (List.mem_of_getElem? (i := 141) (by decide +kernel))) rfl
theorem kz_X7 : Cond.initialized RX7 ∈ gt := gt_mem (tb1 _ (List.mem_of_getElem? (i := 19) (by decide +kernel))) rfl
theorem kn_X8 : Cond.instantiable RX8 7 ∈ gt := gt_mem (tb2 _ (List.mem_of_getElem? (i := 33) (by decide +kernel))) rfl
theorem kz_X8 : Cond.initialized RX8 ∈ gt := gt_mem (tb1 _ (List.mem_of_getElem? (i := 9) (by decide +kernel))) rfl
theorem dX0_init_0 : decode cX0_init 0 = .ok (.aload_n 0, 1) := by decide +kernel
theorem dX0_init_1 : decode cX0_init 1 = .ok (.invokespecial 3, 3) := by decide +kernel
theorem dX0_init_4 : decode cX0_init 4 = .ok (.aload_n 0, 1) := by decide +kernel
theorem dX0_init_5 : decode cX0_init 5 = .ok (.bipush 24, 2) := by decide +kernel
theorem dX0_init_7 : decode cX0_init 7 = .ok (.anewarray 9, 3) := by decide +kernel
theorem dX0_init_10 : decode cX0_init 10 = .ok (.putfield 11, 3) := by decide +kernel
theorem dX0_init_13 : decode cX0_init 13 = .ok (.aload_n 0, 1) := by decide +kernel
theorem dX0_init_14 : decode cX0_init 14 = .ok (.getstatic 17, 3) := by decide +kernel
theorem dX0_init_17 : decode cX0_init 17 = .ok (.arraylength, 1) := by decide +kernel
theorem dX0_init_18 : decode cX0_init 18 = .ok (.newarray .int, 2) := by decide +kernel
theorem dX0_init_20 : decode cX0_init 20 = .ok (.putfield 21, 3) := by decide +kernel
theorem dX0_init_23 : decode cX0_init 23 = .ok (.iconst 0, 1) := by decide +kernel
theorem dX0_init_24 : decode cX0_init 24 = .ok (.istore_n 1, 1) := by decide +kernel
theorem dX0_init_25 : decode cX0_init 25 = .ok (.iload_n 1, 1) := by decide +kernel
theorem dX0_init_26 : decode cX0_init 26 = .ok (.bipush 24, 2) := by decide +kernel
theorem dX0_init_28 : decode cX0_init 28 = .ok (.if_icmp .ge 22, 3) := by decide +kernel
theorem dX0_init_31 : decode cX0_init 31 = .ok (.aload_n 0, 1) := by decide +kernel
theorem dX0_init_32 : decode cX0_init 32 = .ok (.getfield 11, 3) := by decide +kernel
theorem dX0_init_35 : decode cX0_init 35 = .ok (.iload_n 1, 1) := by decide +kernel
theorem dX0_init_36 : decode cX0_init 36 = .ok (.new 9, 3) := by decide +kernel
theorem dX0_init_39 : decode cX0_init 39 = .ok (.dup, 1) := by decide +kernel
theorem dX0_init_40 : decode cX0_init 40 = .ok (.invokespecial 24, 3) := by decide +kernel
theorem dX0_init_43 : decode cX0_init 43 = .ok (.aastore, 1) := by decide +kernel
theorem dX0_init_44 : decode cX0_init 44 = .ok (.iinc 1 1, 3) := by decide +kernel
theorem dX0_init_47 : decode cX0_init 47 = .ok (.goto (-22), 3) := by decide +kernel
theorem dX0_init_50 : decode cX0_init 50 = .ok (.aload_n 0, 1) := by decide +kernel
theorem dX0_init_51 : decode cX0_init 51 = .ok (.invokevirtual 25, 3) := by decide +kernel
theorem dX0_init_54 : decode cX0_init 54 = .ok (.return_, 1) := by decide +kernel
theorem dX1_init_0 : decode cX1_init 0 = .ok (.aload_n 0, 1) := by decide +kernel
theorem dX1_init_1 : decode cX1_init 1 = .ok (.invokespecial 3, 3) := by decide +kernel
theorem dX1_init_4 : decode cX1_init 4 = .ok (.aload_n 0, 1) := by decide +kernel
theorem dX1_init_5 : decode cX1_init 5 = .ok (.bipush 60, 2) := by decide +kernel
theorem dX1_init_7 : decode cX1_init 7 = .ok (.newarray .int, 2) := by decide +kernel
theorem dX1_init_9 : decode cX1_init 9 = .ok (.putfield 9, 3) := by decide +kernel
theorem dX1_init_12 : decode cX1_init 12 = .ok (.aload_n 0, 1) := by decide +kernel
theorem dX1_init_13 : decode cX1_init 13 = .ok (.bipush 60, 2) := by decide +kernel
theorem dX1_init_15 : decode cX1_init 15 = .ok (.newarray .int, 2) := by decide +kernel
theorem dX1_init_17 : decode cX1_init 17 = .ok (.putfield 15, 3) := by decide +kernel
theorem dX1_init_20 : decode cX1_init 20 = .ok (.aload_n 0, 1) := by decide +kernel
theorem dX1_init_21 : decode cX1_init 21 = .ok (.bipush 60, 2) := by decide +kernel
theorem dX1_init_23 : decode cX1_init 23 = .ok (.newarray .int, 2) := by decide +kernel
theorem dX1_init_25 : decode cX1_init 25 = .ok (.putfield 18, 3) := by decide +kernel
theorem dX1_init_28 : decode cX1_init 28 = .ok (.aload_n 0, 1) := by decide +kernel
theorem dX1_init_29 : decode cX1_init 29 = .ok (.bipush 60, 2) := by decide +kernel
theorem dX1_init_31 : decode cX1_init 31 = .ok (.newarray .int, 2) := by decide +kernel
theorem dX1_init_33 : decode cX1_init 33 = .ok (.putfield 21, 3) := by decide +kernel
theorem dX1_init_36 : decode cX1_init 36 = .ok (.aload_n 0, 1) := by decide +kernel
theorem dX1_init_37 : decode cX1_init 37 = .ok (.iconst (-1), 1) := by decide +kernel
theorem dX1_init_38 : decode cX1_init 38 = .ok (.putfield 24, 3) := by decide +kernel
theorem dX1_init_41 : decode cX1_init 41 = .ok (.aload_n 0, 1) := by decide +kernel
theorem dX1_init_42 : decode cX1_init 42 = .ok (.bipush 60, 2) := by decide +kernel
theorem dX1_init_44 : decode cX1_init 44 = .ok (.newarray .boolean, 2) := by decide +kernel
theorem dX1_init_46 : decode cX1_init 46 = .ok (.putfield 28, 3) := by decide +kernel
theorem dX1_init_49 : decode cX1_init 49 = .ok (.aload_n 0, 1) := by decide +kernel
theorem dX1_init_50 : decode cX1_init 50 = .ok (.bipush 60, 2) := by decide +kernel
theorem dX1_init_52 : decode cX1_init 52 = .ok (.newarray .boolean, 2) := by decide +kernel
theorem dX1_init_54 : decode cX1_init 54 = .ok (.putfield 32, 3) := by decide +kernel
theorem dX1_init_57 : decode cX1_init 57 = .ok (.aload_n 0, 1) := by decide +kernel
theorem dX1_init_58 : decode cX1_init 58 = .ok (.bipush 12, 2) := by decide +kernel
theorem dX1_init_60 : decode cX1_init 60 = .ok (.newarray .int, 2) := by decide +kernel
theorem dX1_init_62 : decode cX1_init 62 = .ok (.putfield 35, 3) := by decide +kernel
theorem dX1_init_65 : decode cX1_init 65 = .ok (.aload_n 0, 1) := by decide +kernel
theorem dX1_init_66 : decode cX1_init 66 = .ok (.aload_n 1, 1) := by decide +kernel
theorem dX1_init_67 : decode cX1_init 67 = .ok (.putfield 38, 3) := by decide +kernel
theorem dX1_init_70 : decode cX1_init 70 = .ok (.aload_n 0, 1) := by decide +kernel
theorem dX1_init_71 : decode cX1_init 71 = .ok (.getfield 35, 3) := by decide +kernel
theorem dX1_init_74 : decode cX1_init 74 = .ok (.iconst (-1), 1) := by decide +kernel
theorem dX1_init_75 : decode cX1_init 75 = .ok (.invokestatic 42, 3) := by decide +kernel
theorem dX1_init_78 : decode cX1_init 78 = .ok (.return_, 1) := by decide +kernel
theorem dX2_init_0 : decode cX2_init 0 = .ok (.aload_n 0, 1) := by decide +kernel
theorem dX2_init_1 : decode cX2_init 1 = .ok (.invokespecial 3, 3) := by decide +kernel
theorem dX2_init_4 : decode cX2_init 4 = .ok (.aload_n 0, 1) := by decide +kernel
theorem dX2_init_5 : decode cX2_init 5 = .ok (.bipush 12, 2) := by decide +kernel
theorem dX2_init_7 : decode cX2_init 7 = .ok (.newarray .int, 2) := by decide +kernel
theorem dX2_init_9 : decode cX2_init 9 = .ok (.putfield 9, 3) := by decide +kernel
theorem dX2_init_12 : decode cX2_init 12 = .ok (.aload_n 0, 1) := by decide +kernel
theorem dX2_init_13 : decode cX2_init 13 = .ok (.bipush 12, 2) := by decide +kernel
theorem dX2_init_15 : decode cX2_init 15 = .ok (.newarray .int, 2) := by decide +kernel
theorem dX2_init_17 : decode cX2_init 17 = .ok (.putfield 15, 3) := by decide +kernel
theorem dX2_init_20 : decode cX2_init 20 = .ok (.aload_n 0, 1) := by decide +kernel
theorem dX2_init_21 : decode cX2_init 21 = .ok (.bipush 12, 2) := by decide +kernel
theorem dX2_init_23 : decode cX2_init 23 = .ok (.newarray .int, 2) := by decide +kernel
theorem dX2_init_25 : decode cX2_init 25 = .ok (.putfield 18, 3) := by decide +kernel
theorem dX2_init_28 : decode cX2_init 28 = .ok (.aload_n 0, 1) := by decide +kernel
theorem dX2_init_29 : decode cX2_init 29 = .ok (.bipush 12, 2) := by decide +kernel
theorem dX2_init_31 : decode cX2_init 31 = .ok (.newarray .int, 2) := by decide +kernel
theorem dX2_init_33 : decode cX2_init 33 = .ok (.putfield 21, 3) := by decide +kernel
theorem dX2_init_36 : decode cX2_init 36 = .ok (.aload_n 0, 1) := by decide +kernel
theorem dX2_init_37 : decode cX2_init 37 = .ok (.bipush 12, 2) := by decide +kernel
theorem dX2_init_39 : decode cX2_init 39 = .ok (.newarray .int, 2) := by decide +kernel
theorem dX2_init_41 : decode cX2_init 41 = .ok (.putfield 24, 3) := by decide +kernel
theorem dX2_init_44 : decode cX2_init 44 = .ok (.return_, 1) := by decide +kernel
theorem dX3_init_0 : decode cX3_init 0 = .ok (.aload_n 0, 1) := by decide +kernel
theorem dX3_init_1 : decode cX3_init 1 = .ok (.invokespecial 3, 3) := by decide +kernel
theorem dX3_init_4 : decode cX3_init 4 = .ok (.aload_n 0, 1) := by decide +kernel
theorem dX3_init_5 : decode cX3_init 5 = .ok (.bipush 16, 2) := by decide +kernel
theorem dX3_init_7 : decode cX3_init 7 = .ok (.anewarray 9, 3) := by decide +kernel
theorem dX3_init_10 : decode cX3_init 10 = .ok (.putfield 11, 3) := by decide +kernel
theorem dX3_init_13 : decode cX3_init 13 = .ok (.aload_n 0, 1) := by decide +kernel
theorem dX3_init_14 : decode cX3_init 14 = .ok (.bipush 40, 2) := by decide +kernel
theorem dX3_init_16 : decode cX3_init 16 = .ok (.newarray .int, 2) := by decide +kernel
theorem dX3_init_18 : decode cX3_init 18 = .ok (.putfield 17, 3) := by decide +kernel
theorem dX3_init_21 : decode cX3_init 21 = .ok (.aload_n 0, 1) := by decide +kernel
theorem dX3_init_22 : decode cX3_init 22 = .ok (.bipush 40, 2) := by decide +kernel
theorem dX3_init_24 : decode cX3_init 24 = .ok (.newarray .int, 2) := by decide +kernel
theorem dX3_init_26 : decode cX3_init 26 = .ok (.putfield 21, 3) := by decide +kernel
theorem dX3_init_29 : decode cX3_init 29 = .ok (.aload_n 0, 1) := by decide +kernel
theorem dX3_init_30 : decode cX3_init 30 = .ok (.bipush 40, 2) := by decide +kernel
theorem dX3_init_32 : decode cX3_init 32 = .ok (.newarray .int, 2) := by decide +kernel
theorem dX3_init_34 : decode cX3_init 34 = .ok (.putfield 24, 3) := by decide +kernel
theorem dX3_init_37 : decode cX3_init 37 = .ok (.aload_n 0, 1) := by decide +kernel
theorem dX3_init_38 : decode cX3_init 38 = .ok (.bipush 40, 2) := by decide +kernel
theorem dX3_init_40 : decode cX3_init 40 = .ok (.newarray .int, 2) := by decide +kernel
theorem dX3_init_42 : decode cX3_init 42 = .ok (.putfield 27, 3) := by decide +kernel
theorem dX3_init_45 : decode cX3_init 45 = .ok (.aload_n 0, 1) := by decide +kernel
theorem dX3_init_46 : decode cX3_init 46 = .ok (.bipush 40, 2) := by decide +kernel
theorem dX3_init_48 : decode cX3_init 48 = .ok (.newarray .int, 2) := by decide +kernel
theorem dX3_init_50 : decode cX3_init 50 = .ok (.putfield 30, 3) := by decide +kernel
theorem dX3_init_53 : decode cX3_init 53 = .ok (.aload_n 0, 1) := by decide +kernel
theorem dX3_init_54 : decode cX3_init 54 = .ok (.bipush 8, 2) := by decide +kernel
theorem dX3_init_56 : decode cX3_init 56 = .ok (.newarray .int, 2) := by decide +kernel
theorem dX3_init_58 : decode cX3_init 58 = .ok (.putfield 33, 3) := by decide +kernel
theorem dX3_init_61 : decode cX3_init 61 = .ok (.aload_n 0, 1) := by decide +kernel
theorem dX3_init_62 : decode cX3_init 62 = .ok (.aload_n 1, 1) := by decide +kernel
theorem dX3_init_63 : decode cX3_init 63 = .ok (.putfield 36, 3) := by decide +kernel
theorem dX3_init_66 : decode cX3_init 66 = .ok (.return_, 1) := by decide +kernel
theorem dX4_init_0 : decode cX4_init 0 = .ok (.aload_n 0, 1) := by decide +kernel
theorem dX4_init_1 : decode cX4_init 1 = .ok (.invokespecial 3, 3) := by decide +kernel
theorem dX4_init_4 : decode cX4_init 4 = .ok (.return_, 1) := by decide +kernel
theorem dX5_init_0 : decode cX5_init 0 = .ok (.aload_n 0, 1) := by decide +kernel
theorem dX5_init_1 : decode cX5_init 1 = .ok (.invokespecial 3, 3) := by decide +kernel
theorem dX5_init_4 : decode cX5_init 4 = .ok (.aload_n 0, 1) := by decide +kernel
theorem dX5_init_5 : decode cX5_init 5 = .ok (.bipush 12, 2) := by decide +kernel
theorem dX5_init_7 : decode cX5_init 7 = .ok (.newarray .int, 2) := by decide +kernel
theorem dX5_init_9 : decode cX5_init 9 = .ok (.putfield 9, 3) := by decide +kernel
theorem dX5_init_12 : decode cX5_init 12 = .ok (.aload_n 0, 1) := by decide +kernel
theorem dX5_init_13 : decode cX5_init 13 = .ok (.bipush 12, 2) := by decide +kernel
theorem dX5_init_15 : decode cX5_init 15 = .ok (.newarray .int, 2) := by decide +kernel
theorem dX5_init_17 : decode cX5_init 17 = .ok (.putfield 15, 3) := by decide +kernel
theorem dX5_init_20 : decode cX5_init 20 = .ok (.return_, 1) := by decide +kernel
theorem dX6_init_0 : decode cX6_init 0 = .ok (.aload_n 0, 1) := by decide +kernel
theorem dX6_init_1 : decode cX6_init 1 = .ok (.invokespecial 3, 3) := by decide +kernel
theorem dX6_init_4 : decode cX6_init 4 = .ok (.aload_n 0, 1) := by decide +kernel
theorem dX6_init_5 : decode cX6_init 5 = .ok (.sipush 500, 3) := by decide +kernel
theorem dX6_init_8 : decode cX6_init 8 = .ok (.newarray .int, 2) := by decide +kernel
theorem dX6_init_10 : decode cX6_init 10 = .ok (.putfield 9, 3) := by decide +kernel
theorem dX6_init_13 : decode cX6_init 13 = .ok (.aload_n 0, 1) := by decide +kernel
theorem dX6_init_14 : decode cX6_init 14 = .ok (.iconst (-1), 1) := by decide +kernel
theorem dX6_init_15 : decode cX6_init 15 = .ok (.putfield 15, 3) := by decide +kernel
theorem dX6_init_18 : decode cX6_init 18 = .ok (.return_, 1) := by decide +kernel
theorem dX7_init_0 : decode cX7_init 0 = .ok (.aload_n 0, 1) := by decide +kernel
theorem dX7_init_1 : decode cX7_init 1 = .ok (.invokespecial 3, 3) := by decide +kernel
theorem dX7_init_4 : decode cX7_init 4 = .ok (.aload_n 0, 1) := by decide +kernel
theorem dX7_init_5 : decode cX7_init 5 = .ok (.bipush 80, 2) := by decide +kernel
theorem dX7_init_7 : decode cX7_init 7 = .ok (.newarray .int, 2) := by decide +kernel
theorem dX7_init_9 : decode cX7_init 9 = .ok (.putfield 9, 3) := by decide +kernel
theorem dX7_init_12 : decode cX7_init 12 = .ok (.aload_n 0, 1) := by decide +kernel
theorem dX7_init_13 : decode cX7_init 13 = .ok (.iload_n 1, 1) := by decide +kernel
theorem dX7_init_14 : decode cX7_init 14 = .ok (.putfield 15, 3) := by decide +kernel
theorem dX7_init_17 : decode cX7_init 17 = .ok (.aload_n 0, 1) := by decide +kernel
theorem dX7_init_18 : decode cX7_init 18 = .ok (.iload_n 2, 1) := by decide +kernel
theorem dX7_init_19 : decode cX7_init 19 = .ok (.putfield 19, 3) := by decide +kernel
theorem dX7_init_22 : decode cX7_init 22 = .ok (.aload_n 0, 1) := by decide +kernel
theorem dX7_init_23 : decode cX7_init 23 = .ok (.iload_n 3, 1) := by decide +kernel
theorem dX7_init_24 : decode cX7_init 24 = .ok (.putfield 22, 3) := by decide +kernel
theorem dX7_init_27 : decode cX7_init 27 = .ok (.aload_n 0, 1) := by decide +kernel
theorem dX7_init_28 : decode cX7_init 28 = .ok (.iload 4, 2) := by decide +kernel
theorem dX7_init_30 : decode cX7_init 30 = .ok (.putfield 25, 3) := by decide +kernel
theorem dX7_init_33 : decode cX7_init 33 = .ok (.aload_n 0, 1) := by decide +kernel
theorem dX7_init_34 : decode cX7_init 34 = .ok (.iload 5, 2) := by decide +kernel
theorem dX7_init_36 : decode cX7_init 36 = .ok (.putfield 28, 3) := by decide +kernel
theorem dX7_init_39 : decode cX7_init 39 = .ok (.aload_n 0, 1) := by decide +kernel
theorem dX7_init_40 : decode cX7_init 40 = .ok (.iload 6, 2) := by decide +kernel
theorem dX7_init_42 : decode cX7_init 42 = .ok (.putfield 31, 3) := by decide +kernel
theorem dX7_init_45 : decode cX7_init 45 = .ok (.aload_n 0, 1) := by decide +kernel
theorem dX7_init_46 : decode cX7_init 46 = .ok (.getfield 9, 3) := by decide +kernel
theorem dX7_init_49 : decode cX7_init 49 = .ok (.iconst (-1), 1) := by decide +kernel
theorem dX7_init_50 : decode cX7_init 50 = .ok (.invokestatic 34, 3) := by decide +kernel
theorem dX7_init_53 : decode cX7_init 53 = .ok (.return_, 1) := by decide +kernel
theorem dX8_init_0 : decode cX8_init 0 = .ok (.aload_n 0, 1) := by decide +kernel
theorem dX8_init_1 : decode cX8_init 1 = .ok (.invokespecial 3, 3) := by decide +kernel
theorem dX8_init_4 : decode cX8_init 4 = .ok (.aload_n 0, 1) := by decide +kernel
theorem dX8_init_5 : decode cX8_init 5 = .ok (.iconst 4, 1) := by decide +kernel
theorem dX8_init_6 : decode cX8_init 6 = .ok (.bipush 10, 2) := by decide +kernel
theorem dX8_init_8 : decode cX8_init 8 = .ok (.multianewarray 9 2, 4) := by decide +kernel
theorem dX8_init_12 : decode cX8_init 12 = .ok (.putfield 11, 3) := by decide +kernel
theorem dX8_init_15 : decode cX8_init 15 = .ok (.aload_n 0, 1) := by decide +kernel
theorem dX8_init_16 : decode cX8_init 16 = .ok (.bipush 10, 2) := by decide +kernel
theorem dX8_init_18 : decode cX8_init 18 = .ok (.newarray .int, 2) := by decide +kernel
theorem dX8_init_20 : decode cX8_init 20 = .ok (.putfield 16, 3) := by decide +kernel
theorem dX8_init_23 : decode cX8_init 23 = .ok (.aload_n 0, 1) := by decide +kernel
theorem dX8_init_24 : decode cX8_init 24 = .ok (.bipush 10, 2) := by decide +kernel
theorem dX8_init_26 : decode cX8_init 26 = .ok (.newarray .int, 2) := by decide +kernel
theorem dX8_init_28 : decode cX8_init 28 = .ok (.putfield 20, 3) := by decide +kernel
theorem dX8_init_31 : decode cX8_init 31 = .ok (.aload_n 0, 1) := by decide +kernel
theorem dX8_init_32 : decode cX8_init 32 = .ok (.aload_n 1, 1) := by decide +kernel
theorem dX8_init_33 : decode cX8_init 33 = .ok (.putfield 23, 3) := by decide +kernel
theorem dX8_init_36 : decode cX8_init 36 = .ok (.aload_n 0, 1) := by decide +kernel
theorem dX8_init_37 : decode cX8_init 37 = .ok (.aload_n 2, 1) := by decide +kernel
theorem dX8_init_38 : decode cX8_init 38 = .ok (.putfield 27, 3) := by decide +kernel
theorem dX8_init_41 : decode cX8_init 41 = .ok (.iconst 0, 1) := by decide +kernel
theorem dX8_init_42 : decode cX8_init 42 = .ok (.istore_n 3, 1) := by decide +kernel
theorem dX8_init_43 : decode cX8_init 43 = .ok (.iload_n 3, 1) := by decide +kernel
theorem dX8_init_44 : decode cX8_init 44 = .ok (.iconst 4, 1) := by decide +kernel
theorem dX8_init_45 : decode cX8_init 45 = .ok (.if_icmp .ge 21, 3) := by decide +kernel
theorem dX8_init_48 : decode cX8_init 48 = .ok (.aload_n 0, 1) := by decide +kernel
theorem dX8_init_49 : decode cX8_init 49 = .ok (.getfield 11, 3) := by decide +kernel
theorem dX8_init_52 : decode cX8_init 52 = .ok (.iload_n 3, 1) := by decide +kernel
theorem dX8_init_53 : decode cX8_init 53 = .ok (.aaload, 1) := by decide +kernel
theorem dX8_init_54 : decode cX8_init 54 = .ok (.sipush 900, 3) := by decide +kernel
theorem dX8_init_57 : decode cX8_init 57 = .ok (.invokestatic 31, 3) := by decide +kernel
theorem dX8_init_60 : decode cX8_init 60 = .ok (.iinc 3 1, 3) := by decide +kernel
theorem dX8_init_63 : decode cX8_init 63 = .ok (.goto (-20), 3) := by decide +kernel
theorem dX8_init_66 : decode cX8_init 66 = .ok (.return_, 1) := by decide +kernel
theorem dX10_init_0 : decode cX10_init 0 = .ok (.aload_n 0, 1) := by decide +kernel
theorem dX10_init_1 : decode cX10_init 1 = .ok (.invokespecial 1, 3) := by decide +kernel
theorem dX10_init_4 : decode cX10_init 4 = .ok (.aload_n 0, 1) := by decide +kernel
theorem dX10_init_5 : decode cX10_init 5 = .ok (.new 7, 3) := by decide +kernel
theorem dX10_init_8 : decode cX10_init 8 = .ok (.dup, 1) := by decide +kernel
theorem dX10_init_9 : decode cX10_init 9 = .ok (.invokespecial 9, 3) := by decide +kernel
theorem dX10_init_12 : decode cX10_init 12 = .ok (.putfield 10, 3) := by decide +kernel
theorem dX10_init_15 : decode cX10_init 15 = .ok (.aload_n 0, 1) := by decide +kernel
theorem dX10_init_16 : decode cX10_init 16 = .ok (.new 16, 3) := by decide +kernel
theorem dX10_init_19 : decode cX10_init 19 = .ok (.dup, 1) := by decide +kernel
theorem dX10_init_20 : decode cX10_init 20 = .ok (.invokespecial 18, 3) := by decide +kernel
theorem dX10_init_23 : decode cX10_init 23 = .ok (.putfield 19, 3) := by decide +kernel
theorem dX10_init_26 : decode cX10_init 26 = .ok (.aload_n 0, 1) := by decide +kernel
theorem dX10_init_27 : decode cX10_init 27 = .ok (.new 16, 3) := by decide +kernel
theorem dX10_init_30 : decode cX10_init 30 = .ok (.dup, 1) := by decide +kernel
theorem dX10_init_31 : decode cX10_init 31 = .ok (.invokespecial 18, 3) := by decide +kernel
theorem dX10_init_34 : decode cX10_init 34 = .ok (.putfield 23, 3) := by decide +kernel
theorem dX10_init_37 : decode cX10_init 37 = .ok (.aload_n 0, 1) := by decide +kernel
theorem dX10_init_38 : decode cX10_init 38 = .ok (.new 26, 3) := by decide +kernel
theorem dX10_init_41 : decode cX10_init 41 = .ok (.dup, 1) := by decide +kernel
theorem dX10_init_42 : decode cX10_init 42 = .ok (.invokespecial 28, 3) := by decide +kernel
theorem dX10_init_45 : decode cX10_init 45 = .ok (.putfield 29, 3) := by decide +kernel
theorem dX10_init_48 : decode cX10_init 48 = .ok (.aload_n 0, 1) := by decide +kernel
theorem dX10_init_49 : decode cX10_init 49 = .ok (.new 33, 3) := by decide +kernel
theorem dX10_init_52 : decode cX10_init 52 = .ok (.dup, 1) := by decide +kernel
theorem dX10_init_53 : decode cX10_init 53 = .ok (.aload_n 0, 1) := by decide +kernel
theorem dX10_init_54 : decode cX10_init 54 = .ok (.getfield 29, 3) := by decide +kernel
theorem dX10_init_57 : decode cX10_init 57 = .ok (.invokespecial 35, 3) := by decide +kernel
theorem dX10_init_60 : decode cX10_init 60 = .ok (.putfield 38, 3) := by decide +kernel
theorem dX10_init_63 : decode cX10_init 63 = .ok (.aload_n 0, 1) := by decide +kernel
theorem dX10_init_64 : decode cX10_init 64 = .ok (.new 42, 3) := by decide +kernel
theorem dX10_init_67 : decode cX10_init 67 = .ok (.dup, 1) := by decide +kernel
theorem dX10_init_68 : decode cX10_init 68 = .ok (.aload_n 0, 1) := by decide +kernel
theorem dX10_init_69 : decode cX10_init 69 = .ok (.getfield 38, 3) := by decide +kernel
theorem dX10_init_72 : decode cX10_init 72 = .ok (.invokespecial 44, 3) := by decide +kernel
theorem dX10_init_75 : decode cX10_init 75 = .ok (.putfield 47, 3) := by decide +kernel
theorem dX10_init_78 : decode cX10_init 78 = .ok (.aload_n 0, 1) := by decide +kernel
theorem dX10_init_79 : decode cX10_init 79 = .ok (.new 51, 3) := by decide +kernel
theorem dX10_init_82 : decode cX10_init 82 = .ok (.dup, 1) := by decide +kernel
theorem dX10_init_83 : decode cX10_init 83 = .ok (.aload_n 0, 1) := by decide +kernel
theorem dX10_init_84 : decode cX10_init 84 = .ok (.getfield 29, 3) := by decide +kernel
theorem dX10_init_87 : decode cX10_init 87 = .ok (.aload_n 0, 1) := by decide +kernel
theorem dX10_init_88 : decode cX10_init 88 = .ok (.getfield 38, 3) := by decide +kernel
theorem dX10_init_91 : decode cX10_init 91 = .ok (.invokespecial 53, 3) := by decide +kernel
theorem dX10_init_94 : decode cX10_init 94 = .ok (.putfield 56, 3) := by decide +kernel
theorem dX10_init_97 : decode cX10_init 97 = .ok (.aload_n 0, 1) := by decide +kernel
theorem dX10_init_98 : decode cX10_init 98 = .ok (.new 60, 3) := by decide +kernel
theorem dX10_init_101 : decode cX10_init 101 = .ok (.dup, 1) := by decide +kernel
theorem dX10_init_102 : decode cX10_init 102 = .ok (.invokespecial 62, 3) := by decide +kernel
theorem dX10_init_105 : decode cX10_init 105 = .ok (.putfield 63, 3) := by decide +kernel
theorem dX10_init_108 : decode cX10_init 108 = .ok (.aload_n 0, 1) := by decide +kernel
theorem dX10_init_109 : decode cX10_init 109 = .ok (.bipush 12, 2) := by decide +kernel
theorem dX10_init_111 : decode cX10_init 111 = .ok (.newarray .long, 2) := by decide +kernel
theorem dX10_init_113 : decode cX10_init 113 = .ok (.putfield 67, 3) := by decide +kernel
theorem dX10_init_116 : decode cX10_init 116 = .ok (.return_, 1) := by decide +kernel
def frW (W I : List Nat) : Prop := ∀ k ∈ W, k ∈ I
theorem fill_LW {l : Launch} {I : List Nat} (v : fr_V) (u : fr_U) (k n : Nat) (hk : k ∈ I) (hs : sh k = (20, n)) (hn : n ≤ 2000) (x : Int32) : ∀ (d j : Nat) (F : Nat → Int32) (hd : n - j < d) (hj : j ≤ n) (hF : F = fl x (v k) j), J l mJ7_fill_53178 I (upA v k F) u 5 [(0, .ref k), (1, .int x), (2, .int (nI j)), (3, .int (nI n))] [] (QN u (fun a => a = upA v k (fl x (v k) n))) := by
  intro d
  induction d with
  | zero => intros; omega
  | succ d ih =>
    intro j F hd hj hF
    refine J_iload_n dJ7_fill_53178_5 rfl 2 rfl ?_
    refine J_iload_n dJ7_fill_53178_6 rfl 3 rfl ?_
    refine J_icmp_ge (tgt := 20) dJ7_fill_53178_7 (by decide) (fun c1 => ?_) (fun c1 => ?_)
    · exact J_vret dJ7_fill_53178_20 rfl ⟨rfl, rfl, by have e : j = n := by {have := nz_le (by omega) (by omega) c1; omega}; rw [hF, e]⟩
    · have hjn : j < n := nz_nle (by omega) (by omega) c1
      refine J_aload_n dJ7_fill_53178_10 rfl 0 rfl ?_
      refine J_iload_n dJ7_fill_53178_11 rfl 2 rfl ?_
      refine J_iload_n dJ7_fill_53178_12 rfl 1 rfl ?_
      refine J_iase (j := j) dJ7_fill_53178_13 hk hs (ix_in (j := j) rfl (by omega) (by omega)) (ix_cl (j := j) rfl (by omega)) ?_
      refine J_iinc (q := 2) (z := nI (j + 1)) (lv' := [(2, .int (nI (j + 1))), (0, .ref k), (1, .int x), (3, .int (nI n))]) dJ7_fill_53178_14 rfl (nI_1 j) (by decide) rfl ?_
      refine J_goto (tgt := 5) dJ7_fill_53178_17 (by decide) ?_
      refine J_lv [1, 2, 0, 3] rfl ?_
      rw [up2_upA]
      exact ih (j + 1) _ (by omega) (by omega) (by rw [fl_s, hF])
theorem k_fillW {l : Launch} {I : List Nat} (v : fr_V) (u : fr_U) (k n : Nat) (hk : k ∈ I) (hs : sh k = (20, n)) (hn : n ≤ 2000) (x : Int32) : Con l mJ7_fill_53178 I v u [.ref k, .int x] (QN u (fun a => a = upA v k (fl x (v k) n))) := by
  refine Con.of (by decide) (Nat.le_of_ble_eq_true rfl) ?_
  show J l mJ7_fill_53178 I v u 0 [(0, .ref k), (1, .int x)] [] _
  refine J_iconst (x := 0) dJ7_fill_53178_0 (by decide) ?_
  refine J_istore_n (lv' := [(2, .int 0), (0, .ref k), (1, .int x)]) dJ7_fill_53178_1 rfl (by decide) rfl ?_
  refine J_aload_n dJ7_fill_53178_2 rfl 1 rfl ?_
  refine J_alen (x := nI n) dJ7_fill_53178_3 hk hs rfl ?_
  refine J_istore_n (lv' := [(3, .int (nI n)), (2, .int 0), (0, .ref k), (1, .int x)]) dJ7_fill_53178_4 rfl (by decide) rfl ?_
  refine J_lv [2, 3, 1, 0] rfl ?_
  refine J_ve (w := upA v k (v k)) (upA_id v k).symm ?_
  exact fill_LW v u k n hk hs hn x (n + 1) 0 _ (by omega) (by omega) rfl
theorem k_X0_clear10W {l : Launch} {I : List Nat} (hI : frW [10, 13] I) (v : fr_V) (u : fr_U) : Con l mX0_clear I v u [.ref 10] (QN u (fun a => a = f_clear10 v)) := by
  refine Con.of (by decide) (Nat.le_of_ble_eq_true rfl) ?_
  show J l mX0_clear I v u 0 [(0, .ref 10)] [] _
  refine J_aload_n dX0_clear_0 rfl 0 rfl ?_
  refine J_iconst (x := 0) dX0_clear_1 (by decide) ?_
  refine J_puti (ci := 0) (j := 1) dX0_clear_2 fl_X0_28 (hI 10 (by decide)) rfl rfl (fun q h => by cases h; rfl) rfl ?_
  refine J_aload_n dX0_clear_5 rfl 0 rfl ?_
  refine J_getr (ci := 0) (j := 2) (t := 13) dX0_clear_6 fl_X0_21 (hI 10 (by decide)) rfl rfl rfl ?_
  refine J_iconst (x := (-1)) dX0_clear_9 (by decide) ?_
  refine J_eSN (z := mJ7_fill_53178) (As := [.ref 13, .int (-1)]) (rest := []) (w := upA (up2 v 10 1 0) 13 (fl (-1) (v 13) 4)) dX0_clear_10 ml_X0_32 ok_J7_fill_53178 iv_J7_fill_53178 (by decide) rfl rfl (Nat.le_of_ble_eq_true rfl) (k_fillW (up2 v 10 1 0) u 13 4 (hI 13 (by decide)) rfl (by omega) (-1)) ?_
  exact J_vret dX0_clear_13 rfl ⟨rfl, rfl, rfl⟩
theorem k_X0_clear20W {l : Launch} {I : List Nat} (hI : frW [20, 23] I) (v : fr_V) (u : fr_U) : Con l mX0_clear I v u [.ref 20] (QN u (fun a => a = f_clear20 v)) := by
  refine Con.of (by decide) (Nat.le_of_ble_eq_true rfl) ?_
  show J l mX0_clear I v u 0 [(0, .ref 20)] [] _
  refine J_aload_n dX0_clear_0 rfl 0 rfl ?_
  refine J_iconst (x := 0) dX0_clear_1 (by decide) ?_
  refine J_puti (ci := 0) (j := 1) dX0_clear_2 fl_X0_28 (hI 20 (by decide)) rfl rfl (fun q h => by cases h; rfl) rfl ?_
  refine J_aload_n dX0_clear_5 rfl 0 rfl ?_
  refine J_getr (ci := 0) (j := 2) (t := 23) dX0_clear_6 fl_X0_21 (hI 20 (by decide)) rfl rfl rfl ?_
  refine J_iconst (x := (-1)) dX0_clear_9 (by decide) ?_
  refine J_eSN (z := mJ7_fill_53178) (As := [.ref 23, .int (-1)]) (rest := []) (w := upA (up2 v 20 1 0) 23 (fl (-1) (v 23) 4)) dX0_clear_10 ml_X0_32 ok_J7_fill_53178 iv_J7_fill_53178 (by decide) rfl rfl (Nat.le_of_ble_eq_true rfl) (k_fillW (up2 v 20 1 0) u 23 4 (hI 23 (by decide)) rfl (by omega) (-1)) ?_
  exact J_vret dX0_clear_13 rfl ⟨rfl, rfl, rfl⟩
theorem pl_a_LW {l : Launch} {I : List Nat} (hI : frW [1100, 1131, 1132, 1133, 1134, 1135, 1136, 1137, 1138, 1141, 1142] I) (u : fr_U) (w0 : fr_V) : ∀ (d j : Nat) (z : fr_V) (hd : 4 - j < d) (hj : j ≤ 4) (hz : z = pl_a w0 j), J l mX11_plain I z u 33 [(0, .ref 1100), (1, .int (nI j))] [] (QN u (fun a => a = up2 (pl_a w0 4) 1100 39 0)) := by
  intro d
  induction d with
  | zero => intros; omega
  | succ d ih =>
    intro j z hd hj hz
    refine J_iload_n dX11_plain_33 rfl 1 rfl ?_
    refine J_iconst (x := 4) dX11_plain_34 (by decide) ?_
    refine J_icmp_ge (tgt := 51) dX11_plain_35 (by decide) (fun c1 => ?_) (fun c1 => ?_)
    · have e : j = 4 := by have := nz_le (a := 4) (by omega) (by omega) c1; omega
      refine J_aload_n dX11_plain_51 rfl 0 rfl ?_
      refine J_iconst (x := 0) dX11_plain_52 (by decide) ?_
      refine J_puti (ci := 11) (j := 39) dX11_plain_53 fl_X11_167 (hI 1100 (by decide)) rfl rfl (fun q h => by cases h; rfl) rfl ?_
      exact J_vret dX11_plain_56 rfl ⟨rfl, rfl, by rw [← e, ← hz]⟩
    · have hjn : j < 4 := nz_nle (a := 4) (by omega) (by omega) c1
      refine J_aload_n dX11_plain_38 rfl 0 rfl ?_
      refine J_getr (ci := 11) (j := 41) (t := 1142) dX11_plain_39 fl_X11_89 (hI 1100 (by decide)) rfl rfl rfl ?_
      refine J_iload_n dX11_plain_42 rfl 1 rfl ?_
      refine J_iconst (x := 0) dX11_plain_43 (by decide) ?_
      refine J_zase (j := j) dX11_plain_44 (hI 1142 (by decide)) rfl (ix_in (j := j) rfl (by omega) (by omega)) (ix_cl (j := j) rfl (by omega)) (by decide) ?_
      refine J_iinc (q := 1) (z := nI (j + 1)) (lv' := [(1, .int (nI (j + 1))), (0, .ref 1100)]) dX11_plain_45 rfl (nI_1 j) (by decide) rfl ?_
      refine J_goto (tgt := 33) dX11_plain_48 (by decide) ?_
      refine J_lv [1, 0] rfl ?_
      exact ih (j + 1) _ (by omega) (by omega) (by rw [pl_a_s, ← hz]; unfold pl_a_t; rfl)
theorem k_X11_plainW {l : Launch} {I : List Nat} (hI : frW [1100, 1131, 1132, 1133, 1134, 1135, 1136, 1137, 1138, 1141, 1142] I) (v : fr_V) (u : fr_U) : Con l mX11_plain I v u [.ref 1100] (QN u (fun a => a = f_plain v)) := by
  refine Con.of (by decide) (Nat.le_of_ble_eq_true rfl) ?_
  show J l mX11_plain I v u 0 [(0, .ref 1100)] [] _
  refine J_aload_n dX11_plain_0 rfl 0 rfl ?_
  refine J_getr (ci := 11) (j := 40) (t := 1141) dX11_plain_1 fl_X11_86 (hI 1100 (by decide)) rfl rfl rfl ?_
  refine J_iconst (x := 4) dX11_plain_4 (by decide) ?_
  refine J_iconst (x := 4) dX11_plain_5 (by decide) ?_
  refine J_iase (j := 4) dX11_plain_6 (hI 1141 (by decide)) rfl (ix_in (j := 4) rfl (by omega) (by omega)) (ix_cl (j := 4) rfl (by omega)) ?_
  refine J_aload_n dX11_plain_7 rfl 0 rfl ?_
  refine J_getr (ci := 11) (j := 40) (t := 1141) dX11_plain_8 fl_X11_86 (hI 1100 (by decide)) rfl rfl rfl ?_
  refine J_iconst (x := 5) dX11_plain_11 (by decide) ?_
  refine J_iconst (x := 0) dX11_plain_12 (by decide) ?_
  refine J_iase (j := 5) dX11_plain_13 (hI 1141 (by decide)) rfl (ix_in (j := 5) rfl (by omega) (by omega)) (ix_cl (j := 5) rfl (by omega)) ?_
  refine J_aload_n dX11_plain_14 rfl 0 rfl ?_
  refine J_getr (ci := 11) (j := 40) (t := 1141) dX11_plain_15 fl_X11_86 (hI 1100 (by decide)) rfl rfl rfl ?_
  refine J_bipush (x := 6) dX11_plain_18 (by decide) ?_
  refine J_bipush (x := 20) dX11_plain_20 (by decide) ?_
  refine J_iase (j := 6) dX11_plain_22 (hI 1141 (by decide)) rfl (ix_in (j := 6) rfl (by omega) (by omega)) (ix_cl (j := 6) rfl (by omega)) ?_
  refine J_aload_n dX11_plain_23 rfl 0 rfl ?_
  refine J_getr (ci := 11) (j := 40) (t := 1141) dX11_plain_24 fl_X11_86 (hI 1100 (by decide)) rfl rfl rfl ?_
  refine J_bipush (x := 7) dX11_plain_27 (by decide) ?_
  refine J_iconst (x := 3) dX11_plain_29 (by decide) ?_
  refine J_iase (j := 7) dX11_plain_30 (hI 1141 (by decide)) rfl (ix_in (j := 7) rfl (by omega) (by omega)) (ix_cl (j := 7) rfl (by omega)) ?_
  refine J_iconst (x := 0) dX11_plain_31 (by decide) ?_
  refine J_istore_n (lv' := [(1, .int 0), (0, .ref 1100)]) dX11_plain_32 rfl (by decide) rfl ?_
  refine J_lv [1, 0] rfl ?_
  exact pl_a_LW hI u _ 5 0 _ (by omega) (by omega) rfl
theorem kp_b_LW {l : Launch} {I : List Nat} (hI : frW [1100, 1131, 1132, 1133, 1134, 1135, 1136, 1137, 1138, 1141, 1142] I) (u : fr_U) (w0 : fr_V) (M : Nat) (hM : M ≤ 24) : ∀ (d j : Nat) (z : fr_V) (hd : M - j < d) (hj : j ≤ M) (hz : z = kp_b w0 j) (hm : z 1100 38 = nI M), J l mX11_keep I z u 37 [(0, .ref 1100), (1, .int (nI j))] [] (QN u (fun a => a = kp_b w0 M)) := by
  intro d
  induction d with
  | zero => intros; omega
  | succ d ih =>
    intro j z hd hj hz hm
    refine J_iload_n dX11_keep_37 rfl 1 rfl ?_
    refine J_aload_n dX11_keep_38 rfl 0 rfl ?_
    refine J_gete (ci := 11) (j := 38) (x := nI M) dX11_keep_39 fl_X11_170 (hI 1100 (by decide)) rfl rfl hm ?_
    refine J_icmp_ge (tgt := 171) dX11_keep_42 (by decide) (fun c1 => ?_) (fun c1 => ?_)
    · have e : j = M := by have := nz_le (by omega) (by omega) c1; omega
      exact J_vret dX11_keep_171 rfl ⟨rfl, rfl, by rw [hz, e]⟩
    · have hjn : j < M := nz_nle (by omega) (by omega) c1
      refine J_aload_n dX11_keep_45 rfl 0 rfl ?_
      refine J_getr (ci := 11) (j := 30) (t := 1131) dX11_keep_46 fl_X11_62 (hI 1100 (by decide)) rfl rfl rfl ?_
      refine J_iload_n dX11_keep_49 rfl 1 rfl ?_
      refine J_aload_n dX11_keep_50 rfl 0 rfl ?_
      refine J_getr (ci := 11) (j := 30) (t := 1131) dX11_keep_51 fl_X11_62 (hI 1100 (by decide)) rfl rfl rfl ?_
      refine J_bipush (x := 24) dX11_keep_54 (by decide) ?_
      refine J_iload_n dX11_keep_56 rfl 1 rfl ?_
      refine J_iadd dX11_keep_57 ?_
      refine J_iale (x := z 1131 (24 + j)) dX11_keep_58 (hI 1131 (by decide)) rfl (ix_in (j := 24 + j) (by show (nI 24) + (nI j) = _; simp only [nI_add, pk_mul]) (by omega) (by omega)) ((congrArg _ (ix_cl (j := 24 + j) (by show (nI 24) + (nI j) = _; simp only [nI_add, pk_mul]) (by omega))).trans rfl) ?_
      refine J_iase (j := j) dX11_keep_59 (hI 1131 (by decide)) rfl (ix_in (j := j) rfl (by omega) (by omega)) (ix_cl (j := j) rfl (by omega)) ?_
      refine J_aload_n dX11_keep_60 rfl 0 rfl ?_
      refine J_getr (ci := 11) (j := 31) (t := 1132) dX11_keep_61 fl_X11_65 (hI 1100 (by decide)) rfl rfl rfl ?_
      refine J_iload_n dX11_keep_64 rfl 1 rfl ?_
      refine J_aload_n dX11_keep_65 rfl 0 rfl ?_
      refine J_getr (ci := 11) (j := 31) (t := 1132) dX11_keep_66 fl_X11_65 (hI 1100 (by decide)) rfl rfl rfl ?_
      refine J_bipush (x := 24) dX11_keep_69 (by decide) ?_
      refine J_iload_n dX11_keep_71 rfl 1 rfl ?_
      refine J_iadd dX11_keep_72 ?_
      refine J_iale (x := z 1132 (24 + j)) dX11_keep_73 (hI 1132 (by decide)) rfl (ix_in (j := 24 + j) (by show (nI 24) + (nI j) = _; simp only [nI_add, pk_mul]) (by omega) (by omega)) ((congrArg _ (ix_cl (j := 24 + j) (by show (nI 24) + (nI j) = _; simp only [nI_add, pk_mul]) (by omega))).trans rfl) ?_
      refine J_iase (j := j) dX11_keep_74 (hI 1132 (by decide)) rfl (ix_in (j := j) rfl (by omega) (by omega)) (ix_cl (j := j) rfl (by omega)) ?_
      refine J_aload_n dX11_keep_75 rfl 0 rfl ?_
      refine J_getr (ci := 11) (j := 32) (t := 1133) dX11_keep_76 fl_X11_68 (hI 1100 (by decide)) rfl rfl rfl ?_
      refine J_iload_n dX11_keep_79 rfl 1 rfl ?_
      refine J_aload_n dX11_keep_80 rfl 0 rfl ?_
      refine J_getr (ci := 11) (j := 32) (t := 1133) dX11_keep_81 fl_X11_68 (hI 1100 (by decide)) rfl rfl rfl ?_
      refine J_bipush (x := 24) dX11_keep_84 (by decide) ?_
      refine J_iload_n dX11_keep_86 rfl 1 rfl ?_
      refine J_iadd dX11_keep_87 ?_
      refine J_iale (x := z 1133 (24 + j)) dX11_keep_88 (hI 1133 (by decide)) rfl (ix_in (j := 24 + j) (by show (nI 24) + (nI j) = _; simp only [nI_add, pk_mul]) (by omega) (by omega)) ((congrArg _ (ix_cl (j := 24 + j) (by show (nI 24) + (nI j) = _; simp only [nI_add, pk_mul]) (by omega))).trans rfl) ?_
      refine J_iase (j := j) dX11_keep_89 (hI 1133 (by decide)) rfl (ix_in (j := j) rfl (by omega) (by omega)) (ix_cl (j := j) rfl (by omega)) ?_
      refine J_aload_n dX11_keep_90 rfl 0 rfl ?_
      refine J_getr (ci := 11) (j := 33) (t := 1134) dX11_keep_91 fl_X11_71 (hI 1100 (by decide)) rfl rfl rfl ?_
      refine J_iload_n dX11_keep_94 rfl 1 rfl ?_
      refine J_aload_n dX11_keep_95 rfl 0 rfl ?_
      refine J_getr (ci := 11) (j := 33) (t := 1134) dX11_keep_96 fl_X11_71 (hI 1100 (by decide)) rfl rfl rfl ?_
      refine J_bipush (x := 24) dX11_keep_99 (by decide) ?_
      refine J_iload_n dX11_keep_101 rfl 1 rfl ?_
      refine J_iadd dX11_keep_102 ?_
      refine J_iale (x := z 1134 (24 + j)) dX11_keep_103 (hI 1134 (by decide)) rfl (ix_in (j := 24 + j) (by show (nI 24) + (nI j) = _; simp only [nI_add, pk_mul]) (by omega) (by omega)) ((congrArg _ (ix_cl (j := 24 + j) (by show (nI 24) + (nI j) = _; simp only [nI_add, pk_mul]) (by omega))).trans rfl) ?_
      refine J_iase (j := j) dX11_keep_104 (hI 1134 (by decide)) rfl (ix_in (j := j) rfl (by omega) (by omega)) (ix_cl (j := j) rfl (by omega)) ?_
      refine J_aload_n dX11_keep_105 rfl 0 rfl ?_
      refine J_getr (ci := 11) (j := 34) (t := 1135) dX11_keep_106 fl_X11_74 (hI 1100 (by decide)) rfl rfl rfl ?_
      refine J_iload_n dX11_keep_109 rfl 1 rfl ?_
      refine J_aload_n dX11_keep_110 rfl 0 rfl ?_
      refine J_getr (ci := 11) (j := 34) (t := 1135) dX11_keep_111 fl_X11_74 (hI 1100 (by decide)) rfl rfl rfl ?_
      refine J_bipush (x := 24) dX11_keep_114 (by decide) ?_
      refine J_iload_n dX11_keep_116 rfl 1 rfl ?_
      refine J_iadd dX11_keep_117 ?_
      refine J_iale (x := z 1135 (24 + j)) dX11_keep_118 (hI 1135 (by decide)) rfl (ix_in (j := 24 + j) (by show (nI 24) + (nI j) = _; simp only [nI_add, pk_mul]) (by omega) (by omega)) ((congrArg _ (ix_cl (j := 24 + j) (by show (nI 24) + (nI j) = _; simp only [nI_add, pk_mul]) (by omega))).trans rfl) ?_
      refine J_iase (j := j) dX11_keep_119 (hI 1135 (by decide)) rfl (ix_in (j := j) rfl (by omega) (by omega)) (ix_cl (j := j) rfl (by omega)) ?_
      refine J_aload_n dX11_keep_120 rfl 0 rfl ?_
      refine J_getr (ci := 11) (j := 35) (t := 1136) dX11_keep_121 fl_X11_77 (hI 1100 (by decide)) rfl rfl rfl ?_
      refine J_iload_n dX11_keep_124 rfl 1 rfl ?_
      refine J_aload_n dX11_keep_125 rfl 0 rfl ?_
      refine J_getr (ci := 11) (j := 35) (t := 1136) dX11_keep_126 fl_X11_77 (hI 1100 (by decide)) rfl rfl rfl ?_
      refine J_bipush (x := 24) dX11_keep_129 (by decide) ?_
      refine J_iload_n dX11_keep_131 rfl 1 rfl ?_
      refine J_iadd dX11_keep_132 ?_
      refine J_iale (x := z 1136 (24 + j)) dX11_keep_133 (hI 1136 (by decide)) rfl (ix_in (j := 24 + j) (by show (nI 24) + (nI j) = _; simp only [nI_add, pk_mul]) (by omega) (by omega)) ((congrArg _ (ix_cl (j := 24 + j) (by show (nI 24) + (nI j) = _; simp only [nI_add, pk_mul]) (by omega))).trans rfl) ?_
      refine J_iase (j := j) dX11_keep_134 (hI 1136 (by decide)) rfl (ix_in (j := j) rfl (by omega) (by omega)) (ix_cl (j := j) rfl (by omega)) ?_
      refine J_aload_n dX11_keep_135 rfl 0 rfl ?_
      refine J_getr (ci := 11) (j := 36) (t := 1137) dX11_keep_136 fl_X11_80 (hI 1100 (by decide)) rfl rfl rfl ?_
      refine J_iload_n dX11_keep_139 rfl 1 rfl ?_
      refine J_aload_n dX11_keep_140 rfl 0 rfl ?_
      refine J_getr (ci := 11) (j := 36) (t := 1137) dX11_keep_141 fl_X11_80 (hI 1100 (by decide)) rfl rfl rfl ?_
      refine J_bipush (x := 24) dX11_keep_144 (by decide) ?_
      refine J_iload_n dX11_keep_146 rfl 1 rfl ?_
      refine J_iadd dX11_keep_147 ?_
      refine J_iale (x := z 1137 (24 + j)) dX11_keep_148 (hI 1137 (by decide)) rfl (ix_in (j := 24 + j) (by show (nI 24) + (nI j) = _; simp only [nI_add, pk_mul]) (by omega) (by omega)) ((congrArg _ (ix_cl (j := 24 + j) (by show (nI 24) + (nI j) = _; simp only [nI_add, pk_mul]) (by omega))).trans rfl) ?_
      refine J_iase (j := j) dX11_keep_149 (hI 1137 (by decide)) rfl (ix_in (j := j) rfl (by omega) (by omega)) (ix_cl (j := j) rfl (by omega)) ?_
      refine J_aload_n dX11_keep_150 rfl 0 rfl ?_
      refine J_getr (ci := 11) (j := 37) (t := 1138) dX11_keep_151 fl_X11_83 (hI 1100 (by decide)) rfl rfl rfl ?_
      refine J_iload_n dX11_keep_154 rfl 1 rfl ?_
      refine J_aload_n dX11_keep_155 rfl 0 rfl ?_
      refine J_getr (ci := 11) (j := 37) (t := 1138) dX11_keep_156 fl_X11_83 (hI 1100 (by decide)) rfl rfl rfl ?_
      refine J_bipush (x := 24) dX11_keep_159 (by decide) ?_
      refine J_iload_n dX11_keep_161 rfl 1 rfl ?_
      refine J_iadd dX11_keep_162 ?_
      refine J_iale (x := z 1138 (24 + j)) dX11_keep_163 (hI 1138 (by decide)) rfl (ix_in (j := 24 + j) (by show (nI 24) + (nI j) = _; simp only [nI_add, pk_mul]) (by omega) (by omega)) ((congrArg _ (ix_cl (j := 24 + j) (by show (nI 24) + (nI j) = _; simp only [nI_add, pk_mul]) (by omega))).trans rfl) ?_
      refine J_iase (j := j) dX11_keep_164 (hI 1138 (by decide)) rfl (ix_in (j := j) rfl (by omega) (by omega)) (ix_cl (j := j) rfl (by omega)) ?_
      refine J_iinc (q := 1) (z := nI (j + 1)) (lv' := [(1, .int (nI (j + 1))), (0, .ref 1100)]) dX11_keep_165 rfl (nI_1 j) (by decide) rfl ?_
      refine J_goto (tgt := 37) dX11_keep_168 (by decide) ?_
      refine J_lv [1, 0] rfl ?_
      exact ih (j + 1) _ (by omega) (by omega) (by rw [kp_b_s, ← hz]; unfold kp_b_t; rfl) (hm)
theorem kp_a_LW {l : Launch} {I : List Nat} (hI : frW [1100, 1131, 1132, 1133, 1134, 1135, 1136, 1137, 1138, 1141, 1142] I) (u : fr_U) (w0 : fr_V) (M : Nat) (hM : M ≤ 24) : ∀ (d j : Nat) (z : fr_V) (hd : 4 - j < d) (hj : j ≤ 4) (hz : z = kp_a w0 j) (hm : z 1100 39 = nI M), J l mX11_keep I z u 2 [(0, .ref 1100), (1, .int (nI j))] [] (QN u (fun a => a = kp_b (up2 (kp_a w0 4) 1100 38 ((kp_a w0 4) 1100 39)) M)) := by
  intro d
  induction d with
  | zero => intros; omega
  | succ d ih =>
    intro j z hd hj hz hm
    refine J_iload_n dX11_keep_2 rfl 1 rfl ?_
    refine J_iconst (x := 4) dX11_keep_3 (by decide) ?_
    refine J_icmp_ge (tgt := 27) dX11_keep_4 (by decide) (fun c1 => ?_) (fun c1 => ?_)
    · have e : j = 4 := by have := nz_le (a := 4) (by omega) (by omega) c1; omega
      refine J_aload_n dX11_keep_27 rfl 0 rfl ?_
      refine J_aload_n dX11_keep_28 rfl 0 rfl ?_
      refine J_gete (ci := 11) (j := 39) (x := z 1100 39) dX11_keep_29 fl_X11_167 (hI 1100 (by decide)) rfl rfl rfl ?_
      refine J_puti (ci := 11) (j := 38) dX11_keep_32 fl_X11_170 (hI 1100 (by decide)) rfl rfl (fun q h => by cases h; rfl) rfl ?_
      refine J_iconst (x := 0) dX11_keep_35 (by decide) ?_
      refine J_istore_n (lv' := [(1, .int 0), (0, .ref 1100)]) dX11_keep_36 rfl (by decide) rfl ?_
      refine J_lv [1, 0] rfl ?_
      rw [hz, e] at hm ⊢
      refine J_post (fun r v1 u1 hq => hq) (kp_b_LW hI u _ M hM (M + 1) 0 _ (by omega) (by omega) rfl hm)
    · have hjn : j < 4 := nz_nle (a := 4) (by omega) (by omega) c1
      refine J_aload_n dX11_keep_7 rfl 0 rfl ?_
      refine J_getr (ci := 11) (j := 40) (t := 1141) dX11_keep_8 fl_X11_86 (hI 1100 (by decide)) rfl rfl rfl ?_
      refine J_iload_n dX11_keep_11 rfl 1 rfl ?_
      refine J_aload_n dX11_keep_12 rfl 0 rfl ?_
      refine J_getr (ci := 11) (j := 40) (t := 1141) dX11_keep_13 fl_X11_86 (hI 1100 (by decide)) rfl rfl rfl ?_
      refine J_iconst (x := 4) dX11_keep_16 (by decide) ?_
      refine J_iload_n dX11_keep_17 rfl 1 rfl ?_
      refine J_iadd dX11_keep_18 ?_
      refine J_iale (x := z 1141 (4 + j)) dX11_keep_19 (hI 1141 (by decide)) rfl (ix_in (j := 4 + j) (by show (nI 4) + (nI j) = _; simp only [nI_add, pk_mul]) (by omega) (by omega)) ((congrArg _ (ix_cl (j := 4 + j) (by show (nI 4) + (nI j) = _; simp only [nI_add, pk_mul]) (by omega))).trans rfl) ?_
      refine J_iase (j := j) dX11_keep_20 (hI 1141 (by decide)) rfl (ix_in (j := j) rfl (by omega) (by omega)) (ix_cl (j := j) rfl (by omega)) ?_
      refine J_iinc (q := 1) (z := nI (j + 1)) (lv' := [(1, .int (nI (j + 1))), (0, .ref 1100)]) dX11_keep_21 rfl (nI_1 j) (by decide) rfl ?_
      refine J_goto (tgt := 2) dX11_keep_24 (by decide) ?_
      refine J_lv [1, 0] rfl ?_
      exact ih (j + 1) _ (by omega) (by omega) (by rw [kp_a_s, ← hz]; unfold kp_a_t; rfl) (hm)
theorem k_X11_keepW {l : Launch} {I : List Nat} (hI : frW [1100, 1131, 1132, 1133, 1134, 1135, 1136, 1137, 1138, 1141, 1142] I) (v : fr_V) (u : fr_U) (M : Nat) (hM : M ≤ 24) (hm : v 1100 39 = nI M) : Con l mX11_keep I v u [.ref 1100] (QN u (fun a => a = f_keep v M)) := by
  refine Con.of (by decide) (Nat.le_of_ble_eq_true rfl) ?_
  show J l mX11_keep I v u 0 [(0, .ref 1100)] [] _
  refine J_iconst (x := 0) dX11_keep_0 (by decide) ?_
  refine J_istore_n (lv' := [(1, .int 0), (0, .ref 1100)]) dX11_keep_1 rfl (by decide) rfl ?_
  refine J_lv [1, 0] rfl ?_
  exact kp_a_LW hI u v M hM 5 0 _ (by omega) (by omega) rfl hm
