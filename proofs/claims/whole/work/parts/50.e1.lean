abbrev mJ0_length_8abf5 : fr_M := (yJ0_length_8abf5, cJ0_length_8abf5, 1, (some .int), 1, 20)
abbrev mJ0_charAt_5068e : fr_M := (yJ0_charAt_5068e, cJ0_charAt_5068e, 2, (some .char), 4, 85)
abbrev mJ0_coder_7d493 : fr_M := (yJ0_coder_7d493, cJ0_coder_7d493, 1, (some .byte), 0, 0)
abbrev mJ0_isLatin1_aae02 : fr_M := (yJ0_isLatin1_aae02, cJ0_isLatin1_aae02, 1, (some .boolean), 0, 0)
abbrev mJ0_checkIndex_df160 : fr_M := (yJ0_checkIndex_df160, cJ0_checkIndex_df160, 2, none, 1, 22)
abbrev mJ1_charAt_3b067 : fr_M := (yJ1_charAt_3b067, cJ1_charAt_3b067, 2, (some .char), 2, 43)
abbrev mJ3_checkIndex_8e157 : fr_M := (yJ3_checkIndex_8e157, cJ3_checkIndex_8e157, 3, (some .int), 0, 0)
theorem ok_J0_length_8abf5 : MOK mJ0_length_8abf5 0 := ⟨gt_mem (tb2 _ (List.mem_of_getElem? (i := 186) (by decide +kernel))) rfl, gt_mem (tb1 _ (List.mem_of_getElem? (i := 15) (by decide +kernel))) rfl, by decide +kernel⟩
theorem iv_J0_length_8abf5 : Cond.instanceMethod yJ0_length_8abf5 ∈ gt ∧ Cond.selects RJ0 yJ0_length_8abf5 yJ0_length_8abf5 ∈ gt := ⟨gt_mem (tb2 _ (List.mem_of_getElem? (i := 184) (by decide +kernel))) rfl, gt_mem (tb2 _ (List.mem_of_getElem? (i := 185) (by decide +kernel))) rfl⟩
theorem ok_J0_charAt_5068e : MOK mJ0_charAt_5068e 1 := ⟨gt_mem (tb2 _ (List.mem_of_getElem? (i := 196) (by decide +kernel))) rfl, gt_mem (tb1 _ (List.mem_of_getElem? (i := 15) (by decide +kernel))) rfl, by decide +kernel⟩
theorem iv_J0_charAt_5068e : Cond.instanceMethod yJ0_charAt_5068e ∈ gt ∧ Cond.selects RJ0 yJ0_charAt_5068e yJ0_charAt_5068e ∈ gt := ⟨gt_mem (tb2 _ (List.mem_of_getElem? (i := 194) (by decide +kernel))) rfl, gt_mem (tb2 _ (List.mem_of_getElem? (i := 195) (by decide +kernel))) rfl⟩
theorem ok_J0_coder_7d493 : MOK mJ0_coder_7d493 0 := ⟨gt_mem (tb2 _ (List.mem_of_getElem? (i := 190) (by decide +kernel))) rfl, gt_mem (tb1 _ (List.mem_of_getElem? (i := 15) (by decide +kernel))) rfl, by decide +kernel⟩
theorem iv_J0_coder_7d493 : Cond.instanceMethod yJ0_coder_7d493 ∈ gt ∧ Cond.selects RJ0 yJ0_coder_7d493 yJ0_coder_7d493 ∈ gt := ⟨gt_mem (tb2 _ (List.mem_of_getElem? (i := 188) (by decide +kernel))) rfl, gt_mem (tb2 _ (List.mem_of_getElem? (i := 189) (by decide +kernel))) rfl⟩
theorem ok_J0_isLatin1_aae02 : MOK mJ0_isLatin1_aae02 0 := ⟨gt_mem (tb2 _ (List.mem_of_getElem? (i := 200) (by decide +kernel))) rfl, gt_mem (tb1 _ (List.mem_of_getElem? (i := 15) (by decide +kernel))) rfl, by decide +kernel⟩
theorem iv_J0_isLatin1_aae02 : Cond.instanceMethod yJ0_isLatin1_aae02 ∈ gt ∧ Cond.selects RJ0 yJ0_isLatin1_aae02 yJ0_isLatin1_aae02 ∈ gt := ⟨gt_mem (tb2 _ (List.mem_of_getElem? (i := 198) (by decide +kernel))) rfl, gt_mem (tb2 _ (List.mem_of_getElem? (i := 199) (by decide +kernel))) rfl⟩
theorem ok_J0_checkIndex_df160 : MOK mJ0_checkIndex_df160 2 := ⟨gt_mem (tb2 _ (List.mem_of_getElem? (i := 206) (by decide +kernel))) rfl, gt_mem (tb1 _ (List.mem_of_getElem? (i := 15) (by decide +kernel))) rfl, by decide +kernel⟩
theorem iv_J0_checkIndex_df160 : Cond.static yJ0_checkIndex_df160 ∈ gt := gt_mem (tb2 _ (List.mem_of_getElem? (i := 205) (by decide +kernel))) rfl
theorem ok_J1_charAt_3b067 : MOK mJ1_charAt_3b067 2 := ⟨gt_mem (tb2 _ (List.mem_of_getElem? (i := 203) (by decide +kernel))) rfl, gt_mem (tb1 _ (List.mem_of_getElem? (i := 16) (by decide +kernel))) rfl, by decide +kernel⟩
theorem iv_J1_charAt_3b067 : Cond.static yJ1_charAt_3b067 ∈ gt := gt_mem (tb2 _ (List.mem_of_getElem? (i := 202) (by decide +kernel))) rfl
theorem ok_J3_checkIndex_8e157 : MOK mJ3_checkIndex_8e157 3 := ⟨gt_mem (tb2 _ (List.mem_of_getElem? (i := 211) (by decide +kernel))) rfl, gt_mem (tb1 _ (List.mem_of_getElem? (i := 17) (by decide +kernel))) rfl, by decide +kernel⟩
theorem iv_J3_checkIndex_8e157 : Cond.static yJ3_checkIndex_8e157 ∈ gt := gt_mem (tb2 _ (List.mem_of_getElem? (i := 210) (by decide +kernel))) rfl
theorem ml_J0_335 : Cond.methodLink RJ0 335 yJ0_coder_7d493 ∈ gt := gt_mem (tb2 _ (List.mem_of_getElem? (i := 187) (by decide +kernel))) rfl
theorem ml_J0_492 : Cond.methodLink RJ0 492 yJ0_isLatin1_aae02 ∈ gt := gt_mem (tb2 _ (List.mem_of_getElem? (i := 197) (by decide +kernel))) rfl
theorem ml_J0_495 : Cond.methodLink RJ0 495 yJ1_charAt_3b067 ∈ gt := gt_mem (tb2 _ (List.mem_of_getElem? (i := 201) (by decide +kernel))) rfl
theorem ml_J0_1059 : Cond.methodLink RJ0 1059 yJ3_checkIndex_8e157 ∈ gt := gt_mem (tb2 _ (List.mem_of_getElem? (i := 209) (by decide +kernel))) rfl
theorem ml_J1_9 : Cond.methodLink RJ1 9 yJ0_checkIndex_df160 ∈ gt := gt_mem (tb2 _ (List.mem_of_getElem? (i := 204) (by decide +kernel))) rfl
theorem el_J0_9 : Cond.fieldLink RJ0 9 "java/lang/String" "value" "[B" ∈ gt := gt_mem (tb7 _ (List.mem_of_getElem? (i := 110) (by decide +kernel))) rfl
theorem el_J0_15 : Cond.fieldLink RJ0 15 "java/lang/String" "coder" "B" ∈ gt := gt_mem (tb7 _ (List.mem_of_getElem? (i := 111) (by decide +kernel))) rfl
theorem el_J0_38 : Cond.fieldLink RJ0 38 "java/lang/String" "COMPACT_STRINGS" "Z" ∈ gt := gt_mem (tb2 _ (List.mem_of_getElem? (i := 191) (by decide +kernel))) rfl
theorem el_J0_1053 : Cond.fieldLink RJ0 1053 "jdk/internal/util/Preconditions" "SIOOBE_FORMATTER" "Ljava/util/function/BiFunction;" ∈ gt := gt_mem (tb2 _ (List.mem_of_getElem? (i := 207) (by decide +kernel))) rfl
theorem dJ0_length_8abf5_0 : decode cJ0_length_8abf5 0 = .ok (.aload_n 0, 1) := by decide +kernel
theorem dJ0_length_8abf5_1 : decode cJ0_length_8abf5 1 = .ok (.getfield 9, 3) := by decide +kernel
theorem dJ0_length_8abf5_4 : decode cJ0_length_8abf5 4 = .ok (.arraylength, 1) := by decide +kernel
theorem dJ0_length_8abf5_5 : decode cJ0_length_8abf5 5 = .ok (.aload_n 0, 1) := by decide +kernel
theorem dJ0_length_8abf5_6 : decode cJ0_length_8abf5 6 = .ok (.invokevirtual 335, 3) := by decide +kernel
theorem dJ0_length_8abf5_9 : decode cJ0_length_8abf5 9 = .ok (.ishr, 1) := by decide +kernel
theorem dJ0_length_8abf5_10 : decode cJ0_length_8abf5 10 = .ok (.ireturn, 1) := by decide +kernel
theorem dJ0_charAt_5068e_0 : decode cJ0_charAt_5068e 0 = .ok (.aload_n 0, 1) := by decide +kernel
theorem dJ0_charAt_5068e_1 : decode cJ0_charAt_5068e 1 = .ok (.invokevirtual 492, 3) := by decide +kernel
theorem dJ0_charAt_5068e_4 : decode cJ0_charAt_5068e 4 = .ok (.ifCond .eq 12, 3) := by decide +kernel
theorem dJ0_charAt_5068e_7 : decode cJ0_charAt_5068e 7 = .ok (.aload_n 0, 1) := by decide +kernel
theorem dJ0_charAt_5068e_8 : decode cJ0_charAt_5068e 8 = .ok (.getfield 9, 3) := by decide +kernel
theorem dJ0_charAt_5068e_11 : decode cJ0_charAt_5068e 11 = .ok (.iload_n 1, 1) := by decide +kernel
theorem dJ0_charAt_5068e_12 : decode cJ0_charAt_5068e 12 = .ok (.invokestatic 495, 3) := by decide +kernel
theorem dJ0_charAt_5068e_15 : decode cJ0_charAt_5068e 15 = .ok (.ireturn, 1) := by decide +kernel
theorem dJ0_charAt_5068e_16 : decode cJ0_charAt_5068e 16 = .ok (.aload_n 0, 1) := by decide +kernel
theorem dJ0_charAt_5068e_17 : decode cJ0_charAt_5068e 17 = .ok (.getfield 9, 3) := by decide +kernel
theorem dJ0_charAt_5068e_20 : decode cJ0_charAt_5068e 20 = .ok (.iload_n 1, 1) := by decide +kernel
theorem dJ0_charAt_5068e_21 : decode cJ0_charAt_5068e 21 = .ok (.invokestatic 498, 3) := by decide +kernel
theorem dJ0_charAt_5068e_24 : decode cJ0_charAt_5068e 24 = .ok (.ireturn, 1) := by decide +kernel
theorem dJ0_coder_7d493_0 : decode cJ0_coder_7d493 0 = .ok (.getstatic 38, 3) := by decide +kernel
theorem dJ0_coder_7d493_3 : decode cJ0_coder_7d493 3 = .ok (.ifCond .eq 10, 3) := by decide +kernel
theorem dJ0_coder_7d493_6 : decode cJ0_coder_7d493 6 = .ok (.aload_n 0, 1) := by decide +kernel
theorem dJ0_coder_7d493_7 : decode cJ0_coder_7d493 7 = .ok (.getfield 15, 3) := by decide +kernel
theorem dJ0_coder_7d493_10 : decode cJ0_coder_7d493 10 = .ok (.goto 4, 3) := by decide +kernel
theorem dJ0_coder_7d493_13 : decode cJ0_coder_7d493 13 = .ok (.iconst 1, 1) := by decide +kernel
theorem dJ0_coder_7d493_14 : decode cJ0_coder_7d493 14 = .ok (.ireturn, 1) := by decide +kernel
theorem dJ0_isLatin1_aae02_0 : decode cJ0_isLatin1_aae02 0 = .ok (.getstatic 38, 3) := by decide +kernel
theorem dJ0_isLatin1_aae02_3 : decode cJ0_isLatin1_aae02 3 = .ok (.ifCond .eq 14, 3) := by decide +kernel
theorem dJ0_isLatin1_aae02_6 : decode cJ0_isLatin1_aae02 6 = .ok (.aload_n 0, 1) := by decide +kernel
theorem dJ0_isLatin1_aae02_7 : decode cJ0_isLatin1_aae02 7 = .ok (.getfield 15, 3) := by decide +kernel
theorem dJ0_isLatin1_aae02_10 : decode cJ0_isLatin1_aae02 10 = .ok (.ifCond .ne 7, 3) := by decide +kernel
theorem dJ0_isLatin1_aae02_13 : decode cJ0_isLatin1_aae02 13 = .ok (.iconst 1, 1) := by decide +kernel
theorem dJ0_isLatin1_aae02_14 : decode cJ0_isLatin1_aae02 14 = .ok (.goto 4, 3) := by decide +kernel
theorem dJ0_isLatin1_aae02_17 : decode cJ0_isLatin1_aae02 17 = .ok (.iconst 0, 1) := by decide +kernel
theorem dJ0_isLatin1_aae02_18 : decode cJ0_isLatin1_aae02 18 = .ok (.ireturn, 1) := by decide +kernel
theorem dJ0_checkIndex_df160_0 : decode cJ0_checkIndex_df160 0 = .ok (.iload_n 0, 1) := by decide +kernel
theorem dJ0_checkIndex_df160_1 : decode cJ0_checkIndex_df160 1 = .ok (.iload_n 1, 1) := by decide +kernel
theorem dJ0_checkIndex_df160_2 : decode cJ0_checkIndex_df160 2 = .ok (.getstatic 1053, 3) := by decide +kernel
theorem dJ0_checkIndex_df160_5 : decode cJ0_checkIndex_df160 5 = .ok (.invokestatic 1059, 3) := by decide +kernel
theorem dJ0_checkIndex_df160_8 : decode cJ0_checkIndex_df160 8 = .ok (.pop, 1) := by decide +kernel
theorem dJ0_checkIndex_df160_9 : decode cJ0_checkIndex_df160 9 = .ok (.return_, 1) := by decide +kernel
theorem dJ1_charAt_3b067_0 : decode cJ1_charAt_3b067 0 = .ok (.iload_n 1, 1) := by decide +kernel
theorem dJ1_charAt_3b067_1 : decode cJ1_charAt_3b067 1 = .ok (.aload_n 0, 1) := by decide +kernel
theorem dJ1_charAt_3b067_2 : decode cJ1_charAt_3b067 2 = .ok (.arraylength, 1) := by decide +kernel
theorem dJ1_charAt_3b067_3 : decode cJ1_charAt_3b067 3 = .ok (.invokestatic 9, 3) := by decide +kernel
theorem dJ1_charAt_3b067_6 : decode cJ1_charAt_3b067 6 = .ok (.aload_n 0, 1) := by decide +kernel
theorem dJ1_charAt_3b067_7 : decode cJ1_charAt_3b067 7 = .ok (.iload_n 1, 1) := by decide +kernel
theorem dJ1_charAt_3b067_8 : decode cJ1_charAt_3b067 8 = .ok (.baload, 1) := by decide +kernel
theorem dJ1_charAt_3b067_9 : decode cJ1_charAt_3b067 9 = .ok (.sipush 255, 3) := by decide +kernel
theorem dJ1_charAt_3b067_12 : decode cJ1_charAt_3b067 12 = .ok (.iand, 1) := by decide +kernel
theorem dJ1_charAt_3b067_13 : decode cJ1_charAt_3b067 13 = .ok (.i2c, 1) := by decide +kernel
theorem dJ1_charAt_3b067_14 : decode cJ1_charAt_3b067 14 = .ok (.ireturn, 1) := by decide +kernel
theorem dJ3_checkIndex_8e157_0 : decode cJ3_checkIndex_8e157 0 = .ok (.iload_n 0, 1) := by decide +kernel
theorem dJ3_checkIndex_8e157_1 : decode cJ3_checkIndex_8e157 1 = .ok (.ifCond .lt 8, 3) := by decide +kernel
theorem dJ3_checkIndex_8e157_4 : decode cJ3_checkIndex_8e157 4 = .ok (.iload_n 0, 1) := by decide +kernel
theorem dJ3_checkIndex_8e157_5 : decode cJ3_checkIndex_8e157 5 = .ok (.iload_n 1, 1) := by decide +kernel
theorem dJ3_checkIndex_8e157_6 : decode cJ3_checkIndex_8e157 6 = .ok (.if_icmp .lt 10, 3) := by decide +kernel
theorem dJ3_checkIndex_8e157_9 : decode cJ3_checkIndex_8e157 9 = .ok (.aload_n 2, 1) := by decide +kernel
theorem dJ3_checkIndex_8e157_10 : decode cJ3_checkIndex_8e157 10 = .ok (.iload_n 0, 1) := by decide +kernel
theorem dJ3_checkIndex_8e157_11 : decode cJ3_checkIndex_8e157 11 = .ok (.iload_n 1, 1) := by decide +kernel
theorem dJ3_checkIndex_8e157_12 : decode cJ3_checkIndex_8e157 12 = .ok (.invokestatic 95, 3) := by decide +kernel
theorem dJ3_checkIndex_8e157_15 : decode cJ3_checkIndex_8e157 15 = .ok (.athrow, 1) := by decide +kernel
theorem dJ3_checkIndex_8e157_16 : decode cJ3_checkIndex_8e157 16 = .ok (.iload_n 0, 1) := by decide +kernel
theorem dJ3_checkIndex_8e157_17 : decode cJ3_checkIndex_8e157 17 = .ok (.ireturn, 1) := by decide +kernel
section FRW
variable {l : Launch} {y : fr_M} {I : List Nat} {v : fr_V} {u : fr_U} {Q : Option Value → fr_V → fr_U → Prop} {pc : Nat} {lv : List (Nat × Value)} {st : List Value}
theorem J_nret {x : Int32} {ty : FieldType} (d : decode y.2.1 pc = .ok (.ireturn, 1)) (hr : y.2.2.2.1 = some ty) (hx : narrow ty (.int x) = .int x) (hq : Q (some (.int x)) v u) : J l y I v u pc lv [.int x] Q := by
  intro L cA D p e s m args below meth c H locs ls C hP hD hS hl
  exact W.zret (v := x) C.1 C.2.1 (C.2.2.1.trans hr) hx (fun t ht hW => ⟨⟨some (.int x), v, u, rfl, hq, by rw [ht]; exact hP, va_K.moved hW.alike C.2.2.2.2.2.2.2.2⟩, hS.F ht⟩) hS.2.2 d C.2.2.2.2.2.1
theorem J_i2c {x : Int32} {z : Int32} (d : decode y.2.1 pc = .ok (.i2c, 1)) (hz : (x.toUInt32 % 65536).toInt32 = z) (k : J l y I v u (pc + 1) lv (.int z :: st) Q) : J l y I v u pc lv (.int x :: st) Q :=
  fun L cA D p e s m args below meth c H locs ls C hP hD hS hl => lv_i2c C.1 C.2.1 d hz (k L cA D p e s m args below meth c H locs ls C hP hD hS hl)
theorem J_scoder {idx w : Nat} (d : decode y.2.1 pc = .ok (.getfield idx, 3)) (hw : Cond.fieldLink y.1.cls idx "java/lang/String" "coder" "B" ∈ gt) (h : w < 15) (k : J l y I v u (pc + 3) lv (.int 0 :: st) Q) : J l y I v u pc lv (.ref (3100 + w) :: st) Q := by
  intro L cA D p e s m args below meth c H locs ls C hP hD hS hl
  exact vk_getf C.1 C.2.1 (C.2.2.2.2.2.2.2.1.2.2.2.2.2.2.1.1 w h).2.1 hS C.2.2.2.2.1 (C.2.2.2.2.2.2.1 _ hw) (fun _ h9 => h9) d (k L cA D p e s m args below meth c H locs ls C hP hD hS hl)
theorem J_svalue {idx w : Nat} (d : decode y.2.1 pc = .ok (.getfield idx, 3)) (hw : Cond.fieldLink y.1.cls idx "java/lang/String" "value" "[B" ∈ gt) (h : w < 15) (k : J l y I v u (pc + 3) lv (.ref (3300 + w) :: st) Q) : J l y I v u pc lv (.ref (3100 + w) :: st) Q := by
  intro L cA D p e s m args below meth c H locs ls C hP hD hS hl
  exact vk_getf C.1 C.2.1 (C.2.2.2.2.2.2.2.1.2.2.2.2.2.2.1.1 w h).2.2.1 hS C.2.2.2.2.1 (C.2.2.2.2.2.2.1 _ hw) (fun _ h9 => h9) d (k L cA D p e s m args below meth c H locs ls C hP hD hS hl)
theorem J_slen {w : Nat} (d : decode y.2.1 pc = .ok (.arraylength, 1)) (h : w < 15) (k : J l y I v u (pc + 1) lv (.int (nI (fr_len.getD w 0)) :: st) Q) : J l y I v u pc lv (.ref (3300 + w) :: st) Q := by
  intro L cA D p e s m args below meth c H locs ls C hP hD hS hl
  exact va_tlen C.1 C.2.1 (C.2.2.2.2.2.2.2.1.2.2.2.2.2.2.1.1 w h).2.2.2 hS rfl d (k L cA D p e s m args below meth c H locs ls C hP hD hS hl)
def wch (w j : Nat) : Int32 := (fr_byt.getD w []).getD j 0
theorem J_sald {w j : Nat} (d : decode y.2.1 pc = .ok (.baload, 1)) (h : w < 15) (hj : j < fr_len.getD w 0) (hj2 : j < 2 ^ 31) (k : J l y I v u (pc + 1) lv (.int (wch w j) :: st) Q) (hL : fr_len.getD w 0 < 2 ^ 31) : J l y I v u pc lv (.int (nI j) :: .ref (3300 + w) :: st) Q := by
  intro L cA D p e s m args below meth c H locs ls C hP hD hS hl
  exact va_tb C.1 C.2.1 (C.2.2.2.2.2.2.2.1.2.2.2.2.2.2.1.1 w h).2.2.2 hS (vp_in_nI hj hL) (v := .int (wch w j)) (by rw [nI_clamp hj2]; rfl) d (k L cA D p e s m args below meth c H locs ls C hP hD hS hl)
theorem J_wtext {idx w : Nat} (d : decode y.2.1 pc = .ok (.getfield idx, 3)) (hw : Cond.fieldLink y.1.cls idx "LifeRents$Word" "text" "Ljava/lang/String;" ∈ gt) (h : w < 15) (k : J l y I v u (pc + 3) lv (.ref (3100 + w) :: st) Q) : J l y I v u pc lv (.ref (3000 + w) :: st) Q := by
  intro L cA D p e s m args below meth c H locs ls C hP hD hS hl
  exact va_getX (ad := fun i => L (3000 + i)) C.1 C.2.1 C.2.2.2.2.2.2.2.1.2.1 h hS C.2.2.2.2.1 (C.2.2.2.2.2.2.1 _ hw) (fun _ h9 => h9) d (k L cA D p e s m args below meth c H locs ls C hP hD hS hl)
theorem J_wlen (d : decode y.2.1 pc = .ok (.arraylength, 1)) (k : J l y I v u (pc + 1) lv (.int 15 :: st) Q) : J l y I v u pc lv (.ref 3201 :: st) Q := by
  intro L cA D p e s m args below meth c H locs ls C hP hD hS hl
  exact va_tlen C.1 C.2.1 C.2.2.2.2.2.2.2.1.2.2.2.2.2.1 hS rfl d (k L cA D p e s m args below meth c H locs ls C hP hD hS hl)
theorem J_wald {j : Nat} (d : decode y.2.1 pc = .ok (.aaload, 1)) (h : j < 15) (k : J l y I v u (pc + 1) lv (.ref (3000 + j) :: st) Q) : J l y I v u pc lv (.int (nI j) :: .ref 3201 :: st) Q := by
  intro L cA D p e s m args below meth c H locs ls C hP hD hS hl
  exact vb_tq C.1 C.2.1 C.2.2.2.2.2.2.2.1.2.2.2.2.2.1 hS (vp_in_nI h (by omega)) (v := .ref (L (3000 + j))) (by rw [nI_clamp (by omega)]) d (k L cA D p e s m args below meth c H locs ls C hP hD hS hl)
theorem J_callVS {z : fr_M} {idx w n : Nat} {As rest : List Value} {Qz : Option Value → fr_V → fr_U → Prop} (d : decode y.2.1 pc = .ok (.invokevirtual idx, 3)) (hw : Cond.methodLink y.1.cls idx z.1 ∈ gt) (hz : MOK z n) (hv : Cond.instanceMethod z.1 ∈ gt ∧ Cond.selects z.1.cls z.1 z.1 ∈ gt) (hR : z.2.2.2.2.1 + 1 ≤ y.2.2.2.2.1 ∧ 8 + (z.2.2.1 + 11) + z.2.2.2.2.2 ≤ y.2.2.2.2.2)
    (hw9 : w < 15) (hc : z.1.cls = "java/lang/String") (hst : st = As.reverse ++ .ref (3100 + w) :: rest) (hn : As.length = n) (hsum : (rest.map fun x => x.category).sum ≤ 8) (hC : Con l z I v u (.ref (3100 + w) :: As) Qz)
    (k : ∀ r v' u', Qz r v' u' → J l y I v' u' (pc + 3) lv (r.toList ++ rest) Q) : J l y I v u pc lv st Q := by
  intro L cA D p e s m args below meth c H locs ls C hP hD hS hl
  subst hst
  have hT := C.2.2.2.2.2.2.1
  have cb : CallB (fr_rm y) s args y.1.cls idx z.1 z.2.1 z.2.2.1 z.2.2.2.1 (fr_ws z) (fr_rm z) 0 0 n := callB_of n hT (fr_good hz) rfl rfl rfl (hT _ hz.2.1) (hT _ hw) hz.2.2 hR
  have hrun := va_runV (l := l) (e := e) (below := below) (meth := meth) (H := H) (locs := locs) (cells := 0) (slots := 0) (b := L (3100 + w)) (As := As.map (cv L)) (rest := rest.map (cv L)) (g := F0 m pc ls ((As.reverse ++ .ref (3100 + w) :: rest).map (cv L))) ⟨C.1, C.2.1, C.2.2.2.1, C.2.2.2.2.1, hT⟩ (hC L cA D) (C := z.1.cls) ⟨cb, hT _ hv.1, hT _ hv.2⟩
    ⟨fr_blind, by rw [hc]; exact vk_recv (adK := fun i => L (3100 + i)) (i := w) C.2.2.2.2.2.2.2.1.2.2.2.2.2.2.1 hw9 hS, fr_pre (av := (Value.ref (3100 + w) :: As).map (cv L)) hP hD hS C.2.2.2.2.2.2.2.2 C.2.2.2.2.2.2.2.1⟩ rfl (by rw [List.length_map]; exact hn) hl.1 (by simp [cv, List.map_reverse]) (lv_room (by rw [cv_sum]; exact hsum)) d ⟨Nat.le_refl _, Nat.le_refl _⟩
  exact J_back (z := z) (v := v) (u := u) hrun C hD hS hl k
theorem J_eVSI {z : fr_M} {idx w n : Nat} {As rest : List Value} {x : Int32} (d : decode y.2.1 pc = .ok (.invokevirtual idx, 3)) (hw : Cond.methodLink y.1.cls idx z.1 ∈ gt) (hz : MOK z n) (hv : Cond.instanceMethod z.1 ∈ gt ∧ Cond.selects z.1.cls z.1 z.1 ∈ gt) (hR : z.2.2.2.2.1 + 1 ≤ y.2.2.2.2.1 ∧ 8 + (z.2.2.1 + 11) + z.2.2.2.2.2 ≤ y.2.2.2.2.2)
    (hw9 : w < 15) (hc : z.1.cls = "java/lang/String") (hst : st = As.reverse ++ .ref (3100 + w) :: rest) (hn : As.length = n) (hsum : (rest.map fun x => x.category).sum ≤ 8) (hC : Con l z I v u (.ref (3100 + w) :: As) (QI v u (fun a => a = x)))
    (k : J l y I v u (pc + 3) lv (.int x :: rest) Q) : J l y I v u pc lv st Q := by
  refine J_callVS d hw hz hv hR hw9 hc hst hn hsum hC (fun r v' u' hq => ?_)
  obtain ⟨x, rfl, rfl, rfl, rfl⟩ := hq
  exact k
theorem x_cs (L : Nat → Nat) (A : Nat → Prop) (U : State) (H : Heap) (h : fr_X L A U H) : va_Z "java/lang/String" "COMPACT_STRINGS" "Z" (cv L (.int 1)) A U H := h.2.2.2.2.2.2.2.1
/-- Preconditions.checkIndex, whatever its third argument -/
theorem k_ck3 (hI : fr_I I) {i n : Int32} {x : Value} (hx : x = .null ∨ ∃ t, x = .ref t) (h0 : ¬ i < 0) (h1 : i < n) (L : Nat → Nat) (cA : Nat → ClassId) (D : va_G) : Met l mJ3_checkIndex_8e157.1 (fr_ws mJ3_checkIndex_8e157) (fr_rm mJ3_checkIndex_8e157) (va_Pc [.int i, .int n, x] (fr_P L cA D I v u)) (fr_Q L cA D I (QI v u (fun a => a = i))) 0 0 (Aw L I) := by
  refine Met.ofW (cc := mJ3_checkIndex_8e157.2.1) (maxL := mJ3_checkIndex_8e157.2.2.1) (ret := mJ3_checkIndex_8e157.2.2.2.1) (by decide) rfl ?_
  intro p e s m args' below meth c s₁ B hml hv
  obtain ⟨rfl, hP, hK, hD, hX⟩ := hv
  have hts := atoms_spec (ws := fr_ws mJ3_checkIndex_8e157) B.pre
  have hl := lv_entry [.int i, .int n, x] (n := mJ3_checkIndex_8e157.2.2.1) (by rcases hx with rfl | ⟨t, rfl⟩ <;> exact Nat.le_refl _)
  rw [lg_entry_eq]
  have hl2 := lv_sub (l' := [(0, .int i), (1, .int n)]) hl [0, 1] (by rcases hx with rfl | ⟨t, rfl⟩ <;> rfl)
  have hJ : J l mJ3_checkIndex_8e157 I v u 0 [(0, .int i), (1, .int n)] [] (QI v u (fun a => a = i)) := by
    refine J_iload_n dJ3_checkIndex_8e157_0 rfl 0 rfl ?_
    refine J_if_lt (tgt := 9) dJ3_checkIndex_8e157_1 (by decide) (fun c => absurd c h0) (fun c => ?_)
    refine J_iload_n dJ3_checkIndex_8e157_4 rfl 0 rfl ?_
    refine J_iload_n dJ3_checkIndex_8e157_5 rfl 1 rfl ?_
    refine J_icmp_lt (tgt := 16) dJ3_checkIndex_8e157_6 (by decide) (fun c => ?_) (fun c => absurd h1 c)
    refine J_iload_n dJ3_checkIndex_8e157_16 rfl 0 rfl ?_
    exact J_iret dJ3_checkIndex_8e157_17 rfl ⟨_, rfl, rfl, rfl, rfl⟩
  exact hJ L cA D p e s m _ below meth c s.heap [] _ ⟨B.exec, B.bytes, B.returns, hml, findClass_of_methodNamed B.named, B.notSynchronized, fun w hw => hts w (List.mem_cons_of_mem _ hw), hX, hK⟩ hP hD va_S.rf hl2
theorem J_ck (hI : fr_I I) {i n : Int32} {idx1 idx2 : Nat} (d1 : decode y.2.1 pc = .ok (.getstatic idx1, 3)) (d2 : decode y.2.1 (pc + 3) = .ok (.invokestatic idx2, 3)) (hw1 : Cond.fieldLink y.1.cls idx1 "jdk/internal/util/Preconditions" "SIOOBE_FORMATTER" "Ljava/util/function/BiFunction;" ∈ gt) (hw2 : Cond.methodLink y.1.cls idx2 mJ3_checkIndex_8e157.1 ∈ gt) (hR : mJ3_checkIndex_8e157.2.2.2.2.1 + 1 ≤ y.2.2.2.2.1 ∧ 8 + (mJ3_checkIndex_8e157.2.2.1 + 11) + mJ3_checkIndex_8e157.2.2.2.2.2 ≤ y.2.2.2.2.2) (h0 : ¬ i < 0) (h1 : i < n) (k : J l y I v u (pc + 3 + 3) lv [.int i] Q) : J l y I v u pc lv [.int n, .int i] Q := by
  intro L cA D p e s m args below meth c H locs ls C hP hD hS hl
  have hT := C.2.2.2.2.2.2.1
  have hX := C.2.2.2.2.2.2.2.1
  have go : ∀ x : Value, (x = .null ∨ ∃ t, x = .ref t) → W p l e (fr_rm y) s m args below meth c H locs 0 0 (MQ below (fr_Q L cA D I Q) args s 0 0 (Aw L I)) (F0 m (pc + 3) ls [x, .int n, .int i]) := by
    intro x hx
    have cb : CallB (fr_rm y) s args y.1.cls idx2 mJ3_checkIndex_8e157.1 mJ3_checkIndex_8e157.2.1 mJ3_checkIndex_8e157.2.2.1 mJ3_checkIndex_8e157.2.2.2.1 (fr_ws mJ3_checkIndex_8e157) (fr_rm mJ3_checkIndex_8e157) 0 0 3 := callB_of 3 hT (fr_good ok_J3_checkIndex_8e157) rfl rfl rfl (hT _ ok_J3_checkIndex_8e157.2.1) (hT _ hw2) ok_J3_checkIndex_8e157.2.2 hR
    have hrun := va_runS (l := l) (e := e) (below := below) (meth := meth) (H := H) (locs := locs) (cells := 0) (slots := 0) (As := [.int i, .int n, x]) (rest := []) (g := F0 m (pc + 3) ls [x, .int n, .int i]) ⟨C.1, C.2.1, C.2.2.2.1, C.2.2.2.2.1, hT⟩ (k_ck3 (l := l) (v := v) (u := u) hI hx h0 h1 L cA D) ⟨cb, hT _ iv_J3_checkIndex_8e157⟩
      ⟨fr_blind, fr_pre (av := [.int i, .int n, x]) hP hD hS C.2.2.2.2.2.2.2.2 C.2.2.2.2.2.2.2.1⟩ rfl rfl hl.1 rfl (lv_room (Nat.zero_le _)) d2 ⟨Nat.le_refl _, Nat.le_refl _⟩
    refine J_back (z := mJ3_checkIndex_8e157) (v := v) (u := u) (rest := []) (pc := pc + 3) hrun C hD hS hl (fun r v' u' hq => ?_)
    obtain ⟨x, rfl, rfl, rfl, rfl⟩ := hq
    exact k
  rcases hX.2.2.2.2.2.2.2.2.1 with z | ⟨t, z⟩
  · exact va_gets C.1 C.2.1 z hS C.2.2.2.2.1 (hT _ hw1) (fun _ h9 => h9) d1 (go _ (Or.inl rfl))
  · exact va_gets C.1 C.2.1 z hS C.2.2.2.2.1 (hT _ hw1) (fun _ h9 => h9) d1 (go _ (Or.inr ⟨t, rfl⟩))
end FRW
theorem len_b : ∀ w, w < 15 → fr_len.getD w 0 < 10 := by decide
theorem wch_b : ∀ w, w < 15 → ∀ j, j < fr_len.getD w 0 → (wch w j &&& 255) = wch w j ∧ ((wch w j).toUInt32 % 65536).toInt32 = wch w j := by decide +kernel
theorem k_J0_coder {l : Launch} {I : List Nat} (hI : fr_I I) (v : fr_V) (u : fr_U) (w : Nat) (hw : w < 15) : Con l mJ0_coder_7d493 I v u [.ref (3100 + w)] (QI v u (fun a => a = 0)) := by
  refine Con.of (by decide) (Nat.le_of_ble_eq_true rfl) ?_
  show J l mJ0_coder_7d493 I v u 0 [(0, .ref (3100 + w))] [] _
  refine J_gets (x := .int 1) dJ0_coder_7d493_0 el_J0_38 x_cs ?_
  refine J_if_eq (tgt := 13) dJ0_coder_7d493_3 (by decide) (fun c => absurd c (by decide)) (fun c => ?_)
  refine J_aload_n dJ0_coder_7d493_6 rfl 0 rfl ?_
  refine J_scoder dJ0_coder_7d493_7 el_J0_15 hw ?_
  refine J_goto (tgt := 14) dJ0_coder_7d493_10 (by decide) ?_
  exact J_nret dJ0_coder_7d493_14 rfl rfl ⟨_, rfl, rfl, rfl, rfl⟩
theorem k_J0_isLatin1 {l : Launch} {I : List Nat} (hI : fr_I I) (v : fr_V) (u : fr_U) (w : Nat) (hw : w < 15) : Con l mJ0_isLatin1_aae02 I v u [.ref (3100 + w)] (QI v u (fun a => a = 1)) := by
  refine Con.of (by decide) (Nat.le_of_ble_eq_true rfl) ?_
  show J l mJ0_isLatin1_aae02 I v u 0 [(0, .ref (3100 + w))] [] _
  refine J_gets (x := .int 1) dJ0_isLatin1_aae02_0 el_J0_38 x_cs ?_
  refine J_if_eq (tgt := 17) dJ0_isLatin1_aae02_3 (by decide) (fun c => absurd c (by decide)) (fun c => ?_)
  refine J_aload_n dJ0_isLatin1_aae02_6 rfl 0 rfl ?_
  refine J_scoder dJ0_isLatin1_aae02_7 el_J0_15 hw ?_
  refine J_if_ne (tgt := 17) dJ0_isLatin1_aae02_10 (by decide) (fun c => absurd rfl c) (fun c => ?_)
  refine J_iconst (x := 1) dJ0_isLatin1_aae02_13 (by decide) ?_
  refine J_goto (tgt := 18) dJ0_isLatin1_aae02_14 (by decide) ?_
  exact J_nret dJ0_isLatin1_aae02_18 rfl rfl ⟨_, rfl, rfl, rfl, rfl⟩
theorem k_J0_length {l : Launch} {I : List Nat} (hI : fr_I I) (v : fr_V) (u : fr_U) (w : Nat) (hw : w < 15) : Con l mJ0_length_8abf5 I v u [.ref (3100 + w)] (QI v u (fun a => a = nI (fr_len.getD w 0))) := by
  refine Con.of (by decide) (Nat.le_of_ble_eq_true rfl) ?_
  show J l mJ0_length_8abf5 I v u 0 [(0, .ref (3100 + w))] [] _
  refine J_aload_n dJ0_length_8abf5_0 rfl 0 rfl ?_
  refine J_svalue dJ0_length_8abf5_1 el_J0_9 hw ?_
  refine J_slen dJ0_length_8abf5_4 hw ?_
  refine J_aload_n dJ0_length_8abf5_5 rfl 0 rfl ?_
  refine J_eVSI (z := mJ0_coder_7d493) (As := []) (rest := [.int (nI (fr_len.getD w 0))]) dJ0_length_8abf5_6 ml_J0_335 ok_J0_coder_7d493 iv_J0_coder_7d493 (by decide) hw rfl rfl rfl (Nat.le_of_ble_eq_true rfl) (k_J0_coder hI v u w hw) ?_
  refine J_ishr dJ0_length_8abf5_9 ?_
  rw [sc_shr0 (by have := len_b w hw; omega)]
  exact J_iret dJ0_length_8abf5_10 rfl ⟨_, rfl, rfl, rfl, rfl⟩
theorem k_J0_checkIndex {l : Launch} {I : List Nat} (hI : fr_I I) (v : fr_V) (u : fr_U) (i n : Int32) (h0 : ¬ i < 0) (h1 : i < n) : Con l mJ0_checkIndex_df160 I v u [.int i, .int n] (QN u (fun a => a = v)) := by
  refine Con.of (by decide) (Nat.le_of_ble_eq_true rfl) ?_
  show J l mJ0_checkIndex_df160 I v u 0 [(0, .int i), (1, .int n)] [] _
  refine J_iload_n dJ0_checkIndex_df160_0 rfl 0 rfl ?_
  refine J_iload_n dJ0_checkIndex_df160_1 rfl 1 rfl ?_
  refine J_ck hI dJ0_checkIndex_df160_2 dJ0_checkIndex_df160_5 el_J0_1053 ml_J0_1059 (by decide) h0 h1 ?_
  refine J_pop dJ0_checkIndex_df160_8 rfl ?_
  exact J_vret dJ0_checkIndex_df160_9 rfl ⟨rfl, rfl, rfl⟩
theorem k_J1_charAt {l : Launch} {I : List Nat} (hI : fr_I I) (v : fr_V) (u : fr_U) (w : Nat) (hw : w < 15) (j : Nat) (hj : j < fr_len.getD w 0) : Con l mJ1_charAt_3b067 I v u [.ref (3300 + w), .int (nI j)] (QI v u (fun a => a = wch w j)) := by
  refine Con.of (by decide) (Nat.le_of_ble_eq_true rfl) ?_
  show J l mJ1_charAt_3b067 I v u 0 [(0, .ref (3300 + w)), (1, .int (nI j))] [] _
  have hL := len_b w hw
  obtain ⟨e1, e2⟩ := wch_b w hw j hj
  refine J_iload_n dJ1_charAt_3b067_0 rfl 1 rfl ?_
  refine J_aload_n dJ1_charAt_3b067_1 rfl 0 rfl ?_
  refine J_slen dJ1_charAt_3b067_2 hw ?_
  refine J_eSN (z := mJ0_checkIndex_df160) (As := [.int (nI j), .int (nI (fr_len.getD w 0))]) (rest := []) (w := v) dJ1_charAt_3b067_3 ml_J1_9 ok_J0_checkIndex_df160 iv_J0_checkIndex_df160 (by decide) rfl rfl (Nat.le_of_ble_eq_true rfl) (k_J0_checkIndex hI v u (nI j) (nI (fr_len.getD w 0)) (nI_pos (by omega)) (nI_lt hj (by omega))) ?_
  refine J_aload_n dJ1_charAt_3b067_6 rfl 0 rfl ?_
  refine J_iload_n dJ1_charAt_3b067_7 rfl 1 rfl ?_
  refine J_sald dJ1_charAt_3b067_8 hw hj (by omega) ?_ (by omega)
  refine J_sipush (x := 255) dJ1_charAt_3b067_9 (by decide) ?_
  refine J_iand dJ1_charAt_3b067_12 ?_
  rw [e1]
  refine J_i2c dJ1_charAt_3b067_13 e2 ?_
  exact J_nret dJ1_charAt_3b067_14 rfl (by rw [← e2]; exact pk_nc _) ⟨_, rfl, rfl, rfl, rfl⟩
theorem k_J0_charAt {l : Launch} {I : List Nat} (hI : fr_I I) (v : fr_V) (u : fr_U) (w : Nat) (hw : w < 15) (j : Nat) (hj : j < fr_len.getD w 0) : Con l mJ0_charAt_5068e I v u [.ref (3100 + w), .int (nI j)] (QI v u (fun a => a = wch w j)) := by
  refine Con.of (by decide) (Nat.le_of_ble_eq_true rfl) ?_
  show J l mJ0_charAt_5068e I v u 0 [(0, .ref (3100 + w)), (1, .int (nI j))] [] _
  obtain ⟨e1, e2⟩ := wch_b w hw j hj
  refine J_aload_n dJ0_charAt_5068e_0 rfl 0 rfl ?_
  refine J_eVSI (z := mJ0_isLatin1_aae02) (As := []) (rest := []) dJ0_charAt_5068e_1 ml_J0_492 ok_J0_isLatin1_aae02 iv_J0_isLatin1_aae02 (by decide) hw rfl rfl rfl (Nat.le_of_ble_eq_true rfl) (k_J0_isLatin1 hI v u w hw) ?_
  refine J_if_eq (tgt := 16) dJ0_charAt_5068e_4 (by decide) (fun c => absurd c (by decide)) (fun c => ?_)
  refine J_aload_n dJ0_charAt_5068e_7 rfl 0 rfl ?_
  refine J_svalue dJ0_charAt_5068e_8 el_J0_9 hw ?_
  refine J_iload_n dJ0_charAt_5068e_11 rfl 1 rfl ?_
  refine J_eSI (z := mJ1_charAt_3b067) (As := [.ref (3300 + w), .int (nI j)]) (rest := []) (x := wch w j) dJ0_charAt_5068e_12 ml_J0_495 ok_J1_charAt_3b067 iv_J1_charAt_3b067 (by decide) rfl rfl (Nat.le_of_ble_eq_true rfl) (k_J1_charAt hI v u w hw j hj) ?_
  exact J_nret dJ0_charAt_5068e_15 rfl (by rw [← e2]; exact pk_nc _) ⟨_, rfl, rfl, rfl, rfl⟩
