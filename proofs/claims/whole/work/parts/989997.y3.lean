theorem sub_r {big ws : List Cond} (ps : List Nat) (hp : ws = ps.filterMap (fun i => big[i]?)) : ∀ w ∈ ws, w ∈ big := by
  rw [hp]
  intro w h
  obtain ⟨i, -, h⟩ := List.mem_filterMap.mp h
  exact List.mem_of_getElem? h
def wEn : String := "LifeRents$Word"
def wEd : String := "LLifeRents$Word;"
def tSt (i : Nat) : Term := .static "LifeRents$Word" (fr_nm.getD i "") "LLifeRents$Word;"
def tTI : List Nat := [88, 94, 97, 100, 103, 106, 109, 112, 115, 118, 121, 124, 127, 130, 133]
def tSg (i : Nat) : Term := .string "LifeRents$Word" (tTI.getD i 0)
def tVa (i : Nat) : Term := .field (tSg i) "java/lang/String" "value" "[B"
def tUs : Term := .static "LifeRents" "USUAL_SETTINGS" "[I"
def tWo : Term := .static "LifeRents" "WORDS" "[LLifeRents$Word;"
def pr1 : List (Nat × Nat) := [(0, 1), (0, 2), (0, 3), (0, 4), (0, 5), (0, 6), (0, 7), (0, 8), (0, 9), (0, 10), (0, 11), (0, 12), (0, 13), (0, 14), (1, 2), (1, 3), (1, 4), (1, 5), (1, 6), (1, 7), (8, 1), (9, 1), (10, 1), (11, 1), (1, 12), (13, 1), (14, 1), (2, 3), (2, 4), (2, 5), (2, 6), (2, 7), (8, 2), (9, 2), (10, 2), (11, 2), (2, 12), (13, 2), (14, 2), (3, 4), (3, 5), (3, 6), (3, 7), (8, 3), (9, 3), (10, 3), (11, 3), (3, 12), (13, 3), (14, 3), (4, 5), (4, 6), (4, 7), (8, 4), (9, 4), (10, 4), (11, 4), (4, 12), (13, 4), (14, 4), (5, 6), (5, 7), (8, 5), (9, 5), (10, 5), (11, 5), (5, 12), (13, 5), (14, 5), (6, 7), (8, 6), (9, 6), (10, 6), (11, 6), (6, 12), (13, 6), (14, 6), (8, 7), (9, 7), (10, 7), (11, 7), (7, 12), (13, 7), (14, 7), (8, 9), (8, 10), (8, 11), (8, 12), (8, 13), (8, 14), (10, 9), (9, 11), (9, 12), (9, 13), (9, 14), (10, 11), (10, 12), (10, 13), (10, 14), (11, 12), (11, 13), (11, 14), (13, 12), (14, 12), (13, 14)]
def pr2 : List (Nat × Nat) := [(0, 1), (0, 2), (0, 3), (0, 4), (0, 5), (0, 6), (0, 7), (0, 8), (0, 9), (0, 10), (0, 11), (0, 12), (0, 13), (0, 14), (1, 2), (1, 3), (1, 4), (1, 5), (1, 6), (1, 7), (8, 1), (9, 1), (10, 1), (11, 1), (1, 12), (13, 1), (14, 1), (2, 3), (2, 4), (2, 5), (2, 6), (2, 7), (8, 2), (9, 2), (10, 2), (11, 2), (2, 12), (13, 2), (14, 2), (3, 4), (3, 5), (3, 6), (3, 7), (8, 3), (9, 3), (10, 3), (11, 3), (3, 12), (13, 3), (14, 3), (4, 5), (4, 6), (4, 7), (8, 4), (9, 4), (10, 4), (11, 4), (4, 12), (13, 4), (14, 4), (5, 6), (5, 7), (8, 5), (9, 5), (10, 5), (11, 5), (5, 12), (13, 5), (14, 5), (6, 7), (8, 6), (9, 6), (10, 6), (11, 6), (6, 12), (13, 6), (14, 6), (8, 7), (9, 7), (10, 7), (11, 7), (7, 12), (13, 7), (14, 7), (8, 9), (8, 10), (8, 11), (8, 12), (8, 13), (8, 14), (10, 9), (9, 11), (9, 12), (9, 13), (9, 14), (10, 11), (10, 12), (10, 13), (10, 14), (11, 12), (11, 13), (11, 14), (13, 12), (14, 12), (13, 14)]
theorem pr1_b : (List.range 15).all (fun i => (List.range 15).all (fun j => i == j || (pr1.contains (i, j) || pr1.contains (j, i)))) = true := by decide +kernel
theorem pr1_ok : ∀ i, i < 15 → ∀ j, j < 15 → i ≠ j → (i, j) ∈ pr1 ∨ (j, i) ∈ pr1 := fun i hi j hj h => by
  have h1 := List.all_eq_true.mp (List.all_eq_true.mp pr1_b i (List.mem_range.mpr hi)) j (List.mem_range.mpr hj)
  rw [Bool.or_eq_true, Bool.or_eq_true, beq_iff_eq, List.contains_iff_mem, List.contains_iff_mem] at h1
  rcases h1 with h1 | h1
  · exact absurd h1 h
  · exact h1
theorem pr2_b : (List.range 15).all (fun i => (List.range 15).all (fun j => i == j || (pr2.contains (i, j) || pr2.contains (j, i)))) = true := by decide +kernel
theorem pr2_ok : ∀ i, i < 15 → ∀ j, j < 15 → i ≠ j → (i, j) ∈ pr2 ∨ (j, i) ∈ pr2 := fun i hi j hj h => by
  have h1 := List.all_eq_true.mp (List.all_eq_true.mp pr2_b i (List.mem_range.mpr hi)) j (List.mem_range.mpr hj)
  rw [Bool.or_eq_true, Bool.or_eq_true, beq_iff_eq, List.contains_iff_mem, List.contains_iff_mem] at h1
  rcases h1 with h1 | h1
  · exact absurd h1 h
  · exact h1
theorem nw_ex : ∀ w ∈ ((List.range 15).map (fun i => Cond.exactly (tSt i) "LifeRents$Word")), w ∈ flatC narrow_1 := sub_r [9, 104, 118, 133, 151, 168, 186, 205, 41, 58, 49, 68, 225, 79, 91] (by decide +kernel)
theorem nw_fl : ∀ w ∈ (fr_F.flatMap (fun q => (List.range 15).map (fun i => Cond.eq (.field (tSt i) q.1 q.2.1 q.2.2.1) (.int (q.2.2.2.getD i 0))))), w ∈ flatC narrow_1 := sub_r [12, 107, 121, 136, 154, 171, 189, 208, 44, 61, 52, 71, 228, 82, 94, 13, 108, 122, 137, 155, 172, 190, 209, 45, 62, 53, 72, 229, 83, 95, 14, 109, 123, 138, 156, 173, 191, 210, 46, 63, 54, 73, 230, 84, 96, 15, 110, 124, 139, 157, 174, 192, 211, 47, 64, 55, 74, 231, 85, 97] (by decide +kernel)
theorem nw_ne : ∀ w ∈ (pr1.map (fun q => Cond.not (.eq (tSt q.1) (tSt q.2)))), w ∈ flatC narrow_1 := sub_r [111, 125, 140, 158, 175, 193, 212, 48, 65, 56, 75, 232, 86, 98, 132, 147, 165, 182, 200, 219, 112, 114, 113, 115, 239, 116, 117, 148, 166, 183, 201, 220, 126, 128, 127, 129, 240, 130, 131, 167, 184, 202, 221, 141, 143, 142, 144, 241, 145, 146, 185, 203, 222, 159, 161, 160, 162, 242, 163, 164, 204, 223, 176, 178, 177, 179, 243, 180, 181, 224, 194, 196, 195, 197, 244, 198, 199, 213, 215, 214, 216, 245, 217, 218, 66, 57, 76, 233, 87, 99, 67, 78, 235, 89, 101, 77, 234, 88, 100, 236, 90, 102, 237, 238, 103] (by decide +kernel)
theorem nw_tx : ∀ w ∈ ((List.range 15).map (fun i => Cond.eq (.field (tSt i) "LifeRents$Word" "text" "Ljava/lang/String;") (tSg i))), w ∈ flatC narrow_1 := sub_r [11, 106, 120, 135, 153, 170, 188, 207, 43, 60, 51, 70, 227, 81, 93] (by decide +kernel)
theorem nw_sx : ∀ w ∈ ((List.range 15).map (fun i => Cond.exactly (tSg i) "java/lang/String")), w ∈ flatC narrow_1 := sub_r [309, 396, 412, 431, 450, 473, 494, 516, 318, 340, 328, 354, 538, 369, 382] (by decide +kernel)
theorem nw_sc : ∀ w ∈ ((List.range 15).map (fun i => Cond.eq (.field (tSg i) "java/lang/String" "coder" "B") (.int 0))), w ∈ flatC narrow_1 := sub_r [310, 397, 413, 432, 451, 474, 495, 517, 319, 341, 329, 355, 539, 370, 383] (by decide +kernel)
theorem nw_sa : ∀ w ∈ ((List.range 15).map (fun i => Cond.arrayOf (tVa i) .byte)), w ∈ flatC narrow_1 := sub_r [311, 398, 414, 433, 452, 475, 496, 518, 320, 342, 330, 356, 540, 371, 384] (by decide +kernel)
theorem nw_sl : ∀ w ∈ ((List.range 15).map (fun i => Cond.eq (.length (tVa i)) (.int (Int32.ofNat (fr_len.getD i 0))))), w ∈ flatC narrow_1 := sub_r [312, 399, 415, 434, 453, 476, 497, 519, 321, 343, 331, 357, 541, 372, 385] (by decide +kernel)
theorem nw_se : ∀ w ∈ ((List.range 15).flatMap (fun i => (List.range (fr_len.getD i 0)).map (fun j => Cond.eq (.elem (tVa i) (.int (Int32.ofNat j))) (.int ((fr_byt.getD i []).getD j 0))))), w ∈ flatC narrow_1 := sub_r [313, 314, 315, 400, 401, 402, 416, 417, 418, 419, 420, 435, 436, 437, 438, 454, 455, 456, 457, 458, 459, 460, 477, 478, 479, 480, 498, 499, 500, 501, 520, 521, 522, 322, 323, 324, 344, 345, 346, 347, 348, 332, 333, 334, 335, 358, 359, 360, 361, 362, 542, 543, 544, 545, 546, 547, 373, 374, 386, 387] (by decide +kernel)
theorem nw_sn : ∀ w ∈ (pr2.map (fun q => Cond.not (.eq (tSg q.1) (tSg q.2)))), w ∈ flatC narrow_1 := sub_r [405, 423, 441, 463, 483, 504, 525, 327, 351, 338, 365, 550, 377, 390, 430, 448, 470, 490, 511, 532, 406, 408, 407, 409, 557, 410, 411, 449, 471, 491, 512, 533, 424, 426, 425, 427, 558, 428, 429, 472, 492, 513, 534, 442, 444, 443, 445, 559, 446, 447, 493, 514, 535, 464, 466, 465, 467, 560, 468, 469, 515, 536, 484, 486, 485, 487, 561, 488, 489, 537, 505, 507, 506, 508, 562, 509, 510, 526, 528, 527, 529, 563, 530, 531, 352, 339, 366, 551, 378, 391, 353, 368, 553, 380, 393, 367, 552, 379, 392, 554, 381, 394, 555, 556, 395] (by decide +kernel)
theorem nw_us : ∀ w ∈ [Cond.arrayOf tUs .int, Cond.eq (.length tUs) (.int (Int32.ofNat 4))], w ∈ flatC narrow_1 := sub_r [3, 4] (by decide +kernel)
theorem nw_ue : ∀ w ∈ ((List.range 4).map (fun j => Cond.eq (.elem tUs (.int (Int32.ofNat j))) (.int (fr_us j)))), w ∈ flatC narrow_1 := sub_r [5, 6, 7, 8] (by decide +kernel)
theorem nw_wo : ∀ w ∈ [Cond.arrayOf tWo (.object "LifeRents$Word"), Cond.eq (.length tWo) (.int (Int32.ofNat 15))], w ∈ flatC narrow_1 := sub_r [18, 19] (by decide +kernel)
theorem nw_we : ∀ w ∈ ((List.range 15).map (fun i => Cond.eq (.elem tWo (.int (Int32.ofNat i))) (tSt i))), w ∈ flatC narrow_1 := sub_r [21, 22, 23, 24, 25, 26, 27, 28, 29, 30, 31, 32, 33, 34, 35] (by decide +kernel)
theorem nw_ot : ∀ w ∈ [Cond.eq (.static "java/lang/String" "COMPACT_STRINGS" "Z") (.int 1), Cond.isRef (.static "jdk/internal/util/Preconditions" "SIOOBE_FORMATTER" "Ljava/util/function/BiFunction;"), Cond.isRef (.static Bundle.tN "UNASSIGNED_STACK" Bundle.steD), Cond.isRef (.static Bundle.tN "SUPPRESSED_SENTINEL" Bundle.listD), Cond.exactly (.string RX10 266) "java/lang/String", Cond.exactly (.string RX10 273) "java/lang/String", Cond.not (.castable xNE xIO)], w ∈ flatC narrow_1 := sub_r [36, 37, 149, 150, 272, 288, 258] (by decide +kernel)
theorem tw_ls : ∀ w ∈ ((List.range 15).map (fun i => Cond.laysStatic "LifeRents$Word" (fr_nm.getD i "") "LLifeRents$Word;")), w ∈ lw_tbl := sub_r [478, 652, 679, 685, 1634, 1635, 1636, 1637, 589, 593, 591, 598, 1638, 604, 614] (by decide +kernel)
def twL : List Cond := [Cond.initialized "LifeRents$Word", Cond.laysStatic "LifeRents" "USUAL_SETTINGS" "[I", Cond.laysStatic "LifeRents" "WORDS" "[LLifeRents$Word;", Cond.initialized "LifeRents", Cond.laysStatic "java/lang/String" "COMPACT_STRINGS" "Z", Cond.initialized "java/lang/String", Cond.laysStatic "jdk/internal/util/Preconditions" "SIOOBE_FORMATTER" "Ljava/util/function/BiFunction;", Cond.initialized "jdk/internal/util/Preconditions", Cond.laysStatic Bundle.tN "UNASSIGNED_STACK" Bundle.steD, Cond.laysStatic Bundle.tN "SUPPRESSED_SENTINEL" Bundle.listD, Cond.initialized Bundle.tN, Cond.stringRef RX10 266 "no such life", Cond.stringRef RX10 273 "known to be dead", wD "java/lang/RuntimeException", wD "java/lang/Exception", wD "java/lang/Throwable", Cond.castable xIO xIO, Cond.castable xNE xNE, Cond.methodLinkNest "LifeRents" 9 ⟨"LifeRents$Reader", "<init>", "()V"⟩ "LifeRents", Cond.fieldLinkNest "LifeRents$Acts" 17 "LifeRents" "USUAL_SETTINGS" "[I" "LifeRents", Cond.methodLinkNest "LifeRents$Acts" 24 ⟨"LifeRents$Line", "<init>", "()V"⟩ "LifeRents", Cond.methodLinkNest "LifeRents" 28 ⟨"LifeRents$People", "<init>", "()V"⟩ "LifeRents", Cond.methodLinkNest "LifeRents" 62 ⟨"LifeRents$Buyer", "<init>", "()V"⟩ "LifeRents", Cond.fieldLinkNest "LifeRents$Reader" 104 "LifeRents" "WORDS" "[LLifeRents$Word;" "LifeRents", Cond.methodLinkNest "LifeRents$Tables" 95 ⟨"LifeRents", "groupOf", "(I)I"⟩ "LifeRents", Cond.arrayOver (.object RX4), Cond.arrayOver (.object RX7), Cond.arrayOver (.array .int)]
theorem tw_ot : ∀ w ∈ twL, w ∈ lw_tbl := sub_r [91, 178, 495, 78, 509, 92, 525, 94, 1080, 1082, 97, 1093, 1129, 1057, 1059, 1061, 1055, 1122, 112, 177, 180, 242, 385, 494, 952, 176, 312, 356] (by decide +kernel)
section ST
variable {s : State} {args : Array Value}
theorem va_En.c {E d : String} {nm : List String} {F : List (String × String × String × List Int32)} {ad ad' : Nat → Nat} {A : Nat → Prop} {U : State} {H : Heap} (h : va_En E d nm F ad A U H) (e : ∀ i, i < nm.length → ad' i = ad i) : va_En E d nm F ad' A U H :=
  ⟨fun i hi => by rw [e i hi]; exact h.1 i hi, fun i j hi hj q => h.2 i j hi hj (by rw [← e i hi, ← e j hj]; exact q)⟩
theorem vk_S.c {N : Nat} {len : List Nat} {byt : List (List Int32)} {adK adK' adV adV' : Nat → Nat} {A : Nat → Prop} {U : State} {H : Heap} (h : vk_S N len byt adK adV A U H) (e : ∀ i, i < N → adK' i = adK i) (e2 : ∀ i, i < N → adV' i = adV i) : vk_S N len byt adK' adV' A U H :=
  ⟨fun i hi => by rw [e i hi, e2 i hi]; exact h.1 i hi, fun i j hi hj q => h.2 i j hi hj (by rw [← e i hi, ← e j hj]; exact q)⟩
theorem va_T.c {ty : FieldType} {t N : Nat} {f g : Nat → Value} {A : Nat → Prop} {U : State} {H : Heap} (h : va_T ty t N f A U H) (e : ∀ i, i < N → g i = f i) : va_T ty t N g A U H := by
  obtain ⟨cell, h1, h2, h3, h4, h5, h6, h7⟩ := h
  exact ⟨cell, h1, h2, h3, h4, h5, fun j hj => by rw [e j hj]; exact h6 j hj, h7⟩
theorem m_15 {f : Nat → Cond} {i : Nat} (hi : i < 15) : f i ∈ (List.range 15).map f := List.mem_map.mpr ⟨i, List.mem_range.mpr hi, rfl⟩
/-- the constants' addresses -/
theorem st_con (hts : ∀ w ∈ lw_tbl, w.before args s = true) (hs : ∀ w ∈ flatC narrow_1, w.before args s = true) (A : Nat → Prop) (hA : ∀ a : Nat, a < s.heap.size → ¬ A a) : ∃ (ad adK adV : Nat → Nat) (t1 t2 : Nat), va_En "LifeRents$Word" "LLifeRents$Word;" fr_nm fr_F ad A s s.heap ∧ va_Ef 15 "LifeRents$Word" "text" "Ljava/lang/String;" (fun i => .ref (adK i)) ad A s s.heap ∧ va_Z "LifeRents" "USUAL_SETTINGS" "[I" (.ref t1) A s s.heap ∧ va_T .int t1 4 (fun j => .int (fr_us j)) A s s.heap ∧ va_Z "LifeRents" "WORDS" "[LLifeRents$Word;" (.ref t2) A s s.heap ∧ va_T (.object "LifeRents$Word") t2 15 (fun j => .ref (ad j)) A s s.heap ∧ vk_S 15 fr_len fr_byt adK adV A s s.heap := by
  have tw : ∀ w ∈ twL, w.before args s = true := fun w h => hts w (tw_ot w h)
  obtain ⟨ad, h1, h2⟩ := va_Enof2 (args := args) (s := s) (E := "LifeRents$Word") (d := "LLifeRents$Word;") (nm := fr_nm) (F := fr_F) (A := A) (fun i hi => hts _ (tw_ls _ (m_15 (f := fun i => Cond.laysStatic "LifeRents$Word" (fr_nm.getD i "") "LLifeRents$Word;") hi))) (tw _ (by simp [twL])) (fun i hi => hs _ (nw_ex _ (m_15 (f := fun i => Cond.exactly (tSt i) "LifeRents$Word") hi)))
    (fun q hq i hi => hs _ (nw_fl _ (List.mem_flatMap.mpr ⟨q, hq, m_15 (f := fun i => Cond.eq (.field (tSt i) q.1 q.2.1 q.2.2.1) (.int (q.2.2.2.getD i 0))) hi⟩)))
    (fun i j hi hj hij => by
      rcases pr1_ok i hi j hj hij with q | q
      · exact Or.inl (hs _ (nw_ne _ (List.mem_map.mpr ⟨(i, j), q, rfl⟩)))
      · exact Or.inr (hs _ (nw_ne _ (List.mem_map.mpr ⟨(j, i), q, rfl⟩)))) hA
  obtain ⟨adK, adV, h3, h4⟩ := vk_Sof (args := args) (s := s) (N := 15) (tm := tSg) (len := fr_len) (byt := fr_byt) (A := A) (by decide) (fun i hi => hs _ (nw_sx _ (m_15 (f := fun i => Cond.exactly (tSg i) "java/lang/String") hi))) (fun i hi => hs _ (nw_sc _ (m_15 (f := fun i => Cond.eq (.field (tSg i) "java/lang/String" "coder" "B") (.int 0)) hi))) (fun i hi => hs _ (nw_sa _ (m_15 (f := fun i => Cond.arrayOf (tVa i) .byte) hi))) (fun i hi => hs _ (nw_sl _ (m_15 (f := fun i => Cond.eq (.length (tVa i)) (.int (Int32.ofNat (fr_len.getD i 0)))) hi)))
    (fun i hi j hj => hs _ (nw_se _ (List.mem_flatMap.mpr ⟨i, List.mem_range.mpr hi, List.mem_map.mpr ⟨j, List.mem_range.mpr hj, rfl⟩⟩)))
    (fun i j hi hj hij => by
      rcases pr2_ok i hi j hj hij with q | q
      · exact Or.inl (hs _ (nw_sn _ (List.mem_map.mpr ⟨(i, j), q, rfl⟩)))
      · exact Or.inr (hs _ (nw_sn _ (List.mem_map.mpr ⟨(j, i), q, rfl⟩)))) hA
  obtain ⟨t1, h5, h6⟩ := va_Tof (args := args) (s := s) (tm := tUs) (ty := .int) (N := 4) (f := fun j => .int (fr_us j)) (A := A) (by decide) (hs (Cond.arrayOf tUs .int) (nw_us _ (by simp))) (va_eqv (hs (Cond.eq (.length tUs) (.int (Int32.ofNat 4))) (nw_us _ (by simp))) rfl) (fun j hj => va_eqv (hs _ (nw_ue _ (List.mem_map.mpr ⟨j, List.mem_range.mpr hj, rfl⟩))) rfl) hA
  obtain ⟨t2, h7, h8⟩ := va_Tof (args := args) (s := s) (tm := tWo) (ty := .object "LifeRents$Word") (N := 15) (f := fun j => .ref (ad j)) (A := A) (by decide) (hs (Cond.arrayOf tWo (.object "LifeRents$Word")) (nw_wo _ (by simp))) (va_eqv (hs (Cond.eq (.length tWo) (.int (Int32.ofNat 15))) (nw_wo _ (by simp))) rfl) (fun j hj => va_eqv (hs _ (nw_we _ (m_15 (f := fun i => Cond.eq (.elem tWo (.int (Int32.ofNat i))) (tSt i)) hj))) (h2 j hj)) hA
  refine ⟨ad, adK, adV, t1, t2, h1, va_Efof (E := "LifeRents$Word") (d0 := "LLifeRents$Word;") (nm := fr_nm) (tm := tSg) h2 (fun i hi => hs _ (nw_tx _ (m_15 (f := fun i => Cond.eq (.field (tSt i) "LifeRents$Word" "text" "Ljava/lang/String;") (tSg i)) hi))) h4 hA, va_Zof (tw _ (by simp [twL])) (tw _ (by simp [twL])) h5 hA, h6, va_Zof (tw _ (by simp [twL])) (tw _ (by simp [twL])) h7 hA, h8, h3⟩
theorem st_cls (hts : ∀ w ∈ lw_tbl, w.before args s = true) : ∃ (D : va_G) (cA : Nat → ClassId), va_K D fr_cls (fr_tys cA) s := by
  have hg : ∀ w ∈ gt, w.before args s = true := fun w h => hts w (List.mem_filter.mp h).1
  obtain ⟨c0, i0, h0⟩ := u_known (C := RX0) (T := TX0) (N := 3) hts inX0 (hg _ kn_X0)
  obtain ⟨c1, i1, h1⟩ := u_known (C := RX1) (T := TX1) (N := 10) hts inX1 (hg _ kn_X1)
  obtain ⟨c2, i2, h2⟩ := u_known (C := RX2) (T := TX2) (N := 11) hts inX2 (hg _ kn_X2)
  obtain ⟨c3, i3, h3⟩ := u_known (C := RX3) (T := TX3) (N := 11) hts inX3 (hg _ kn_X3)
  obtain ⟨c4, i4, h4⟩ := u_known (C := RX4) (T := TX4) (N := 8) hts inX4 (hg _ kn_X4)
  obtain ⟨c5, i5, h5⟩ := u_known (C := RX5) (T := TX5) (N := 3) hts inX5 (hg _ kn_X5)
  obtain ⟨c6, i6, h6⟩ := u_known (C := RX6) (T := TX6) (N := 16) hts inX6 (hg _ kn_X6)
  obtain ⟨c7, i7, h7⟩ := u_known (C := RX7) (T := TX7) (N := 7) hts inX7 (hg _ kn_X7)
  obtain ⟨c8, i8, h8⟩ := u_known (C := RX8) (T := TX8) (N := 7) hts inX8 (hg _ kn_X8)
  obtain ⟨c10, i10, h10⟩ := u_known (C := RX10) (T := TX10) (N := 10) hts inX10 (hg _ kn_X10)
  obtain ⟨c11, i11, h11⟩ := u_known (C := RX11) (T := TX11) (N := 58) hts inX11 (hg _ kn_X11)
  have tw : ∀ w ∈ twL, w.before args s = true := fun w h => hts w (tw_ot w h)
  obtain ⟨a0, k0, p0, e00, e01, e02⟩ := Cond.arrayClass_spec (hg _ aw_int)
  obtain ⟨a1, k1, p1, e10, e11, e12⟩ := Cond.arrayClass_spec (hg _ aw_boolean)
  obtain ⟨a2, k2, p2, e20, e21, e22⟩ := Cond.arrayClass_spec (hg _ aw_long)
  obtain ⟨p3, a3, k3, e30, -, e31, e32, e33⟩ := Cond.arrayOver_spec (tw (Cond.arrayOver (.object RX4)) (by simp [twL]))
  obtain ⟨p4, a4, k4, e40, -, e41, e42, e43⟩ := Cond.arrayOver_spec (tw (Cond.arrayOver (.object RX7)) (by simp [twL]))
  obtain ⟨p5, a5, k5, e50, -, e51, e52, e53⟩ := arrayOverA_spec (t := .int) (tw (Cond.arrayOver (.array .int)) (by simp [twL]))
  have ao : ∀ (a : ClassId) (k : Class) (p : ClassId) (ty : FieldType), s.vm.classes[a]? = some k → k.kind = .array p ty → ArrOfT s a ty := fun a k p ty h h' n z => ⟨(fun q hq => by cases hq), k, h, p, h'⟩
  refine ⟨(fun c => ([c0, c1, c2, c3, c4, c5, c6, c7, c8, c5, c10, c11] : List ClassId).getD c c0, fun c => ([i0, i1, i2, i3, i4, i5, i6, i7, i8, i5, i10, i11] : List (Nat → Nat)).getD c i0), fun i => ([a0, a1, a2, a3, a4, a5] : List ClassId).getD i a0, fun c q hq => ?_, fun k q hq => ?_⟩
  · match c, hq with
    | 0, hq => cases hq; exact h0
    | 1, hq => cases hq; exact h1
    | 2, hq => cases hq; exact h2
    | 3, hq => cases hq; exact h3
    | 4, hq => cases hq; exact h4
    | 5, hq => cases hq; exact h5
    | 6, hq => cases hq; exact h6
    | 7, hq => cases hq; exact h7
    | 8, hq => cases hq; exact h8
    | 9, hq => cases hq; exact h5
    | 10, hq => cases hq; exact h10
    | 11, hq => cases hq; exact h11
    | n + 12, hq => cases hq
  · match k, hq with
    | 0, hq => cases hq; exact ⟨ao _ _ _ _ e01 e02, e00⟩
    | 1, hq => cases hq; exact ⟨ao _ _ _ _ e11 e12, e10⟩
    | 2, hq => cases hq; exact ⟨ao _ _ _ _ e21 e22, e20⟩
    | 3, hq => cases hq; exact ⟨ao _ _ _ _ e31 e32, k3, p3, e31, e32, e30, e33⟩
    | 4, hq => cases hq; exact ⟨ao _ _ _ _ e41 e42, k4, p4, e41, e42, e40, e43⟩
    | 5, hq => cases hq; exact ⟨ao _ _ _ _ e51 e52, e53⟩
    | n + 6, hq => cases hq
theorem st_rX (hts : ∀ w ∈ lw_tbl, w.before args s = true) (hs : ∀ w ∈ flatC narrow_1, w.before args s = true) (A : Nat → Prop) (hA : ∀ a : Nat, a < s.heap.size → ¬ A a) : rX A s s.heap := by
  have tw : ∀ w ∈ twL, w.before args s = true := fun w h => hts w (tw_ot w h)
  obtain ⟨a1, -, -, -, e1, -⟩ := Cond.exactly_spec (hs (Cond.exactly (.string RX10 266) "java/lang/String") (nw_ot _ (by simp)))
  obtain ⟨a2, -, -, -, e2, -⟩ := Cond.exactly_spec (hs (Cond.exactly (.string RX10 273) "java/lang/String") (nw_ot _ (by simp)))
  exact ⟨vx_Zqof (tw _ (by simp [twL])) (tw _ (by simp [twL])) (hs _ (nw_ot _ (by simp))) hA, vx_Zqof (tw _ (by simp [twL])) (tw _ (by simp [twL])) (hs _ (nw_ot _ (by simp))) hA, ⟨a1, vk_R.of (tw (Cond.stringRef RX10 266 "no such life") (by simp [twL])) e1⟩, ⟨a2, vk_R.of (tw (Cond.stringRef RX10 273 "known to be dead") (by simp [twL])) e2⟩, va_Nw.of rfl (tw (wD "java/lang/RuntimeException") (by simp [twL])), va_Nw.of rfl (tw (wD "java/lang/Exception") (by simp [twL])), va_Nw.of rfl (tw (wD "java/lang/Throwable") (by simp [twL])), va_Nw.of rfl (tw (Cond.castable xIO xIO) (by simp [twL])), va_Nw.of rfl (tw (Cond.castable xNE xNE) (by simp [twL])), va_Nc.of (hs _ (nw_ot _ (by simp)))⟩
theorem st_N (hts : ∀ w ∈ lw_tbl, w.before args s = true) : fr_N s := by
  have tw : ∀ w ∈ twL, w.before args s = true := fun w h => hts w (tw_ot w h)
  exact ⟨va_Nw.of rfl (tw _ (by simp [twL])), va_Nw.of rfl (tw _ (by simp [twL])), va_Nw.of rfl (tw _ (by simp [twL])), va_Nw.of rfl (tw _ (by simp [twL])), va_Nw.of rfl (tw _ (by simp [twL])), va_Nw.of rfl (tw _ (by simp [twL])), va_Nw.of rfl (tw _ (by simp [twL]))⟩
end ST
def tAll : List Nat := 1000 :: (C10 ++ (1100 :: (C11 ++ [950])))
theorem tAll_ok : ∀ i, i < 129 → tAll.getD i 0 < 3000 ∧ tAll.idxOf (tAll.getD i 0) = i := by decide +kernel
theorem tAll_len : tAll.length = 129 := by decide +kernel
theorem whole_start {p : Program} {e : Env} {s : State} {m : MethodId} {below : List Frame} {meth : Method} {c : Code} (l : Launch) (hl : l.stackTraces = false) (hnm : meth.name = "law") {b L : Nat} {xs : Nat → Int32} (hL : L ≤ 3072) (C0 : lw_At p s m meth c b L xs) : W p l e room_1 s m #[Value.ref b] below meth c s.heap [] 0 0 (lw_Z below #[Value.ref b] s) (entryFrame m ([Value.ref b] : List Value).toArray 8) := by
  obtain ⟨hx, hb, hr, hml, hown, hts, hX, hbl, hlk, hgv⟩ := C0
  have hgv2 : narrow_1.before #[Value.ref b] s = true := by
    rw [Cond.before_and, Bool.and_eq_true] at hgv
    exact hgv.2
  have hs : ∀ w ∈ flatC narrow_1, w.before #[Value.ref b] s = true := flat_of_before _ hgv2
  have hA : ∀ a : Nat, a < s.heap.size → ¬ (fun q => s.heap.size ≤ q) a := fun a h q => Nat.not_lt.mpr q h
  obtain ⟨ad, adK, adV, t1, t2, q1, q2, q3, q4, q5, q6, q7⟩ := st_con hts hs (fun q => s.heap.size ≤ q) hA
  obtain ⟨D, cA, hK⟩ := st_cls hts
  have hrx := st_rX hts hs (fun q => s.heap.size ≤ q) hA
  have tw : ∀ w ∈ twL, w.before #[Value.ref b] s = true := fun w h => hts w (tw_ot w h)
  obtain ⟨L9, hL9⟩ : ∃ L9 : Nat → Nat, L9 = fun q => if q < 3000 then s.heap.size + tAll.idxOf q else if q = 5000 then b else if q < 3100 then ad (q - 3000) else if q < 3200 then adK (q - 3100) else if q = 3200 then t1 else if q = 3201 then t2 else adV (q - 3300) := ⟨_, rfl⟩
  have l0 : ∀ q, q < 3000 → L9 q = s.heap.size + tAll.idxOf q := fun q h => by rw [hL9]; exact if_pos h
  have l5 : L9 5000 = b := by rw [hL9]; rfl
  have la : ∀ i, i < 15 → L9 (3000 + i) = ad i := fun i h => by
    rw [hL9]
    show (if 3000 + i < 3000 then _ else _) = _
    rw [if_neg (by omega), if_neg (by omega), if_pos (by omega), show 3000 + i - 3000 = i by omega]
  have lk : ∀ i, i < 15 → L9 (3100 + i) = adK i := fun i h => by
    rw [hL9]
    show (if 3100 + i < 3000 then _ else _) = _
    rw [if_neg (by omega), if_neg (by omega), if_neg (by omega), if_pos (by omega), show 3100 + i - 3100 = i by omega]
  have lv : ∀ i, i < 15 → L9 (3300 + i) = adV i := fun i h => by
    rw [hL9]
    show (if 3300 + i < 3000 then _ else _) = _
    rw [if_neg (by omega), if_neg (by omega), if_neg (by omega), if_neg (by omega), if_neg (by omega), if_neg (by omega), show 3300 + i - 3300 = i by omega]
  have l1 : L9 3200 = t1 := by rw [hL9]; rfl
  have l2 : L9 3201 = t2 := by rw [hL9]; rfl
  have hFX : fr_X L9 (fun q => s.heap.size ≤ q) s s.heap := by
    refine ⟨q1.c la, fun i hi => ?_, by rw [l1]; exact q3, by rw [l1]; exact q4, by rw [l2]; exact q5, by rw [l2]; exact q6.c (fun i hi => by rw [la i hi]), q7.c lk lv, va_Zof (tw _ (by simp [twL])) (tw _ (by simp [twL])) (va_eqv (hs _ (nw_ot (Cond.eq (.static "java/lang/String" "COMPACT_STRINGS" "Z") (.int 1)) (by simp))) rfl) hA, va_Zqof (tw _ (by simp [twL])) (tw _ (by simp [twL])) (hs _ (nw_ot _ (by simp))) hA, st_N hts⟩
    show va_OF _ _ _ (.ref (L9 (3100 + i))) (L9 (3000 + i)) _ _ _
    rw [la i hi, lk i hi]
    exact q2 i hi
  have C : KC L9 cA D (fun q => s.heap.size ≤ q) mLaw p s m #[Value.ref b] meth c := ⟨hx, hb, hr, hml, hown, hlk, fun w hw => hts w (List.mem_filter.mp hw).1, hFX, hK, hnm, fun q h => h, va_AO.of (tw (Cond.arrayOver (.object RX4)) (by simp [twL])), va_AO.of (tw (Cond.arrayOver (.object RX7)) (by simp [twL])), tw (Cond.arrayOver (.array .int)) (by simp [twL])⟩
  have hlv := lv_entry [Value.ref b] (n := 8) (Nat.le_of_ble_eq_true rfl)
  rw [lg_entry_eq]
  have hlv2 : lv_has ((lg_sl [Value.ref b] ++ List.replicate (8 - (lg_sl [Value.ref b]).length) Slot.unset).toArray) 8 (([(0, .ref 5000)] : List (Nat × Value)).map (cvp L9)) := by
    have e9 : ([(0, .ref 5000)] : List (Nat × Value)).map (cvp L9) = lv_args 0 [Value.ref b] := by simp [cvp, cv, l5, lv_args]
    rw [e9]
    exact hlv
  refine law_head hl hrx hX hbl hL C l5 s.heap [] _ (fun k q h => by simp [mwK] at h) ⟨fun i j p q h => by simp [mwK] at h, fun k q h => by simp [mwK] at h⟩ va_S.rf (fun i k h9 => ⟨?_, Or.inl rfl⟩) hlv2
  have hi : i < 129 := by
    have := (List.getElem?_eq_some_iff.mp (show tAll[i]? = some k from h9)).1
    rw [tAll_len] at this
    exact this
  have h8 := tAll_ok i hi
  have hk : tAll.getD i 0 = k := by rw [List.getD_eq_getElem?_getD, show tAll[i]? = some k from h9]; rfl
  rw [hk] at h8
  rw [l0 k h8.1, h8.2]
  rfl
set_option maxHeartbeats 4000000 in
theorem lw_walk (l : Launch) (hl : l.stackTraces = false) (b : Addr) (xs : List Int32) : MetFree l x (headSpec (Jvm.Cond.code x code maxLocals ret :: tables_1) room_1) (lw_P b xs) (fun _ _ _ _ _ => True) lw_Q := by
  refine MetFree.of_bodyS (code := code) (maxLocals := maxLocals) (ret := ret) (by decide) ?_ ?_
  · intro args s m h hn
    obtain ⟨meth, c, h1, h2, h3, h4, h5, h6, -, -⟩ := Cond.code_spec hn (atoms_spec (ws := Jvm.Cond.code x code maxLocals ret :: tables_1) h _ List.mem_cons_self)
    exact ⟨meth, c, h1, h2, h3, h4, h5, h6⟩
  · intro p e s m args below meth c s₁ B hml0 hP _
    obtain ⟨rfl, hx, hbd, hgv⟩ := hP
    obtain ⟨scr, harrAt, hlist, hof, hsmall⟩ := hx
    obtain ⟨hcb, hkn, -, -⟩ := State.arrayAt?_spec harrAt
    have hown : s.vm.findClass R_law = some m.cls := findClass_of_methodNamed B.named
    have hts0 : ∀ c ∈ (Jvm.Cond.code x code maxLocals ret :: tables_1), c.before #[Value.ref b] s = true := atoms_spec (ws := Jvm.Cond.code x code maxLocals ret :: tables_1) B.pre
    have hts : ∀ w ∈ lw_tbl, w.before #[Value.ref b] s = true := k2_hts_sels lw_privs (fun w hw => hts0 w (List.mem_cons_of_mem _ hw)) lw_privs_ok
    have hml : c.maxLocals = 8 := B.maxLocals_eq (hts0 _ List.mem_cons_self)
    have X₀ : Stand p l e room_1 s m #[Value.ref b] below meth c s₁ [] 0 0 := Stand.of_body B
    have hh0 : s₁.heap = s.heap := by rw [B.state]; rfl
    have hsz : scr.slots.size = xs.length := by rw [← Array.length_toList, hlist, List.length_map]
    have hval : ∀ j : Nat, j < xs.length → scr.slots[j]? = some (.int (xs.getD j 0)) := fun j hj => by
      rw [← Array.getElem?_toList, hlist]
      simp [hj]
    have hbl : b < s.heap.size := (Array.getElem?_eq_some_iff.mp hcb).1
    have hX : va_X b xs.length (fun j => xs.getD j 0) s s.heap := ⟨scr, hcb, hof, hkn, hsz, hval⟩
    have K : W p l e room_1 s m #[Value.ref b] below meth c s₁.heap [] 0 0 (lw_Z below #[Value.ref b] s) (entryFrame m ([Value.ref b] : List Value).toArray 8) := by
      rw [hh0]
      exact whole_start l hl (name_of_methodNamed B.named B.method).1 hbd ⟨B.exec, B.bytes, B.returns, hml, hown, hts, hX, hbl, B.notSynchronized, hgv⟩
    obtain ⟨t, a1, o, b1, b2, b3⟩ := K s₁ rfl X₀
    exact ⟨t, o, a1, b1, b2, b3⟩
theorem lw_pre_spec {args : Array Value} {s : State} (h : (Jvm.Cond.and given_1 narrow_1).before args s = true) (hr : rest_1_c.before args s = true) : ∃ (b : Addr) (xs : List Int32), lw_P b xs args s := by
  have hs := flat_of_before _ h
  have hq := flat_of_before _ hr
  have hc : (Cond.count 1).before args s = true := hs _ (by decide +kernel)
  have harr : (Cond.arrayOf (.arg 0) .int).before args s = true := hs _ (by decide +kernel)
  have hle : (Cond.le (.length (.arg 0)) (.int 3072)).before args s = true := hs _ (by decide +kernel)
  have hlen : (Cond.isInt (.length (.arg 0))).before args s = true := hq _ (by decide +kernel)
  have hall : (Cond.all (.arg 0) (.isInt (.elem (.arg 0) (.index 0)))).before args s = true := hq _ (by decide +kernel)
  obtain ⟨b, xs, hb, hx⟩ := State.ints_of_pre rfl harr hlen hall
  have hsm : xs.length < 2 ^ 31 := hx.choose_spec.2.2.2
  have hev : (Term.length (.arg 0)).eval args s none [] s = some (.int xs.length.toInt32) := hx.length_eval hb
  have hv := Cond.le_ints hev (show (Term.int 3072).eval args s none [] s = some (.int 3072) from rfl)
  have hd : xs.length.toInt32 ≤ 3072 := by
    simpa [Cond.before, Cond.holds, hv] using hle
  have hN : xs.length ≤ 3072 := (Int32.ofNat_le_ofNat hsm (by decide)).mp (show Int32.ofNat xs.length ≤ Int32.ofNat 3072 from hd)
  exact ⟨b, xs, Cond.one_arg hc (show args[0]? = some (.ref b) from hb), hx, hN, h⟩
theorem lw_comes (l : Launch) (hl : l.stackTraces = false) : Comes l x (Jvm.Cond.code x code maxLocals ret :: tables_1) room_1 (fun tb e args s => Calls_1 tb e args s ∧ rest_1 tb e args s ∧ Pre_1 tb e args s)
    (fun _ _ args s o t => lw_Q args s o t) := by
  intro p e ha hc hk s m args below hf hfit hheap happ hpre
  obtain ⟨b, xs, hP⟩ := lw_pre_spec hpre.2.2 hpre.2.1
  obtain ⟨k, o, h1, h2, h3, hQ⟩ := lw_walk l hl b xs p e ha hc hk s m args below hf ((Spec.applies_iff_loose hf).mp happ).1 hP trivial
  exact ⟨k, o, h1, h2, h3, hQ⟩
theorem lw_frame {s t : State} {o : Outcome} {args : Array Value} (h : Framed s o t [] 601024 7293034) :
    Framed s o t (fieldLocs frame_1_writes args s ++ arrayLocs frame_1_arrays args s ++ staticLocs frame_1_statics s) 601024 7293034 := h
theorem lw_limb (L : Cond) (hL : ∀ (args : Array Value) (s t : State), L.after args s (.returned (some (.int 1))) t = true) :
    ArmFor flags0 classFile x code maxLocals ret World_1 tables_1 room_1 Calls_1 rest_1 Pre_1
      (fun tb e a s o t => postC L tb e a s o t ∧ Framed s o t (fieldLocs frame_1_writes a s ++ arrayLocs frame_1_arrays a s ++ staticLocs frame_1_statics s) 601024 7293034) := by
  intro l hfl _ _ p e ha hc hk s m args below hf hfit hheap happ hpre
  obtain ⟨k, o, h1, h2, h3, rfl, hF⟩ := lw_comes l (by unfold Launch.stackTraces; rw [hfl]; decide) p e ha hc hk s m args below hf hfit hheap happ hpre
  exact ⟨k, _, h1, h2, h3, hL args s _, lw_frame hF⟩
theorem i_vc : Claimed_1_1 ∧ Claimed_1_2 := ⟨lw_limb limb_1_1 (fun args s t => by simp [limb_1_1, Cond.after, Cond.holds, Cond.value]), lw_limb limb_1_2 (fun args s t => Cond.after_iff.mpr (by
  first | (rw [show limb_1_2 = Cond.eq .result (.int 1) from rfl, Cond.eq_ints (x := 1) (y := 1) rfl rfl]; simp; done) | (simp [limb_1_2, Cond.value, Term.eval]; done)))⟩
