def fr_st : List Nat := [10, 20, 11, 21, 13, 23, 400, 401, 402, 403, 404, 405, 406, 407, 408, 409, 410, 411, 412, 413, 414, 415, 416, 417, 418, 419, 420, 421, 422, 423, 430, 431, 432, 433, 434, 435, 436, 437, 438, 439, 440, 441, 442, 443, 444, 445, 446, 447, 448, 449, 450, 451, 452, 453, 100, 102, 103, 104, 105, 108, 109, 110, 200, 201, 202, 203, 205, 210, 300, 302, 304, 305, 306, 307, 308, 310, 500, 501, 502, 600, 601, 900, 903, 906, 907, 910, 911, 912, 913, 950, 1000, 1010, 1100, 1101, 1106, 1107, 1109, 1110, 1111, 1112, 1113, 1114, 1116, 1118, 1119, 1120, 1121, 1122, 1123, 1131, 1132, 1133, 1134, 1135, 1136, 1137, 1138, 1141, 1142, 1145, 1146, 1147, 1148, 1152, 1154, 1155, 1156, 1157, 1158]
def fr_I (I : List Nat) : Prop := ∀ k ∈ fr_st, k ∈ I
theorem i10 {I : List Nat} (h : fr_I I) : 10 ∈ I := h 10 (by decide)
theorem i20 {I : List Nat} (h : fr_I I) : 20 ∈ I := h 20 (by decide)
theorem i11 {I : List Nat} (h : fr_I I) : 11 ∈ I := h 11 (by decide)
theorem i21 {I : List Nat} (h : fr_I I) : 21 ∈ I := h 21 (by decide)
theorem i13 {I : List Nat} (h : fr_I I) : 13 ∈ I := h 13 (by decide)
theorem i23 {I : List Nat} (h : fr_I I) : 23 ∈ I := h 23 (by decide)
theorem i400 {I : List Nat} (h : fr_I I) : 400 ∈ I := h 400 (by decide)
theorem i401 {I : List Nat} (h : fr_I I) : 401 ∈ I := h 401 (by decide)
theorem i402 {I : List Nat} (h : fr_I I) : 402 ∈ I := h 402 (by decide)
theorem i403 {I : List Nat} (h : fr_I I) : 403 ∈ I := h 403 (by decide)
theorem i404 {I : List Nat} (h : fr_I I) : 404 ∈ I := h 404 (by decide)
theorem i405 {I : List Nat} (h : fr_I I) : 405 ∈ I := h 405 (by decide)
theorem i406 {I : List Nat} (h : fr_I I) : 406 ∈ I := h 406 (by decide)
theorem i407 {I : List Nat} (h : fr_I I) : 407 ∈ I := h 407 (by decide)
theorem i408 {I : List Nat} (h : fr_I I) : 408 ∈ I := h 408 (by decide)
theorem i409 {I : List Nat} (h : fr_I I) : 409 ∈ I := h 409 (by decide)
theorem i410 {I : List Nat} (h : fr_I I) : 410 ∈ I := h 410 (by decide)
theorem i411 {I : List Nat} (h : fr_I I) : 411 ∈ I := h 411 (by decide)
theorem i412 {I : List Nat} (h : fr_I I) : 412 ∈ I := h 412 (by decide)
theorem i413 {I : List Nat} (h : fr_I I) : 413 ∈ I := h 413 (by decide)
theorem i414 {I : List Nat} (h : fr_I I) : 414 ∈ I := h 414 (by decide)
theorem i415 {I : List Nat} (h : fr_I I) : 415 ∈ I := h 415 (by decide)
theorem i416 {I : List Nat} (h : fr_I I) : 416 ∈ I := h 416 (by decide)
theorem i417 {I : List Nat} (h : fr_I I) : 417 ∈ I := h 417 (by decide)
theorem i418 {I : List Nat} (h : fr_I I) : 418 ∈ I := h 418 (by decide)
theorem i419 {I : List Nat} (h : fr_I I) : 419 ∈ I := h 419 (by decide)
theorem i420 {I : List Nat} (h : fr_I I) : 420 ∈ I := h 420 (by decide)
theorem i421 {I : List Nat} (h : fr_I I) : 421 ∈ I := h 421 (by decide)
theorem i422 {I : List Nat} (h : fr_I I) : 422 ∈ I := h 422 (by decide)
theorem i423 {I : List Nat} (h : fr_I I) : 423 ∈ I := h 423 (by decide)
theorem i430 {I : List Nat} (h : fr_I I) : 430 ∈ I := h 430 (by decide)
theorem i431 {I : List Nat} (h : fr_I I) : 431 ∈ I := h 431 (by decide)
theorem i432 {I : List Nat} (h : fr_I I) : 432 ∈ I := h 432 (by decide)
theorem i433 {I : List Nat} (h : fr_I I) : 433 ∈ I := h 433 (by decide)
theorem i434 {I : List Nat} (h : fr_I I) : 434 ∈ I := h 434 (by decide)
theorem i435 {I : List Nat} (h : fr_I I) : 435 ∈ I := h 435 (by decide)
theorem i436 {I : List Nat} (h : fr_I I) : 436 ∈ I := h 436 (by decide)
theorem i437 {I : List Nat} (h : fr_I I) : 437 ∈ I := h 437 (by decide)
theorem i438 {I : List Nat} (h : fr_I I) : 438 ∈ I := h 438 (by decide)
theorem i439 {I : List Nat} (h : fr_I I) : 439 ∈ I := h 439 (by decide)
theorem i440 {I : List Nat} (h : fr_I I) : 440 ∈ I := h 440 (by decide)
theorem i441 {I : List Nat} (h : fr_I I) : 441 ∈ I := h 441 (by decide)
theorem i442 {I : List Nat} (h : fr_I I) : 442 ∈ I := h 442 (by decide)
theorem i443 {I : List Nat} (h : fr_I I) : 443 ∈ I := h 443 (by decide)
theorem i444 {I : List Nat} (h : fr_I I) : 444 ∈ I := h 444 (by decide)
theorem i445 {I : List Nat} (h : fr_I I) : 445 ∈ I := h 445 (by decide)
theorem i446 {I : List Nat} (h : fr_I I) : 446 ∈ I := h 446 (by decide)
theorem i447 {I : List Nat} (h : fr_I I) : 447 ∈ I := h 447 (by decide)
theorem i448 {I : List Nat} (h : fr_I I) : 448 ∈ I := h 448 (by decide)
theorem i449 {I : List Nat} (h : fr_I I) : 449 ∈ I := h 449 (by decide)
theorem i450 {I : List Nat} (h : fr_I I) : 450 ∈ I := h 450 (by decide)
theorem i451 {I : List Nat} (h : fr_I I) : 451 ∈ I := h 451 (by decide)
theorem i452 {I : List Nat} (h : fr_I I) : 452 ∈ I := h 452 (by decide)
theorem i453 {I : List Nat} (h : fr_I I) : 453 ∈ I := h 453 (by decide)
theorem i100 {I : List Nat} (h : fr_I I) : 100 ∈ I := h 100 (by decide)
theorem i102 {I : List Nat} (h : fr_I I) : 102 ∈ I := h 102 (by decide)
theorem i103 {I : List Nat} (h : fr_I I) : 103 ∈ I := h 103 (by decide)
theorem i104 {I : List Nat} (h : fr_I I) : 104 ∈ I := h 104 (by decide)
theorem i105 {I : List Nat} (h : fr_I I) : 105 ∈ I := h 105 (by decide)
theorem i108 {I : List Nat} (h : fr_I I) : 108 ∈ I := h 108 (by decide)
theorem i109 {I : List Nat} (h : fr_I I) : 109 ∈ I := h 109 (by decide)
theorem i110 {I : List Nat} (h : fr_I I) : 110 ∈ I := h 110 (by decide)
theorem i200 {I : List Nat} (h : fr_I I) : 200 ∈ I := h 200 (by decide)
theorem i201 {I : List Nat} (h : fr_I I) : 201 ∈ I := h 201 (by decide)
theorem i202 {I : List Nat} (h : fr_I I) : 202 ∈ I := h 202 (by decide)
theorem i203 {I : List Nat} (h : fr_I I) : 203 ∈ I := h 203 (by decide)
theorem i205 {I : List Nat} (h : fr_I I) : 205 ∈ I := h 205 (by decide)
theorem i210 {I : List Nat} (h : fr_I I) : 210 ∈ I := h 210 (by decide)
theorem i300 {I : List Nat} (h : fr_I I) : 300 ∈ I := h 300 (by decide)
theorem i302 {I : List Nat} (h : fr_I I) : 302 ∈ I := h 302 (by decide)
theorem i304 {I : List Nat} (h : fr_I I) : 304 ∈ I := h 304 (by decide)
theorem i305 {I : List Nat} (h : fr_I I) : 305 ∈ I := h 305 (by decide)
theorem i306 {I : List Nat} (h : fr_I I) : 306 ∈ I := h 306 (by decide)
theorem i307 {I : List Nat} (h : fr_I I) : 307 ∈ I := h 307 (by decide)
theorem i308 {I : List Nat} (h : fr_I I) : 308 ∈ I := h 308 (by decide)
theorem i310 {I : List Nat} (h : fr_I I) : 310 ∈ I := h 310 (by decide)
theorem i500 {I : List Nat} (h : fr_I I) : 500 ∈ I := h 500 (by decide)
theorem i501 {I : List Nat} (h : fr_I I) : 501 ∈ I := h 501 (by decide)
theorem i502 {I : List Nat} (h : fr_I I) : 502 ∈ I := h 502 (by decide)
theorem i600 {I : List Nat} (h : fr_I I) : 600 ∈ I := h 600 (by decide)
theorem i601 {I : List Nat} (h : fr_I I) : 601 ∈ I := h 601 (by decide)
theorem i900 {I : List Nat} (h : fr_I I) : 900 ∈ I := h 900 (by decide)
theorem i903 {I : List Nat} (h : fr_I I) : 903 ∈ I := h 903 (by decide)
theorem i906 {I : List Nat} (h : fr_I I) : 906 ∈ I := h 906 (by decide)
theorem i907 {I : List Nat} (h : fr_I I) : 907 ∈ I := h 907 (by decide)
theorem i910 {I : List Nat} (h : fr_I I) : 910 ∈ I := h 910 (by decide)
theorem i911 {I : List Nat} (h : fr_I I) : 911 ∈ I := h 911 (by decide)
theorem i912 {I : List Nat} (h : fr_I I) : 912 ∈ I := h 912 (by decide)
theorem i913 {I : List Nat} (h : fr_I I) : 913 ∈ I := h 913 (by decide)
theorem i950 {I : List Nat} (h : fr_I I) : 950 ∈ I := h 950 (by decide)
theorem i1000 {I : List Nat} (h : fr_I I) : 1000 ∈ I := h 1000 (by decide)
theorem i1010 {I : List Nat} (h : fr_I I) : 1010 ∈ I := h 1010 (by decide)
theorem i1100 {I : List Nat} (h : fr_I I) : 1100 ∈ I := h 1100 (by decide)
theorem i1101 {I : List Nat} (h : fr_I I) : 1101 ∈ I := h 1101 (by decide)
theorem i1106 {I : List Nat} (h : fr_I I) : 1106 ∈ I := h 1106 (by decide)
theorem i1107 {I : List Nat} (h : fr_I I) : 1107 ∈ I := h 1107 (by decide)
theorem i1109 {I : List Nat} (h : fr_I I) : 1109 ∈ I := h 1109 (by decide)
theorem i1110 {I : List Nat} (h : fr_I I) : 1110 ∈ I := h 1110 (by decide)
theorem i1111 {I : List Nat} (h : fr_I I) : 1111 ∈ I := h 1111 (by decide)
theorem i1112 {I : List Nat} (h : fr_I I) : 1112 ∈ I := h 1112 (by decide)
theorem i1113 {I : List Nat} (h : fr_I I) : 1113 ∈ I := h 1113 (by decide)
theorem i1114 {I : List Nat} (h : fr_I I) : 1114 ∈ I := h 1114 (by decide)
theorem i1116 {I : List Nat} (h : fr_I I) : 1116 ∈ I := h 1116 (by decide)
theorem i1118 {I : List Nat} (h : fr_I I) : 1118 ∈ I := h 1118 (by decide)
theorem i1119 {I : List Nat} (h : fr_I I) : 1119 ∈ I := h 1119 (by decide)
theorem i1120 {I : List Nat} (h : fr_I I) : 1120 ∈ I := h 1120 (by decide)
theorem i1121 {I : List Nat} (h : fr_I I) : 1121 ∈ I := h 1121 (by decide)
theorem i1122 {I : List Nat} (h : fr_I I) : 1122 ∈ I := h 1122 (by decide)
theorem i1123 {I : List Nat} (h : fr_I I) : 1123 ∈ I := h 1123 (by decide)
theorem i1131 {I : List Nat} (h : fr_I I) : 1131 ∈ I := h 1131 (by decide)
theorem i1132 {I : List Nat} (h : fr_I I) : 1132 ∈ I := h 1132 (by decide)
theorem i1133 {I : List Nat} (h : fr_I I) : 1133 ∈ I := h 1133 (by decide)
theorem i1134 {I : List Nat} (h : fr_I I) : 1134 ∈ I := h 1134 (by decide)
theorem i1135 {I : List Nat} (h : fr_I I) : 1135 ∈ I := h 1135 (by decide)
theorem i1136 {I : List Nat} (h : fr_I I) : 1136 ∈ I := h 1136 (by decide)
theorem i1137 {I : List Nat} (h : fr_I I) : 1137 ∈ I := h 1137 (by decide)
theorem i1138 {I : List Nat} (h : fr_I I) : 1138 ∈ I := h 1138 (by decide)
theorem i1141 {I : List Nat} (h : fr_I I) : 1141 ∈ I := h 1141 (by decide)
theorem i1142 {I : List Nat} (h : fr_I I) : 1142 ∈ I := h 1142 (by decide)
theorem i1145 {I : List Nat} (h : fr_I I) : 1145 ∈ I := h 1145 (by decide)
theorem i1146 {I : List Nat} (h : fr_I I) : 1146 ∈ I := h 1146 (by decide)
theorem i1147 {I : List Nat} (h : fr_I I) : 1147 ∈ I := h 1147 (by decide)
theorem i1148 {I : List Nat} (h : fr_I I) : 1148 ∈ I := h 1148 (by decide)
theorem i1152 {I : List Nat} (h : fr_I I) : 1152 ∈ I := h 1152 (by decide)
theorem i1154 {I : List Nat} (h : fr_I I) : 1154 ∈ I := h 1154 (by decide)
theorem i1155 {I : List Nat} (h : fr_I I) : 1155 ∈ I := h 1155 (by decide)
theorem i1156 {I : List Nat} (h : fr_I I) : 1156 ∈ I := h 1156 (by decide)
theorem i1157 {I : List Nat} (h : fr_I I) : 1157 ∈ I := h 1157 (by decide)
theorem i1158 {I : List Nat} (h : fr_I I) : 1158 ∈ I := h 1158 (by decide)
abbrev mX11_thrown : fr_M := (yX11_thrown, cX11_thrown, 1, (some .int), 0, 0)
abbrev mX11_feed : fr_M := (yX11_feed, cX11_feed, 8, (some .int), 0, 0)
abbrev mX11_isIn : fr_M := (yX11_isIn, cX11_isIn, 3, (some .boolean), 0, 0)
abbrev mX11_isHalf : fr_M := (yX11_isHalf, cX11_isHalf, 1, (some .boolean), 0, 0)
abbrev mX11_wrong : fr_M := (yX11_wrong, cX11_wrong, 2, (some .boolean), 0, 0)
abbrev mX11_wordAt : fr_M := (yX11_wordAt, cX11_wordAt, 8, (some .int), 0, 0)
abbrev mX11_isSmall : fr_M := (yX11_isSmall, cX11_isSmall, 2, (some .boolean), 0, 0)
abbrev mX11_isDigit : fr_M := (yX11_isDigit, cX11_isDigit, 2, (some .boolean), 0, 0)
abbrev mX11_take : fr_M := (yX11_take, cX11_take, 1, none, 1, 27)
abbrev mX11_isWord : fr_M := (yX11_isWord, cX11_isWord, 2, (some .boolean), 0, 0)
abbrev mX11_isNumber : fr_M := (yX11_isNumber, cX11_isNumber, 3, (some .boolean), 1, 21)
abbrev mX11_plain : fr_M := (yX11_plain, cX11_plain, 2, none, 0, 0)
abbrev mX11_keep : fr_M := (yX11_keep, cX11_keep, 2, none, 0, 0)
abbrev mX11_span : fr_M := (yX11_span, cX11_span, 2, (some .boolean), 2, 47)
abbrev mX11_classRow : fr_M := (yX11_classRow, cX11_classRow, 2, (some .boolean), 2, 47)
abbrev mX11_whom : fr_M := (yX11_whom, cX11_whom, 6, (some .boolean), 3, 68)
abbrev mX11_ofWhom : fr_M := (yX11_ofWhom, cX11_ofWhom, 3, (some .boolean), 4, 93)
abbrev mX11_ofNumber : fr_M := (yX11_ofNumber, cX11_ofNumber, 4, (some .boolean), 2, 47)
abbrev mX11_acts : fr_M := (yX11_acts, cX11_acts, 4, (some .int), 5, 115)
abbrev mX11_fault : fr_M := (yX11_fault, cX11_fault, 2, (some .int), 0, 0)
abbrev mX11_halves : fr_M := (yX11_halves, cX11_halves, 2, (some .int), 1, 22)
abbrev mX11_life : fr_M := (yX11_life, cX11_life, 3, (some .int), 1, 22)
abbrev mX11_isLife : fr_M := (yX11_isLife, cX11_isLife, 2, (some .boolean), 0, 0)
abbrev mX11_ageIn : fr_M := (yX11_ageIn, cX11_ageIn, 3, (some .int), 0, 0)
abbrev mX11_actOf : fr_M := (yX11_actOf, cX11_actOf, 11, (some .int), 1, 22)
abbrev mX11_mayBe : fr_M := (yX11_mayBe, cX11_mayBe, 3, (some .boolean), 2, 52)
abbrev mX11_priceOf : fr_M := (yX11_priceOf, cX11_priceOf, 3, (some .int), 2, 52)
abbrev mX11_lumpOf : fr_M := (yX11_lumpOf, cX11_lumpOf, 3, (some .int), 2, 52)
abbrev mX11_asks : fr_M := (yX11_asks, cX11_asks, 3, (some .int), 3, 74)
abbrev mX11_isHolder : fr_M := (yX11_isHolder, cX11_isHolder, 1, (some .boolean), 0, 0)
abbrev mX11_rent : fr_M := (yX11_rent, cX11_rent, 5, (some .int), 3, 74)
abbrev mX11_isRent : fr_M := (yX11_isRent, cX11_isRent, 2, (some .boolean), 0, 0)
abbrev mX11_partsOf : fr_M := (yX11_partsOf, cX11_partsOf, 6, (some .int), 0, 0)
abbrev mX11_sell : fr_M := (yX11_sell, cX11_sell, 5, (some .boolean), 1, 25)
abbrev mX11_parts : fr_M := (yX11_parts, cX11_parts, 4, (some .int), 1, 25)
abbrev mX11_told : fr_M := (yX11_told, cX11_told, 4, (some .int), 0, 0)
abbrev mX11_note : fr_M := (yX11_note, cX11_note, 4, (some .int), 1, 23)
abbrev mX11_strike : fr_M := (yX11_strike, cX11_strike, 2, (some .int), 1, 23)
abbrev mX11_know : fr_M := (yX11_know, cX11_know, 3, none, 0, 0)
abbrev mX11_isFalse : fr_M := (yX11_isFalse, cX11_isFalse, 3, (some .boolean), 0, 0)
abbrev mX11_dead : fr_M := (yX11_dead, cX11_dead, 3, (some .int), 1, 22)
abbrev mX11_holds : fr_M := (yX11_holds, cX11_holds, 3, (some .int), 1, 22)
abbrev mX11_lives : fr_M := (yX11_lives, cX11_lives, 3, (some .boolean), 0, 0)
abbrev mX11_isDue : fr_M := (yX11_isDue, cX11_isDue, 3, (some .boolean), 1, 22)
abbrev mX11_isProved : fr_M := (yX11_isProved, cX11_isProved, 5, (some .boolean), 1, 22)
abbrev mX11_pays : fr_M := (yX11_pays, cX11_pays, 5, none, 2, 53)
abbrev mX11_shares : fr_M := (yX11_shares, cX11_shares, 9, none, 1, 25)
abbrev mX11_paid : fr_M := (yX11_paid, cX11_paid, 4, (some .int), 3, 77)
abbrev mX11_got : fr_M := (yX11_got, cX11_got, 3, (some .int), 3, 77)
abbrev mX11_owedOf : fr_M := (yX11_owedOf, cX11_owedOf, 4, (some .int), 2, 44)
abbrev mX11_owed : fr_M := (yX11_owed, cX11_owed, 3, (some .int), 3, 77)
abbrev mX11_state : fr_M := (yX11_state, cX11_state, 5, (some .int), 3, 77)
abbrev mX11_sold : fr_M := (yX11_sold, cX11_sold, 4, (some .boolean), 1, 22)
abbrev mX11_groupOf : fr_M := (yX11_groupOf, cX11_groupOf, 1, (some .int), 0, 0)
abbrev mX11_years : fr_M := (yX11_years, cX11_years, 7, none, 0, 0)
abbrev mX11_lived : fr_M := (yX11_lived, cX11_lived, 5, (some .int), 0, 0)
abbrev mX11_own : fr_M := (yX11_own, cX11_own, 5, (some .int), 1, 26)
abbrev mX11_lay : fr_M := (yX11_lay, cX11_lay, 4, none, 1, 26)
abbrev mX11_liveOf : fr_M := (yX11_liveOf, cX11_liveOf, 3, (some .int), 1, 20)
abbrev mX11_yearBack : fr_M := (yX11_yearBack, cX11_yearBack, 3, (some .int), 0, 0)
abbrev mX11_worthOf : fr_M := (yX11_worthOf, cX11_worthOf, 4, (some .int), 2, 42)
abbrev mX11_bothOf : fr_M := (yX11_bothOf, cX11_bothOf, 7, (some .int), 2, 42)
abbrev mX11_worthOn : fr_M := (yX11_worthOn, cX11_worthOn, 3, (some .int), 3, 68)
abbrev mX11_worth : fr_M := (yX11_worth, cX11_worth, 4, (some .int), 4, 90)
abbrev mX11_names : fr_M := (yX11_names, cX11_names, 12, (some .int), 3, 74)
abbrev mX11_named : fr_M := (yX11_named, cX11_named, 2, (some .int), 1, 21)
abbrev mX11_riskOf : fr_M := (yX11_riskOf, cX11_riskOf, 6, (some .long), 1, 22)
abbrev mX11_look : fr_M := (yX11_look, cX11_look, 9, (some .int), 2, 47)
abbrev mX11_fails : fr_M := (yX11_fails, cX11_fails, 2, (some .long), 0, 0)
abbrev mX11_risk : fr_M := (yX11_risk, cX11_risk, 2, (some .long), 2, 47)
abbrev mX11_living : fr_M := (yX11_living, cX11_living, 2, (some .int), 1, 22)
abbrev mX11_converts : fr_M := (yX11_converts, cX11_converts, 8, (some .int), 4, 90)
abbrev mX11_count : fr_M := (yX11_count, cX11_count, 2, (some .int), 0, 0)
theorem fl_X11_7 : FL RX11 7 11 0 := FL.of rfl (by decide) (tb5 _ (List.mem_of_getElem? (i := 113) (by decide +kernel)))
theorem fl_X11_13 : FL RX11 13 11 5 := FL.of rfl (by decide) (tb5 _ (List.mem_of_getElem? (i := 118) (by decide +kernel)))
theorem fl_X11_16 : FL RX11 16 11 6 := FL.of rfl (by decide) (tb5 _ (List.mem_of_getElem? (i := 119) (by decide +kernel)))
theorem fl_X11_19 : FL RX11 19 11 8 := FL.of rfl (by decide) (tb5 _ (List.mem_of_getElem? (i := 121) (by decide +kernel)))
theorem fl_X11_22 : FL RX11 22 11 9 := FL.of rfl (by decide) (tb5 _ (List.mem_of_getElem? (i := 122) (by decide +kernel)))
theorem fl_X11_25 : FL RX11 25 11 10 := FL.of rfl (by decide) (tb5 _ (List.mem_of_getElem? (i := 123) (by decide +kernel)))
theorem fl_X11_28 : FL RX11 28 11 11 := FL.of rfl (by decide) (tb5 _ (List.mem_of_getElem? (i := 124) (by decide +kernel)))
theorem fl_X11_31 : FL RX11 31 11 12 := FL.of rfl (by decide) (tb5 _ (List.mem_of_getElem? (i := 125) (by decide +kernel)))
theorem fl_X11_34 : FL RX11 34 11 13 := FL.of rfl (by decide) (tb5 _ (List.mem_of_getElem? (i := 126) (by decide +kernel)))
theorem fl_X11_37 : FL RX11 37 11 15 := FL.of rfl (by decide) (tb5 _ (List.mem_of_getElem? (i := 128) (by decide +kernel)))
theorem fl_X11_40 : FL RX11 40 11 17 := FL.of rfl (by decide) (tb5 _ (List.mem_of_getElem? (i := 130) (by decide +kernel)))
theorem fl_X11_43 : FL RX11 43 11 18 := FL.of rfl (by decide) (tb5 _ (List.mem_of_getElem? (i := 131) (by decide +kernel)))
theorem fl_X11_46 : FL RX11 46 11 19 := FL.of rfl (by decide) (tb5 _ (List.mem_of_getElem? (i := 132) (by decide +kernel)))
theorem fl_X11_49 : FL RX11 49 11 20 := FL.of rfl (by decide) (tb5 _ (List.mem_of_getElem? (i := 133) (by decide +kernel)))
theorem fl_X11_52 : FL RX11 52 11 21 := FL.of rfl (by decide) (tb5 _ (List.mem_of_getElem? (i := 134) (by decide +kernel)))
theorem fl_X11_55 : FL RX11 55 11 22 := FL.of rfl (by decide) (tb5 _ (List.mem_of_getElem? (i := 135) (by decide +kernel)))
theorem fl_X11_58 : FL RX11 58 11 24 := FL.of rfl (by decide) (tb5 _ (List.mem_of_getElem? (i := 137) (by decide +kernel)))
theorem fl_X11_62 : FL RX11 62 11 30 := FL.of rfl (by decide) (tb5 _ (List.mem_of_getElem? (i := 143) (by decide +kernel)))
theorem fl_X11_65 : FL RX11 65 11 31 := FL.of rfl (by decide) (tb5 _ (List.mem_of_getElem? (i := 144) (by decide +kernel)))
theorem fl_X11_68 : FL RX11 68 11 32 := FL.of rfl (by decide) (tb5 _ (List.mem_of_getElem? (i := 145) (by decide +kernel)))
theorem fl_X11_71 : FL RX11 71 11 33 := FL.of rfl (by decide) (tb5 _ (List.mem_of_getElem? (i := 146) (by decide +kernel)))
theorem fl_X11_74 : FL RX11 74 11 34 := FL.of rfl (by decide) (tb5 _ (List.mem_of_getElem? (i := 147) (by decide +kernel)))
theorem fl_X11_77 : FL RX11 77 11 35 := FL.of rfl (by decide) (tb5 _ (List.mem_of_getElem? (i := 148) (by decide +kernel)))
theorem fl_X11_80 : FL RX11 80 11 36 := FL.of rfl (by decide) (tb5 _ (List.mem_of_getElem? (i := 149) (by decide +kernel)))
theorem fl_X11_83 : FL RX11 83 11 37 := FL.of rfl (by decide) (tb5 _ (List.mem_of_getElem? (i := 150) (by decide +kernel)))
theorem fl_X11_86 : FL RX11 86 11 40 := FL.of rfl (by decide) (tb5 _ (List.mem_of_getElem? (i := 153) (by decide +kernel)))
theorem fl_X11_89 : FL RX11 89 11 41 := FL.of rfl (by decide) (tb5 _ (List.mem_of_getElem? (i := 154) (by decide +kernel)))
theorem fl_X11_93 : FL RX11 93 11 44 := FL.of rfl (by decide) (tb5 _ (List.mem_of_getElem? (i := 157) (by decide +kernel)))
theorem fl_X11_96 : FL RX11 96 11 45 := FL.of rfl (by decide) (tb5 _ (List.mem_of_getElem? (i := 158) (by decide +kernel)))
theorem fl_X11_99 : FL RX11 99 11 46 := FL.of rfl (by decide) (tb5 _ (List.mem_of_getElem? (i := 159) (by decide +kernel)))
theorem fl_X11_102 : FL RX11 102 11 47 := FL.of rfl (by decide) (tb5 _ (List.mem_of_getElem? (i := 160) (by decide +kernel)))
theorem fl_X11_105 : FL RX11 105 11 51 := FL.of rfl (by decide) (tb5 _ (List.mem_of_getElem? (i := 164) (by decide +kernel)))
theorem fl_X11_108 : FL RX11 108 11 53 := FL.of rfl (by decide) (tb5 _ (List.mem_of_getElem? (i := 166) (by decide +kernel)))
theorem fl_X11_111 : FL RX11 111 11 54 := FL.of rfl (by decide) (tb5 _ (List.mem_of_getElem? (i := 167) (by decide +kernel)))
theorem fl_X11_114 : FL RX11 114 11 55 := FL.of rfl (by decide) (tb5 _ (List.mem_of_getElem? (i := 168) (by decide +kernel)))
theorem fl_X11_117 : FL RX11 117 11 56 := FL.of rfl (by decide) (tb5 _ (List.mem_of_getElem? (i := 169) (by decide +kernel)))
theorem fl_X11_120 : FL RX11 120 11 57 := FL.of rfl (by decide) (tb5 _ (List.mem_of_getElem? (i := 170) (by decide +kernel)))
theorem fl_X11_129 : FL RX11 129 11 2 := FL.of rfl (by decide) (tb5 _ (List.mem_of_getElem? (i := 115) (by decide +kernel)))
theorem fl_X11_132 : FL RX11 132 11 1 := FL.of rfl (by decide) (tb5 _ (List.mem_of_getElem? (i := 114) (by decide +kernel)))
theorem fl_X11_135 : FL RX11 135 11 23 := FL.of rfl (by decide) (tb5 _ (List.mem_of_getElem? (i := 136) (by decide +kernel)))
theorem fl_X11_138 : FL RX11 138 11 29 := FL.of rfl (by decide) (tb5 _ (List.mem_of_getElem? (i := 142) (by decide +kernel)))
theorem fl_X11_141 : FL RX11 141 11 25 := FL.of rfl (by decide) (tb5 _ (List.mem_of_getElem? (i := 138) (by decide +kernel)))
theorem fl_X11_144 : FL RX11 144 11 26 := FL.of rfl (by decide) (tb5 _ (List.mem_of_getElem? (i := 139) (by decide +kernel)))
theorem fl_X11_147 : FL RX11 147 11 27 := FL.of rfl (by decide) (tb5 _ (List.mem_of_getElem? (i := 140) (by decide +kernel)))
theorem fl_X11_158 : FL RX11 158 11 28 := FL.of rfl (by decide) (tb5 _ (List.mem_of_getElem? (i := 141) (by decide +kernel)))
theorem fl_X11_167 : FL RX11 167 11 39 := FL.of rfl (by decide) (tb5 _ (List.mem_of_getElem? (i := 152) (by decide +kernel)))
theorem fl_X11_170 : FL RX11 170 11 38 := FL.of rfl (by decide) (tb5 _ (List.mem_of_getElem? (i := 151) (by decide +kernel)))
theorem fl_X11_177 : FL RX11 177 11 42 := FL.of rfl (by decide) (tb5 _ (List.mem_of_getElem? (i := 155) (by decide +kernel)))
theorem fl_X11_186 : FL RX11 186 11 43 := FL.of rfl (by decide) (tb5 _ (List.mem_of_getElem? (i := 156) (by decide +kernel)))
theorem fl_X11_208 : FL RX11 208 11 3 := FL.of rfl (by decide) (tb5 _ (List.mem_of_getElem? (i := 116) (by decide +kernel)))
theorem fl_X11_211 : FL RX11 211 11 4 := FL.of rfl (by decide) (tb5 _ (List.mem_of_getElem? (i := 117) (by decide +kernel)))
theorem fl_X11_233 : FL RX11 233 11 7 := FL.of rfl (by decide) (tb5 _ (List.mem_of_getElem? (i := 120) (by decide +kernel)))
theorem fl_X11_239 : FL RX11 239 11 14 := FL.of rfl (by decide) (tb5 _ (List.mem_of_getElem? (i := 127) (by decide +kernel)))
theorem fl_X11_252 : FL RX11 252 11 16 := FL.of rfl (by decide) (tb5 _ (List.mem_of_getElem? (i := 129) (by decide +kernel)))
theorem fl_X11_266 : FL RX11 266 11 48 := FL.of rfl (by decide) (tb5 _ (List.mem_of_getElem? (i := 161) (by decide +kernel)))
theorem fl_X11_286 : FL RX11 286 11 49 := FL.of rfl (by decide) (tb5 _ (List.mem_of_getElem? (i := 162) (by decide +kernel)))
theorem fl_X11_289 : FL RX11 289 11 50 := FL.of rfl (by decide) (tb5 _ (List.mem_of_getElem? (i := 163) (by decide +kernel)))
theorem fl_X11_322 : FL RX11 322 11 52 := FL.of rfl (by decide) (tb5 _ (List.mem_of_getElem? (i := 165) (by decide +kernel)))
theorem ml_X11_123 : Cond.methodLink RX11 123 yX11_plain ∈ gt := gt_mem (tb5 _ (List.mem_of_getElem? (i := 105) (by decide +kernel))) rfl
theorem ml_X11_126 : Cond.methodLink RX11 126 yX11_keep ∈ gt := gt_mem (tb5 _ (List.mem_of_getElem? (i := 109) (by decide +kernel))) rfl
theorem ml_X11_150 : Cond.methodLink RX11 150 yX11_isSmall ∈ gt := gt_mem (tb6 _ (List.mem_of_getElem? (i := 64) (by decide +kernel))) rfl
theorem ml_X11_154 : Cond.methodLink RX11 154 yX11_wordAt ∈ gt := gt_mem (tb6 _ (List.mem_of_getElem? (i := 68) (by decide +kernel))) rfl
theorem ml_X11_161 : Cond.methodLink RX11 161 yX11_isDigit ∈ gt := gt_mem (tb6 _ (List.mem_of_getElem? (i := 72) (by decide +kernel))) rfl
theorem ml_X11_164 : Cond.methodLink RX11 164 yX11_wrong ∈ gt := gt_mem (tb6 _ (List.mem_of_getElem? (i := 76) (by decide +kernel))) rfl
theorem ml_X11_173 : Cond.methodLink RX11 173 yX11_isNumber ∈ gt := gt_mem (tb6 _ (List.mem_of_getElem? (i := 84) (by decide +kernel))) rfl
theorem ml_X11_180 : Cond.methodLink RX11 180 yX11_take ∈ gt := gt_mem (tb6 _ (List.mem_of_getElem? (i := 60) (by decide +kernel))) rfl
theorem ml_X11_183 : Cond.methodLink RX11 183 yX11_isWord ∈ gt := gt_mem (tb6 _ (List.mem_of_getElem? (i := 96) (by decide +kernel))) rfl
theorem ml_X11_189 : Cond.methodLink RX11 189 yX11_span ∈ gt := gt_mem (tb6 _ (List.mem_of_getElem? (i := 92) (by decide +kernel))) rfl
theorem ml_X11_192 : Cond.methodLink RX11 192 yX11_classRow ∈ gt := gt_mem (tb6 _ (List.mem_of_getElem? (i := 100) (by decide +kernel))) rfl
theorem ml_X11_195 : Cond.methodLink RX11 195 yX11_whom ∈ gt := gt_mem (tb6 _ (List.mem_of_getElem? (i := 88) (by decide +kernel))) rfl
theorem ml_X11_198 : Cond.methodLink RX11 198 yX11_ofWhom ∈ gt := gt_mem (tb6 _ (List.mem_of_getElem? (i := 80) (by decide +kernel))) rfl
theorem ml_X11_201 : Cond.methodLink RX11 201 yX11_ofNumber ∈ gt := gt_mem (tb6 _ (List.mem_of_getElem? (i := 104) (by decide +kernel))) rfl
theorem ml_X11_204 : Cond.methodLink RX11 204 yX11_isIn ∈ gt := gt_mem (tb6 _ (List.mem_of_getElem? (i := 116) (by decide +kernel))) rfl
theorem ml_X11_214 : Cond.methodLink RX11 214 yX11_ageIn ∈ gt := gt_mem (tb6 _ (List.mem_of_getElem? (i := 139) (by decide +kernel))) rfl
theorem ml_X11_217 : Cond.methodLink RX11 217 yX11_actOf ∈ gt := gt_mem (tb6 _ (List.mem_of_getElem? (i := 135) (by decide +kernel))) rfl
theorem ml_X11_221 : Cond.methodLink RX11 221 yX11_isLife ∈ gt := gt_mem (tb6 _ (List.mem_of_getElem? (i := 127) (by decide +kernel))) rfl
theorem ml_X11_224 : Cond.methodLink RX11 224 yX11_mayBe ∈ gt := gt_mem (tb6 _ (List.mem_of_getElem? (i := 131) (by decide +kernel))) rfl
theorem ml_X11_227 : Cond.methodLink RX11 227 yX11_priceOf ∈ gt := gt_mem (tb6 _ (List.mem_of_getElem? (i := 143) (by decide +kernel))) rfl
theorem ml_X11_230 : Cond.methodLink RX11 230 yX11_lumpOf ∈ gt := gt_mem (tb6 _ (List.mem_of_getElem? (i := 147) (by decide +kernel))) rfl
theorem ml_X11_236 : Cond.methodLink RX11 236 yX11_isHolder ∈ gt := gt_mem (tb6 _ (List.mem_of_getElem? (i := 155) (by decide +kernel))) rfl
theorem ml_X11_242 : Cond.methodLink RX11 242 yX11_isRent ∈ gt := gt_mem (tb6 _ (List.mem_of_getElem? (i := 162) (by decide +kernel))) rfl
theorem ml_X11_245 : Cond.methodLink RX11 245 yX11_partsOf ∈ gt := gt_mem (tb6 _ (List.mem_of_getElem? (i := 166) (by decide +kernel))) rfl
theorem ml_X11_249 : Cond.methodLink RX11 249 yX11_isHalf ∈ gt := gt_mem (tb6 _ (List.mem_of_getElem? (i := 174) (by decide +kernel))) rfl
theorem ml_X11_255 : Cond.methodLink RX11 255 yX11_told ∈ gt := gt_mem (tb6 _ (List.mem_of_getElem? (i := 181) (by decide +kernel))) rfl
theorem ml_X11_257 : Cond.methodLink RX11 257 yX11_know ∈ gt := gt_mem (tb6 _ (List.mem_of_getElem? (i := 193) (by decide +kernel))) rfl
theorem ml_X11_261 : Cond.methodLink RX11 261 yX11_isFalse ∈ gt := gt_mem (tb6 _ (List.mem_of_getElem? (i := 201) (by decide +kernel))) rfl
theorem ml_X11_264 : Cond.methodLink RX11 264 yX11_lives ∈ gt := gt_mem (tb6 _ (List.mem_of_getElem? (i := 217) (by decide +kernel))) rfl
theorem ml_X11_269 : Cond.methodLink RX11 269 yX11_isDue ∈ gt := gt_mem (tb6 _ (List.mem_of_getElem? (i := 213) (by decide +kernel))) rfl
theorem ml_X11_272 : Cond.methodLink RX11 272 yX11_isProved ∈ gt := gt_mem (tb6 _ (List.mem_of_getElem? (i := 221) (by decide +kernel))) rfl
theorem ml_X11_275 : Cond.methodLink RX11 275 yX11_shares ∈ gt := gt_mem (tb6 _ (List.mem_of_getElem? (i := 225) (by decide +kernel))) rfl
theorem ml_X11_279 : Cond.methodLink RX11 279 yX11_pays ∈ gt := gt_mem (tb6 _ (List.mem_of_getElem? (i := 209) (by decide +kernel))) rfl
theorem ml_X11_282 : Cond.methodLink RX11 282 yX11_owedOf ∈ gt := gt_mem (tb6 _ (List.mem_of_getElem? (i := 237) (by decide +kernel))) rfl
theorem ml_X11_292 : Cond.methodLink RX11 292 yX11_years ∈ gt := gt_mem (tb7 _ (List.mem_of_getElem? (i := 13) (by decide +kernel))) rfl
theorem ml_X11_296 : Cond.methodLink RX11 296 yX11_lived ∈ gt := gt_mem (tb7 _ (List.mem_of_getElem? (i := 17) (by decide +kernel))) rfl
theorem ml_X11_299 : Cond.methodLink RX11 299 yX11_groupOf ∈ gt := gt_mem (tb7 _ (List.mem_of_getElem? (i := 41) (by decide +kernel))) rfl
theorem ml_X11_302 : Cond.methodLink RX11 302 yX11_liveOf ∈ gt := gt_mem (tb7 _ (List.mem_of_getElem? (i := 37) (by decide +kernel))) rfl
theorem ml_X11_305 : Cond.methodLink RX11 305 yX11_yearBack ∈ gt := gt_mem (tb7 _ (List.mem_of_getElem? (i := 44) (by decide +kernel))) rfl
theorem ml_X11_308 : Cond.methodLink RX11 308 yX11_worthOf ∈ gt := gt_mem (tb7 _ (List.mem_of_getElem? (i := 33) (by decide +kernel))) rfl
theorem ml_X11_311 : Cond.methodLink RX11 311 yX11_bothOf ∈ gt := gt_mem (tb7 _ (List.mem_of_getElem? (i := 48) (by decide +kernel))) rfl
theorem ml_X11_314 : Cond.methodLink RX11 314 yX11_lay ∈ gt := gt_mem (tb7 _ (List.mem_of_getElem? (i := 25) (by decide +kernel))) rfl
theorem ml_X11_317 : Cond.methodLink RX11 317 yX11_worthOn ∈ gt := gt_mem (tb7 _ (List.mem_of_getElem? (i := 29) (by decide +kernel))) rfl
theorem ml_X11_326 : Cond.methodLink RX11 326 yX11_riskOf ∈ gt := gt_mem (tb7 _ (List.mem_of_getElem? (i := 66) (by decide +kernel))) rfl
theorem ml_X11_330 : Cond.methodLink RX11 330 yX11_fails ∈ gt := gt_mem (tb7 _ (List.mem_of_getElem? (i := 74) (by decide +kernel))) rfl
theorem ml_X11_333 : Cond.methodLink RX11 333 yX11_living ∈ gt := gt_mem (tb7 _ (List.mem_of_getElem? (i := 82) (by decide +kernel))) rfl
theorem ok_X11_thrown : MOK mX11_thrown 0 := ⟨gt_mem (tb6 _ (List.mem_of_getElem? (i := 51) (by decide +kernel))) rfl, gt_mem (tb1 _ (List.mem_of_getElem? (i := 11) (by decide +kernel))) rfl, by decide +kernel⟩
theorem iv_X11_thrown : Cond.instanceMethod yX11_thrown ∈ gt ∧ Cond.selects RX11 yX11_thrown yX11_thrown ∈ gt := ⟨gt_mem (tb6 _ (List.mem_of_getElem? (i := 49) (by decide +kernel))) rfl, gt_mem (tb6 _ (List.mem_of_getElem? (i := 50) (by decide +kernel))) rfl⟩
theorem ok_X11_feed : MOK mX11_feed 5 := ⟨gt_mem (tb6 _ (List.mem_of_getElem? (i := 55) (by decide +kernel))) rfl, gt_mem (tb1 _ (List.mem_of_getElem? (i := 11) (by decide +kernel))) rfl, by decide +kernel⟩
theorem iv_X11_feed : Cond.instanceMethod yX11_feed ∈ gt ∧ Cond.selects RX11 yX11_feed yX11_feed ∈ gt := ⟨gt_mem (tb6 _ (List.mem_of_getElem? (i := 53) (by decide +kernel))) rfl, gt_mem (tb6 _ (List.mem_of_getElem? (i := 54) (by decide +kernel))) rfl⟩
theorem ok_X11_isIn : MOK mX11_isIn 3 := ⟨gt_mem (tb6 _ (List.mem_of_getElem? (i := 118) (by decide +kernel))) rfl, gt_mem (tb1 _ (List.mem_of_getElem? (i := 11) (by decide +kernel))) rfl, by decide +kernel⟩
theorem iv_X11_isIn : Cond.static yX11_isIn ∈ gt := gt_mem (tb6 _ (List.mem_of_getElem? (i := 117) (by decide +kernel))) rfl
theorem ok_X11_isHalf : MOK mX11_isHalf 1 := ⟨gt_mem (tb6 _ (List.mem_of_getElem? (i := 176) (by decide +kernel))) rfl, gt_mem (tb1 _ (List.mem_of_getElem? (i := 11) (by decide +kernel))) rfl, by decide +kernel⟩
theorem iv_X11_isHalf : Cond.static yX11_isHalf ∈ gt := gt_mem (tb6 _ (List.mem_of_getElem? (i := 175) (by decide +kernel))) rfl
theorem ok_X11_wrong : MOK mX11_wrong 1 := ⟨gt_mem (tb6 _ (List.mem_of_getElem? (i := 79) (by decide +kernel))) rfl, gt_mem (tb1 _ (List.mem_of_getElem? (i := 11) (by decide +kernel))) rfl, by decide +kernel⟩
theorem iv_X11_wrong : Cond.instanceMethod yX11_wrong ∈ gt ∧ Cond.selects RX11 yX11_wrong yX11_wrong ∈ gt := ⟨gt_mem (tb6 _ (List.mem_of_getElem? (i := 78) (by decide +kernel))) rfl, gt_mem (List.mem_append_left _ (List.mem_of_getElem? (i := 41) (by decide +kernel))) rfl⟩
theorem ok_X11_wordAt : MOK mX11_wordAt 2 := ⟨gt_mem (tb6 _ (List.mem_of_getElem? (i := 71) (by decide +kernel))) rfl, gt_mem (tb1 _ (List.mem_of_getElem? (i := 11) (by decide +kernel))) rfl, by decide +kernel⟩
theorem iv_X11_wordAt : Cond.instanceMethod yX11_wordAt ∈ gt ∧ Cond.selects RX11 yX11_wordAt yX11_wordAt ∈ gt := ⟨gt_mem (tb6 _ (List.mem_of_getElem? (i := 70) (by decide +kernel))) rfl, gt_mem (List.mem_append_left _ (List.mem_of_getElem? (i := 39) (by decide +kernel))) rfl⟩
theorem ok_X11_isSmall : MOK mX11_isSmall 1 := ⟨gt_mem (tb6 _ (List.mem_of_getElem? (i := 67) (by decide +kernel))) rfl, gt_mem (tb1 _ (List.mem_of_getElem? (i := 11) (by decide +kernel))) rfl, by decide +kernel⟩
theorem iv_X11_isSmall : Cond.instanceMethod yX11_isSmall ∈ gt ∧ Cond.selects RX11 yX11_isSmall yX11_isSmall ∈ gt := ⟨gt_mem (tb6 _ (List.mem_of_getElem? (i := 66) (by decide +kernel))) rfl, gt_mem (List.mem_append_left _ (List.mem_of_getElem? (i := 38) (by decide +kernel))) rfl⟩
theorem ok_X11_isDigit : MOK mX11_isDigit 1 := ⟨gt_mem (tb6 _ (List.mem_of_getElem? (i := 75) (by decide +kernel))) rfl, gt_mem (tb1 _ (List.mem_of_getElem? (i := 11) (by decide +kernel))) rfl, by decide +kernel⟩
theorem iv_X11_isDigit : Cond.instanceMethod yX11_isDigit ∈ gt ∧ Cond.selects RX11 yX11_isDigit yX11_isDigit ∈ gt := ⟨gt_mem (tb6 _ (List.mem_of_getElem? (i := 74) (by decide +kernel))) rfl, gt_mem (List.mem_append_left _ (List.mem_of_getElem? (i := 40) (by decide +kernel))) rfl⟩
theorem ok_X11_take : MOK mX11_take 0 := ⟨gt_mem (tb6 _ (List.mem_of_getElem? (i := 63) (by decide +kernel))) rfl, gt_mem (tb1 _ (List.mem_of_getElem? (i := 11) (by decide +kernel))) rfl, by decide +kernel⟩
theorem iv_X11_take : Cond.instanceMethod yX11_take ∈ gt ∧ Cond.selects RX11 yX11_take yX11_take ∈ gt := ⟨gt_mem (tb6 _ (List.mem_of_getElem? (i := 62) (by decide +kernel))) rfl, gt_mem (List.mem_append_left _ (List.mem_of_getElem? (i := 37) (by decide +kernel))) rfl⟩
theorem ok_X11_isWord : MOK mX11_isWord 1 := ⟨gt_mem (tb6 _ (List.mem_of_getElem? (i := 99) (by decide +kernel))) rfl, gt_mem (tb1 _ (List.mem_of_getElem? (i := 11) (by decide +kernel))) rfl, by decide +kernel⟩
theorem iv_X11_isWord : Cond.instanceMethod yX11_isWord ∈ gt ∧ Cond.selects RX11 yX11_isWord yX11_isWord ∈ gt := ⟨gt_mem (tb6 _ (List.mem_of_getElem? (i := 98) (by decide +kernel))) rfl, gt_mem (List.mem_append_left _ (List.mem_of_getElem? (i := 46) (by decide +kernel))) rfl⟩
theorem ok_X11_isNumber : MOK mX11_isNumber 2 := ⟨gt_mem (tb6 _ (List.mem_of_getElem? (i := 87) (by decide +kernel))) rfl, gt_mem (tb1 _ (List.mem_of_getElem? (i := 11) (by decide +kernel))) rfl, by decide +kernel⟩
theorem iv_X11_isNumber : Cond.instanceMethod yX11_isNumber ∈ gt ∧ Cond.selects RX11 yX11_isNumber yX11_isNumber ∈ gt := ⟨gt_mem (tb6 _ (List.mem_of_getElem? (i := 86) (by decide +kernel))) rfl, gt_mem (List.mem_append_left _ (List.mem_of_getElem? (i := 43) (by decide +kernel))) rfl⟩
theorem ok_X11_plain : MOK mX11_plain 0 := ⟨gt_mem (tb5 _ (List.mem_of_getElem? (i := 108) (by decide +kernel))) rfl, gt_mem (tb1 _ (List.mem_of_getElem? (i := 11) (by decide +kernel))) rfl, by decide +kernel⟩
theorem iv_X11_plain : Cond.instanceMethod yX11_plain ∈ gt ∧ Cond.selects RX11 yX11_plain yX11_plain ∈ gt := ⟨gt_mem (tb5 _ (List.mem_of_getElem? (i := 107) (by decide +kernel))) rfl, gt_mem (List.mem_append_left _ (List.mem_of_getElem? (i := 35) (by decide +kernel))) rfl⟩
theorem ok_X11_keep : MOK mX11_keep 0 := ⟨gt_mem (tb5 _ (List.mem_of_getElem? (i := 112) (by decide +kernel))) rfl, gt_mem (tb1 _ (List.mem_of_getElem? (i := 11) (by decide +kernel))) rfl, by decide +kernel⟩
theorem iv_X11_keep : Cond.instanceMethod yX11_keep ∈ gt ∧ Cond.selects RX11 yX11_keep yX11_keep ∈ gt := ⟨gt_mem (tb5 _ (List.mem_of_getElem? (i := 111) (by decide +kernel))) rfl, gt_mem (List.mem_append_left _ (List.mem_of_getElem? (i := 36) (by decide +kernel))) rfl⟩
theorem ok_X11_span : MOK mX11_span 1 := ⟨gt_mem (tb6 _ (List.mem_of_getElem? (i := 95) (by decide +kernel))) rfl, gt_mem (tb1 _ (List.mem_of_getElem? (i := 11) (by decide +kernel))) rfl, by decide +kernel⟩
theorem iv_X11_span : Cond.instanceMethod yX11_span ∈ gt ∧ Cond.selects RX11 yX11_span yX11_span ∈ gt := ⟨gt_mem (tb6 _ (List.mem_of_getElem? (i := 94) (by decide +kernel))) rfl, gt_mem (List.mem_append_left _ (List.mem_of_getElem? (i := 45) (by decide +kernel))) rfl⟩
theorem ok_X11_classRow : MOK mX11_classRow 1 := ⟨gt_mem (tb6 _ (List.mem_of_getElem? (i := 103) (by decide +kernel))) rfl, gt_mem (tb1 _ (List.mem_of_getElem? (i := 11) (by decide +kernel))) rfl, by decide +kernel⟩
theorem iv_X11_classRow : Cond.instanceMethod yX11_classRow ∈ gt ∧ Cond.selects RX11 yX11_classRow yX11_classRow ∈ gt := ⟨gt_mem (tb6 _ (List.mem_of_getElem? (i := 102) (by decide +kernel))) rfl, gt_mem (List.mem_append_left _ (List.mem_of_getElem? (i := 47) (by decide +kernel))) rfl⟩
theorem ok_X11_whom : MOK mX11_whom 1 := ⟨gt_mem (tb6 _ (List.mem_of_getElem? (i := 91) (by decide +kernel))) rfl, gt_mem (tb1 _ (List.mem_of_getElem? (i := 11) (by decide +kernel))) rfl, by decide +kernel⟩
theorem iv_X11_whom : Cond.instanceMethod yX11_whom ∈ gt ∧ Cond.selects RX11 yX11_whom yX11_whom ∈ gt := ⟨gt_mem (tb6 _ (List.mem_of_getElem? (i := 90) (by decide +kernel))) rfl, gt_mem (List.mem_append_left _ (List.mem_of_getElem? (i := 44) (by decide +kernel))) rfl⟩
theorem ok_X11_ofWhom : MOK mX11_ofWhom 1 := ⟨gt_mem (tb6 _ (List.mem_of_getElem? (i := 83) (by decide +kernel))) rfl, gt_mem (tb1 _ (List.mem_of_getElem? (i := 11) (by decide +kernel))) rfl, by decide +kernel⟩
theorem iv_X11_ofWhom : Cond.instanceMethod yX11_ofWhom ∈ gt ∧ Cond.selects RX11 yX11_ofWhom yX11_ofWhom ∈ gt := ⟨gt_mem (tb6 _ (List.mem_of_getElem? (i := 82) (by decide +kernel))) rfl, gt_mem (List.mem_append_left _ (List.mem_of_getElem? (i := 42) (by decide +kernel))) rfl⟩
theorem ok_X11_ofNumber : MOK mX11_ofNumber 1 := ⟨gt_mem (tb6 _ (List.mem_of_getElem? (i := 107) (by decide +kernel))) rfl, gt_mem (tb1 _ (List.mem_of_getElem? (i := 11) (by decide +kernel))) rfl, by decide +kernel⟩
theorem iv_X11_ofNumber : Cond.instanceMethod yX11_ofNumber ∈ gt ∧ Cond.selects RX11 yX11_ofNumber yX11_ofNumber ∈ gt := ⟨gt_mem (tb6 _ (List.mem_of_getElem? (i := 106) (by decide +kernel))) rfl, gt_mem (List.mem_append_left _ (List.mem_of_getElem? (i := 48) (by decide +kernel))) rfl⟩
theorem ok_X11_acts : MOK mX11_acts 1 := ⟨gt_mem (tb6 _ (List.mem_of_getElem? (i := 59) (by decide +kernel))) rfl, gt_mem (tb1 _ (List.mem_of_getElem? (i := 11) (by decide +kernel))) rfl, by decide +kernel⟩
theorem iv_X11_acts : Cond.instanceMethod yX11_acts ∈ gt ∧ Cond.selects RX11 yX11_acts yX11_acts ∈ gt := ⟨gt_mem (tb6 _ (List.mem_of_getElem? (i := 57) (by decide +kernel))) rfl, gt_mem (tb6 _ (List.mem_of_getElem? (i := 58) (by decide +kernel))) rfl⟩
theorem ok_X11_fault : MOK mX11_fault 1 := ⟨gt_mem (tb6 _ (List.mem_of_getElem? (i := 111) (by decide +kernel))) rfl, gt_mem (tb1 _ (List.mem_of_getElem? (i := 11) (by decide +kernel))) rfl, by decide +kernel⟩
theorem iv_X11_fault : Cond.instanceMethod yX11_fault ∈ gt ∧ Cond.selects RX11 yX11_fault yX11_fault ∈ gt := ⟨gt_mem (tb6 _ (List.mem_of_getElem? (i := 109) (by decide +kernel))) rfl, gt_mem (tb6 _ (List.mem_of_getElem? (i := 110) (by decide +kernel))) rfl⟩
theorem ok_X11_halves : MOK mX11_halves 1 := ⟨gt_mem (tb6 _ (List.mem_of_getElem? (i := 115) (by decide +kernel))) rfl, gt_mem (tb1 _ (List.mem_of_getElem? (i := 11) (by decide +kernel))) rfl, by decide +kernel⟩
theorem iv_X11_halves : Cond.instanceMethod yX11_halves ∈ gt ∧ Cond.selects RX11 yX11_halves yX11_halves ∈ gt := ⟨gt_mem (tb6 _ (List.mem_of_getElem? (i := 113) (by decide +kernel))) rfl, gt_mem (tb6 _ (List.mem_of_getElem? (i := 114) (by decide +kernel))) rfl⟩
theorem ok_X11_life : MOK mX11_life 2 := ⟨gt_mem (tb6 _ (List.mem_of_getElem? (i := 122) (by decide +kernel))) rfl, gt_mem (tb1 _ (List.mem_of_getElem? (i := 11) (by decide +kernel))) rfl, by decide +kernel⟩
theorem iv_X11_life : Cond.instanceMethod yX11_life ∈ gt ∧ Cond.selects RX11 yX11_life yX11_life ∈ gt := ⟨gt_mem (tb6 _ (List.mem_of_getElem? (i := 120) (by decide +kernel))) rfl, gt_mem (tb6 _ (List.mem_of_getElem? (i := 121) (by decide +kernel))) rfl⟩
theorem ok_X11_isLife : MOK mX11_isLife 1 := ⟨gt_mem (tb6 _ (List.mem_of_getElem? (i := 130) (by decide +kernel))) rfl, gt_mem (tb1 _ (List.mem_of_getElem? (i := 11) (by decide +kernel))) rfl, by decide +kernel⟩
theorem iv_X11_isLife : Cond.instanceMethod yX11_isLife ∈ gt ∧ Cond.selects RX11 yX11_isLife yX11_isLife ∈ gt := ⟨gt_mem (tb6 _ (List.mem_of_getElem? (i := 129) (by decide +kernel))) rfl, gt_mem (List.mem_append_left _ (List.mem_of_getElem? (i := 49) (by decide +kernel))) rfl⟩
theorem ok_X11_ageIn : MOK mX11_ageIn 2 := ⟨gt_mem (tb6 _ (List.mem_of_getElem? (i := 142) (by decide +kernel))) rfl, gt_mem (tb1 _ (List.mem_of_getElem? (i := 11) (by decide +kernel))) rfl, by decide +kernel⟩
theorem iv_X11_ageIn : Cond.instanceMethod yX11_ageIn ∈ gt ∧ Cond.selects RX11 yX11_ageIn yX11_ageIn ∈ gt := ⟨gt_mem (tb6 _ (List.mem_of_getElem? (i := 141) (by decide +kernel))) rfl, gt_mem (List.mem_append_left _ (List.mem_of_getElem? (i := 52) (by decide +kernel))) rfl⟩
theorem ok_X11_actOf : MOK mX11_actOf 5 := ⟨gt_mem (tb6 _ (List.mem_of_getElem? (i := 138) (by decide +kernel))) rfl, gt_mem (tb1 _ (List.mem_of_getElem? (i := 11) (by decide +kernel))) rfl, by decide +kernel⟩
theorem iv_X11_actOf : Cond.instanceMethod yX11_actOf ∈ gt ∧ Cond.selects RX11 yX11_actOf yX11_actOf ∈ gt := ⟨gt_mem (tb6 _ (List.mem_of_getElem? (i := 137) (by decide +kernel))) rfl, gt_mem (List.mem_append_left _ (List.mem_of_getElem? (i := 51) (by decide +kernel))) rfl⟩
theorem ok_X11_mayBe : MOK mX11_mayBe 2 := ⟨gt_mem (tb6 _ (List.mem_of_getElem? (i := 134) (by decide +kernel))) rfl, gt_mem (tb1 _ (List.mem_of_getElem? (i := 11) (by decide +kernel))) rfl, by decide +kernel⟩
theorem iv_X11_mayBe : Cond.instanceMethod yX11_mayBe ∈ gt ∧ Cond.selects RX11 yX11_mayBe yX11_mayBe ∈ gt := ⟨gt_mem (tb6 _ (List.mem_of_getElem? (i := 133) (by decide +kernel))) rfl, gt_mem (List.mem_append_left _ (List.mem_of_getElem? (i := 50) (by decide +kernel))) rfl⟩
theorem ok_X11_priceOf : MOK mX11_priceOf 2 := ⟨gt_mem (tb6 _ (List.mem_of_getElem? (i := 146) (by decide +kernel))) rfl, gt_mem (tb1 _ (List.mem_of_getElem? (i := 11) (by decide +kernel))) rfl, by decide +kernel⟩
theorem iv_X11_priceOf : Cond.instanceMethod yX11_priceOf ∈ gt ∧ Cond.selects RX11 yX11_priceOf yX11_priceOf ∈ gt := ⟨gt_mem (tb6 _ (List.mem_of_getElem? (i := 145) (by decide +kernel))) rfl, gt_mem (List.mem_append_left _ (List.mem_of_getElem? (i := 53) (by decide +kernel))) rfl⟩
theorem ok_X11_lumpOf : MOK mX11_lumpOf 2 := ⟨gt_mem (tb6 _ (List.mem_of_getElem? (i := 150) (by decide +kernel))) rfl, gt_mem (tb1 _ (List.mem_of_getElem? (i := 11) (by decide +kernel))) rfl, by decide +kernel⟩
theorem iv_X11_lumpOf : Cond.instanceMethod yX11_lumpOf ∈ gt ∧ Cond.selects RX11 yX11_lumpOf yX11_lumpOf ∈ gt := ⟨gt_mem (tb6 _ (List.mem_of_getElem? (i := 149) (by decide +kernel))) rfl, gt_mem (List.mem_append_left _ (List.mem_of_getElem? (i := 54) (by decide +kernel))) rfl⟩
theorem ok_X11_asks : MOK mX11_asks 2 := ⟨gt_mem (tb6 _ (List.mem_of_getElem? (i := 126) (by decide +kernel))) rfl, gt_mem (tb1 _ (List.mem_of_getElem? (i := 11) (by decide +kernel))) rfl, by decide +kernel⟩
theorem iv_X11_asks : Cond.instanceMethod yX11_asks ∈ gt ∧ Cond.selects RX11 yX11_asks yX11_asks ∈ gt := ⟨gt_mem (tb6 _ (List.mem_of_getElem? (i := 124) (by decide +kernel))) rfl, gt_mem (tb6 _ (List.mem_of_getElem? (i := 125) (by decide +kernel))) rfl⟩
theorem ok_X11_isHolder : MOK mX11_isHolder 1 := ⟨gt_mem (tb6 _ (List.mem_of_getElem? (i := 157) (by decide +kernel))) rfl, gt_mem (tb1 _ (List.mem_of_getElem? (i := 11) (by decide +kernel))) rfl, by decide +kernel⟩
theorem iv_X11_isHolder : Cond.static yX11_isHolder ∈ gt := gt_mem (tb6 _ (List.mem_of_getElem? (i := 156) (by decide +kernel))) rfl
theorem ok_X11_rent : MOK mX11_rent 4 := ⟨gt_mem (tb6 _ (List.mem_of_getElem? (i := 154) (by decide +kernel))) rfl, gt_mem (tb1 _ (List.mem_of_getElem? (i := 11) (by decide +kernel))) rfl, by decide +kernel⟩
theorem iv_X11_rent : Cond.instanceMethod yX11_rent ∈ gt ∧ Cond.selects RX11 yX11_rent yX11_rent ∈ gt := ⟨gt_mem (tb6 _ (List.mem_of_getElem? (i := 152) (by decide +kernel))) rfl, gt_mem (tb6 _ (List.mem_of_getElem? (i := 153) (by decide +kernel))) rfl⟩
theorem ok_X11_isRent : MOK mX11_isRent 1 := ⟨gt_mem (tb6 _ (List.mem_of_getElem? (i := 165) (by decide +kernel))) rfl, gt_mem (tb1 _ (List.mem_of_getElem? (i := 11) (by decide +kernel))) rfl, by decide +kernel⟩
theorem iv_X11_isRent : Cond.instanceMethod yX11_isRent ∈ gt ∧ Cond.selects RX11 yX11_isRent yX11_isRent ∈ gt := ⟨gt_mem (tb6 _ (List.mem_of_getElem? (i := 164) (by decide +kernel))) rfl, gt_mem (List.mem_append_left _ (List.mem_of_getElem? (i := 55) (by decide +kernel))) rfl⟩
theorem ok_X11_partsOf : MOK mX11_partsOf 3 := ⟨gt_mem (tb6 _ (List.mem_of_getElem? (i := 169) (by decide +kernel))) rfl, gt_mem (tb1 _ (List.mem_of_getElem? (i := 11) (by decide +kernel))) rfl, by decide +kernel⟩
theorem iv_X11_partsOf : Cond.instanceMethod yX11_partsOf ∈ gt ∧ Cond.selects RX11 yX11_partsOf yX11_partsOf ∈ gt := ⟨gt_mem (tb6 _ (List.mem_of_getElem? (i := 168) (by decide +kernel))) rfl, gt_mem (List.mem_append_left _ (List.mem_of_getElem? (i := 56) (by decide +kernel))) rfl⟩
theorem ok_X11_sell : MOK mX11_sell 4 := ⟨gt_mem (tb6 _ (List.mem_of_getElem? (i := 161) (by decide +kernel))) rfl, gt_mem (tb1 _ (List.mem_of_getElem? (i := 11) (by decide +kernel))) rfl, by decide +kernel⟩
theorem iv_X11_sell : Cond.instanceMethod yX11_sell ∈ gt ∧ Cond.selects RX11 yX11_sell yX11_sell ∈ gt := ⟨gt_mem (tb6 _ (List.mem_of_getElem? (i := 159) (by decide +kernel))) rfl, gt_mem (tb6 _ (List.mem_of_getElem? (i := 160) (by decide +kernel))) rfl⟩
theorem ok_X11_parts : MOK mX11_parts 3 := ⟨gt_mem (tb6 _ (List.mem_of_getElem? (i := 173) (by decide +kernel))) rfl, gt_mem (tb1 _ (List.mem_of_getElem? (i := 11) (by decide +kernel))) rfl, by decide +kernel⟩
theorem iv_X11_parts : Cond.instanceMethod yX11_parts ∈ gt ∧ Cond.selects RX11 yX11_parts yX11_parts ∈ gt := ⟨gt_mem (tb6 _ (List.mem_of_getElem? (i := 171) (by decide +kernel))) rfl, gt_mem (tb6 _ (List.mem_of_getElem? (i := 172) (by decide +kernel))) rfl⟩
theorem ok_X11_told : MOK mX11_told 3 := ⟨gt_mem (tb6 _ (List.mem_of_getElem? (i := 184) (by decide +kernel))) rfl, gt_mem (tb1 _ (List.mem_of_getElem? (i := 11) (by decide +kernel))) rfl, by decide +kernel⟩
theorem iv_X11_told : Cond.instanceMethod yX11_told ∈ gt ∧ Cond.selects RX11 yX11_told yX11_told ∈ gt := ⟨gt_mem (tb6 _ (List.mem_of_getElem? (i := 183) (by decide +kernel))) rfl, gt_mem (List.mem_append_left _ (List.mem_of_getElem? (i := 57) (by decide +kernel))) rfl⟩
theorem ok_X11_note : MOK mX11_note 3 := ⟨gt_mem (tb6 _ (List.mem_of_getElem? (i := 180) (by decide +kernel))) rfl, gt_mem (tb1 _ (List.mem_of_getElem? (i := 11) (by decide +kernel))) rfl, by decide +kernel⟩
theorem iv_X11_note : Cond.instanceMethod yX11_note ∈ gt ∧ Cond.selects RX11 yX11_note yX11_note ∈ gt := ⟨gt_mem (tb6 _ (List.mem_of_getElem? (i := 178) (by decide +kernel))) rfl, gt_mem (tb6 _ (List.mem_of_getElem? (i := 179) (by decide +kernel))) rfl⟩
theorem ok_X11_strike : MOK mX11_strike 1 := ⟨gt_mem (tb6 _ (List.mem_of_getElem? (i := 188) (by decide +kernel))) rfl, gt_mem (tb1 _ (List.mem_of_getElem? (i := 11) (by decide +kernel))) rfl, by decide +kernel⟩
theorem iv_X11_strike : Cond.instanceMethod yX11_strike ∈ gt ∧ Cond.selects RX11 yX11_strike yX11_strike ∈ gt := ⟨gt_mem (tb6 _ (List.mem_of_getElem? (i := 186) (by decide +kernel))) rfl, gt_mem (tb6 _ (List.mem_of_getElem? (i := 187) (by decide +kernel))) rfl⟩
theorem ok_X11_know : MOK mX11_know 1 := ⟨gt_mem (tb6 _ (List.mem_of_getElem? (i := 196) (by decide +kernel))) rfl, gt_mem (tb1 _ (List.mem_of_getElem? (i := 11) (by decide +kernel))) rfl, by decide +kernel⟩
theorem iv_X11_know : Cond.instanceMethod yX11_know ∈ gt ∧ Cond.selects RX11 yX11_know yX11_know ∈ gt := ⟨gt_mem (tb6 _ (List.mem_of_getElem? (i := 195) (by decide +kernel))) rfl, gt_mem (List.mem_append_left _ (List.mem_of_getElem? (i := 58) (by decide +kernel))) rfl⟩
theorem ok_X11_isFalse : MOK mX11_isFalse 1 := ⟨gt_mem (tb6 _ (List.mem_of_getElem? (i := 204) (by decide +kernel))) rfl, gt_mem (tb1 _ (List.mem_of_getElem? (i := 11) (by decide +kernel))) rfl, by decide +kernel⟩
theorem iv_X11_isFalse : Cond.instanceMethod yX11_isFalse ∈ gt ∧ Cond.selects RX11 yX11_isFalse yX11_isFalse ∈ gt := ⟨gt_mem (tb6 _ (List.mem_of_getElem? (i := 203) (by decide +kernel))) rfl, gt_mem (List.mem_append_left _ (List.mem_of_getElem? (i := 59) (by decide +kernel))) rfl⟩
theorem ok_X11_dead : MOK mX11_dead 2 := ⟨gt_mem (tb6 _ (List.mem_of_getElem? (i := 192) (by decide +kernel))) rfl, gt_mem (tb1 _ (List.mem_of_getElem? (i := 11) (by decide +kernel))) rfl, by decide +kernel⟩
theorem iv_X11_dead : Cond.instanceMethod yX11_dead ∈ gt ∧ Cond.selects RX11 yX11_dead yX11_dead ∈ gt := ⟨gt_mem (tb6 _ (List.mem_of_getElem? (i := 190) (by decide +kernel))) rfl, gt_mem (tb6 _ (List.mem_of_getElem? (i := 191) (by decide +kernel))) rfl⟩
theorem ok_X11_holds : MOK mX11_holds 2 := ⟨gt_mem (tb6 _ (List.mem_of_getElem? (i := 200) (by decide +kernel))) rfl, gt_mem (tb1 _ (List.mem_of_getElem? (i := 11) (by decide +kernel))) rfl, by decide +kernel⟩
theorem iv_X11_holds : Cond.instanceMethod yX11_holds ∈ gt ∧ Cond.selects RX11 yX11_holds yX11_holds ∈ gt := ⟨gt_mem (tb6 _ (List.mem_of_getElem? (i := 198) (by decide +kernel))) rfl, gt_mem (tb6 _ (List.mem_of_getElem? (i := 199) (by decide +kernel))) rfl⟩
theorem ok_X11_lives : MOK mX11_lives 2 := ⟨gt_mem (tb6 _ (List.mem_of_getElem? (i := 220) (by decide +kernel))) rfl, gt_mem (tb1 _ (List.mem_of_getElem? (i := 11) (by decide +kernel))) rfl, by decide +kernel⟩
theorem iv_X11_lives : Cond.instanceMethod yX11_lives ∈ gt ∧ Cond.selects RX11 yX11_lives yX11_lives ∈ gt := ⟨gt_mem (tb6 _ (List.mem_of_getElem? (i := 219) (by decide +kernel))) rfl, gt_mem (List.mem_append_left _ (List.mem_of_getElem? (i := 62) (by decide +kernel))) rfl⟩
theorem ok_X11_isDue : MOK mX11_isDue 2 := ⟨gt_mem (tb6 _ (List.mem_of_getElem? (i := 216) (by decide +kernel))) rfl, gt_mem (tb1 _ (List.mem_of_getElem? (i := 11) (by decide +kernel))) rfl, by decide +kernel⟩
theorem iv_X11_isDue : Cond.instanceMethod yX11_isDue ∈ gt ∧ Cond.selects RX11 yX11_isDue yX11_isDue ∈ gt := ⟨gt_mem (tb6 _ (List.mem_of_getElem? (i := 215) (by decide +kernel))) rfl, gt_mem (List.mem_append_left _ (List.mem_of_getElem? (i := 61) (by decide +kernel))) rfl⟩
theorem ok_X11_isProved : MOK mX11_isProved 2 := ⟨gt_mem (tb6 _ (List.mem_of_getElem? (i := 224) (by decide +kernel))) rfl, gt_mem (tb1 _ (List.mem_of_getElem? (i := 11) (by decide +kernel))) rfl, by decide +kernel⟩
theorem iv_X11_isProved : Cond.instanceMethod yX11_isProved ∈ gt ∧ Cond.selects RX11 yX11_isProved yX11_isProved ∈ gt := ⟨gt_mem (tb6 _ (List.mem_of_getElem? (i := 223) (by decide +kernel))) rfl, gt_mem (List.mem_append_left _ (List.mem_of_getElem? (i := 63) (by decide +kernel))) rfl⟩
theorem ok_X11_pays : MOK mX11_pays 1 := ⟨gt_mem (tb6 _ (List.mem_of_getElem? (i := 212) (by decide +kernel))) rfl, gt_mem (tb1 _ (List.mem_of_getElem? (i := 11) (by decide +kernel))) rfl, by decide +kernel⟩
theorem iv_X11_pays : Cond.instanceMethod yX11_pays ∈ gt ∧ Cond.selects RX11 yX11_pays yX11_pays ∈ gt := ⟨gt_mem (tb6 _ (List.mem_of_getElem? (i := 211) (by decide +kernel))) rfl, gt_mem (List.mem_append_left _ (List.mem_of_getElem? (i := 60) (by decide +kernel))) rfl⟩
theorem ok_X11_shares : MOK mX11_shares 2 := ⟨gt_mem (tb6 _ (List.mem_of_getElem? (i := 228) (by decide +kernel))) rfl, gt_mem (tb1 _ (List.mem_of_getElem? (i := 11) (by decide +kernel))) rfl, by decide +kernel⟩
theorem iv_X11_shares : Cond.instanceMethod yX11_shares ∈ gt ∧ Cond.selects RX11 yX11_shares yX11_shares ∈ gt := ⟨gt_mem (tb6 _ (List.mem_of_getElem? (i := 227) (by decide +kernel))) rfl, gt_mem (List.mem_append_left _ (List.mem_of_getElem? (i := 64) (by decide +kernel))) rfl⟩
theorem ok_X11_paid : MOK mX11_paid 3 := ⟨gt_mem (tb6 _ (List.mem_of_getElem? (i := 208) (by decide +kernel))) rfl, gt_mem (tb1 _ (List.mem_of_getElem? (i := 11) (by decide +kernel))) rfl, by decide +kernel⟩
theorem iv_X11_paid : Cond.instanceMethod yX11_paid ∈ gt ∧ Cond.selects RX11 yX11_paid yX11_paid ∈ gt := ⟨gt_mem (tb6 _ (List.mem_of_getElem? (i := 206) (by decide +kernel))) rfl, gt_mem (tb6 _ (List.mem_of_getElem? (i := 207) (by decide +kernel))) rfl⟩
theorem ok_X11_got : MOK mX11_got 2 := ⟨gt_mem (tb6 _ (List.mem_of_getElem? (i := 232) (by decide +kernel))) rfl, gt_mem (tb1 _ (List.mem_of_getElem? (i := 11) (by decide +kernel))) rfl, by decide +kernel⟩
theorem iv_X11_got : Cond.instanceMethod yX11_got ∈ gt ∧ Cond.selects RX11 yX11_got yX11_got ∈ gt := ⟨gt_mem (tb6 _ (List.mem_of_getElem? (i := 230) (by decide +kernel))) rfl, gt_mem (tb6 _ (List.mem_of_getElem? (i := 231) (by decide +kernel))) rfl⟩
theorem ok_X11_owedOf : MOK mX11_owedOf 1 := ⟨gt_mem (tb7 _ (List.mem_of_getElem? (i := 0) (by decide +kernel))) rfl, gt_mem (tb1 _ (List.mem_of_getElem? (i := 11) (by decide +kernel))) rfl, by decide +kernel⟩
theorem iv_X11_owedOf : Cond.instanceMethod yX11_owedOf ∈ gt ∧ Cond.selects RX11 yX11_owedOf yX11_owedOf ∈ gt := ⟨gt_mem (tb6 _ (List.mem_of_getElem? (i := 239) (by decide +kernel))) rfl, gt_mem (List.mem_append_left _ (List.mem_of_getElem? (i := 65) (by decide +kernel))) rfl⟩
theorem ok_X11_owed : MOK mX11_owed 2 := ⟨gt_mem (tb6 _ (List.mem_of_getElem? (i := 236) (by decide +kernel))) rfl, gt_mem (tb1 _ (List.mem_of_getElem? (i := 11) (by decide +kernel))) rfl, by decide +kernel⟩
theorem iv_X11_owed : Cond.instanceMethod yX11_owed ∈ gt ∧ Cond.selects RX11 yX11_owed yX11_owed ∈ gt := ⟨gt_mem (tb6 _ (List.mem_of_getElem? (i := 234) (by decide +kernel))) rfl, gt_mem (tb6 _ (List.mem_of_getElem? (i := 235) (by decide +kernel))) rfl⟩
theorem ok_X11_state : MOK mX11_state 2 := ⟨gt_mem (tb7 _ (List.mem_of_getElem? (i := 4) (by decide +kernel))) rfl, gt_mem (tb1 _ (List.mem_of_getElem? (i := 11) (by decide +kernel))) rfl, by decide +kernel⟩
theorem iv_X11_state : Cond.instanceMethod yX11_state ∈ gt ∧ Cond.selects RX11 yX11_state yX11_state ∈ gt := ⟨gt_mem (tb7 _ (List.mem_of_getElem? (i := 2) (by decide +kernel))) rfl, gt_mem (tb7 _ (List.mem_of_getElem? (i := 3) (by decide +kernel))) rfl⟩
theorem ok_X11_sold : MOK mX11_sold 3 := ⟨gt_mem (tb7 _ (List.mem_of_getElem? (i := 8) (by decide +kernel))) rfl, gt_mem (tb1 _ (List.mem_of_getElem? (i := 11) (by decide +kernel))) rfl, by decide +kernel⟩
theorem iv_X11_sold : Cond.instanceMethod yX11_sold ∈ gt ∧ Cond.selects RX11 yX11_sold yX11_sold ∈ gt := ⟨gt_mem (tb7 _ (List.mem_of_getElem? (i := 6) (by decide +kernel))) rfl, gt_mem (tb7 _ (List.mem_of_getElem? (i := 7) (by decide +kernel))) rfl⟩
theorem ok_X11_groupOf : MOK mX11_groupOf 1 := ⟨gt_mem (tb7 _ (List.mem_of_getElem? (i := 43) (by decide +kernel))) rfl, gt_mem (tb1 _ (List.mem_of_getElem? (i := 11) (by decide +kernel))) rfl, by decide +kernel⟩
theorem iv_X11_groupOf : Cond.static yX11_groupOf ∈ gt := gt_mem (tb7 _ (List.mem_of_getElem? (i := 42) (by decide +kernel))) rfl
theorem ok_X11_years : MOK mX11_years 3 := ⟨gt_mem (tb7 _ (List.mem_of_getElem? (i := 16) (by decide +kernel))) rfl, gt_mem (tb1 _ (List.mem_of_getElem? (i := 11) (by decide +kernel))) rfl, by decide +kernel⟩
theorem iv_X11_years : Cond.instanceMethod yX11_years ∈ gt ∧ Cond.selects RX11 yX11_years yX11_years ∈ gt := ⟨gt_mem (tb7 _ (List.mem_of_getElem? (i := 15) (by decide +kernel))) rfl, gt_mem (List.mem_append_left _ (List.mem_of_getElem? (i := 66) (by decide +kernel))) rfl⟩
theorem ok_X11_lived : MOK mX11_lived 3 := ⟨gt_mem (tb7 _ (List.mem_of_getElem? (i := 20) (by decide +kernel))) rfl, gt_mem (tb1 _ (List.mem_of_getElem? (i := 11) (by decide +kernel))) rfl, by decide +kernel⟩
theorem iv_X11_lived : Cond.instanceMethod yX11_lived ∈ gt ∧ Cond.selects RX11 yX11_lived yX11_lived ∈ gt := ⟨gt_mem (tb7 _ (List.mem_of_getElem? (i := 19) (by decide +kernel))) rfl, gt_mem (List.mem_append_left _ (List.mem_of_getElem? (i := 67) (by decide +kernel))) rfl⟩
theorem ok_X11_own : MOK mX11_own 4 := ⟨gt_mem (tb7 _ (List.mem_of_getElem? (i := 12) (by decide +kernel))) rfl, gt_mem (tb1 _ (List.mem_of_getElem? (i := 11) (by decide +kernel))) rfl, by decide +kernel⟩
theorem iv_X11_own : Cond.instanceMethod yX11_own ∈ gt ∧ Cond.selects RX11 yX11_own yX11_own ∈ gt := ⟨gt_mem (tb7 _ (List.mem_of_getElem? (i := 10) (by decide +kernel))) rfl, gt_mem (tb7 _ (List.mem_of_getElem? (i := 11) (by decide +kernel))) rfl⟩
theorem ok_X11_lay : MOK mX11_lay 1 := ⟨gt_mem (tb7 _ (List.mem_of_getElem? (i := 28) (by decide +kernel))) rfl, gt_mem (tb1 _ (List.mem_of_getElem? (i := 11) (by decide +kernel))) rfl, by decide +kernel⟩
theorem iv_X11_lay : Cond.instanceMethod yX11_lay ∈ gt ∧ Cond.selects RX11 yX11_lay yX11_lay ∈ gt := ⟨gt_mem (tb7 _ (List.mem_of_getElem? (i := 27) (by decide +kernel))) rfl, gt_mem (List.mem_append_left _ (List.mem_of_getElem? (i := 68) (by decide +kernel))) rfl⟩
theorem ok_X11_liveOf : MOK mX11_liveOf 2 := ⟨gt_mem (tb7 _ (List.mem_of_getElem? (i := 40) (by decide +kernel))) rfl, gt_mem (tb1 _ (List.mem_of_getElem? (i := 11) (by decide +kernel))) rfl, by decide +kernel⟩
theorem iv_X11_liveOf : Cond.instanceMethod yX11_liveOf ∈ gt ∧ Cond.selects RX11 yX11_liveOf yX11_liveOf ∈ gt := ⟨gt_mem (tb7 _ (List.mem_of_getElem? (i := 39) (by decide +kernel))) rfl, gt_mem (List.mem_append_left _ (List.mem_of_getElem? (i := 71) (by decide +kernel))) rfl⟩
theorem ok_X11_yearBack : MOK mX11_yearBack 2 := ⟨gt_mem (tb7 _ (List.mem_of_getElem? (i := 47) (by decide +kernel))) rfl, gt_mem (tb1 _ (List.mem_of_getElem? (i := 11) (by decide +kernel))) rfl, by decide +kernel⟩
theorem iv_X11_yearBack : Cond.instanceMethod yX11_yearBack ∈ gt ∧ Cond.selects RX11 yX11_yearBack yX11_yearBack ∈ gt := ⟨gt_mem (tb7 _ (List.mem_of_getElem? (i := 46) (by decide +kernel))) rfl, gt_mem (List.mem_append_left _ (List.mem_of_getElem? (i := 72) (by decide +kernel))) rfl⟩
theorem ok_X11_worthOf : MOK mX11_worthOf 1 := ⟨gt_mem (tb7 _ (List.mem_of_getElem? (i := 36) (by decide +kernel))) rfl, gt_mem (tb1 _ (List.mem_of_getElem? (i := 11) (by decide +kernel))) rfl, by decide +kernel⟩
theorem iv_X11_worthOf : Cond.instanceMethod yX11_worthOf ∈ gt ∧ Cond.selects RX11 yX11_worthOf yX11_worthOf ∈ gt := ⟨gt_mem (tb7 _ (List.mem_of_getElem? (i := 35) (by decide +kernel))) rfl, gt_mem (List.mem_append_left _ (List.mem_of_getElem? (i := 70) (by decide +kernel))) rfl⟩
theorem ok_X11_bothOf : MOK mX11_bothOf 2 := ⟨gt_mem (tb7 _ (List.mem_of_getElem? (i := 51) (by decide +kernel))) rfl, gt_mem (tb1 _ (List.mem_of_getElem? (i := 11) (by decide +kernel))) rfl, by decide +kernel⟩
theorem iv_X11_bothOf : Cond.instanceMethod yX11_bothOf ∈ gt ∧ Cond.selects RX11 yX11_bothOf yX11_bothOf ∈ gt := ⟨gt_mem (tb7 _ (List.mem_of_getElem? (i := 50) (by decide +kernel))) rfl, gt_mem (List.mem_append_left _ (List.mem_of_getElem? (i := 73) (by decide +kernel))) rfl⟩
theorem ok_X11_worthOn : MOK mX11_worthOn 2 := ⟨gt_mem (tb7 _ (List.mem_of_getElem? (i := 32) (by decide +kernel))) rfl, gt_mem (tb1 _ (List.mem_of_getElem? (i := 11) (by decide +kernel))) rfl, by decide +kernel⟩
theorem iv_X11_worthOn : Cond.instanceMethod yX11_worthOn ∈ gt ∧ Cond.selects RX11 yX11_worthOn yX11_worthOn ∈ gt := ⟨gt_mem (tb7 _ (List.mem_of_getElem? (i := 31) (by decide +kernel))) rfl, gt_mem (List.mem_append_left _ (List.mem_of_getElem? (i := 69) (by decide +kernel))) rfl⟩
theorem ok_X11_worth : MOK mX11_worth 3 := ⟨gt_mem (tb7 _ (List.mem_of_getElem? (i := 24) (by decide +kernel))) rfl, gt_mem (tb1 _ (List.mem_of_getElem? (i := 11) (by decide +kernel))) rfl, by decide +kernel⟩
theorem iv_X11_worth : Cond.instanceMethod yX11_worth ∈ gt ∧ Cond.selects RX11 yX11_worth yX11_worth ∈ gt := ⟨gt_mem (tb7 _ (List.mem_of_getElem? (i := 22) (by decide +kernel))) rfl, gt_mem (tb7 _ (List.mem_of_getElem? (i := 23) (by decide +kernel))) rfl⟩
theorem ok_X11_names : MOK mX11_names 1 := ⟨gt_mem (tb7 _ (List.mem_of_getElem? (i := 55) (by decide +kernel))) rfl, gt_mem (tb1 _ (List.mem_of_getElem? (i := 11) (by decide +kernel))) rfl, by decide +kernel⟩
theorem iv_X11_names : Cond.instanceMethod yX11_names ∈ gt ∧ Cond.selects RX11 yX11_names yX11_names ∈ gt := ⟨gt_mem (tb7 _ (List.mem_of_getElem? (i := 53) (by decide +kernel))) rfl, gt_mem (tb7 _ (List.mem_of_getElem? (i := 54) (by decide +kernel))) rfl⟩
theorem ok_X11_named : MOK mX11_named 1 := ⟨gt_mem (tb7 _ (List.mem_of_getElem? (i := 61) (by decide +kernel))) rfl, gt_mem (tb1 _ (List.mem_of_getElem? (i := 11) (by decide +kernel))) rfl, by decide +kernel⟩
theorem iv_X11_named : Cond.instanceMethod yX11_named ∈ gt ∧ Cond.selects RX11 yX11_named yX11_named ∈ gt := ⟨gt_mem (tb7 _ (List.mem_of_getElem? (i := 59) (by decide +kernel))) rfl, gt_mem (tb7 _ (List.mem_of_getElem? (i := 60) (by decide +kernel))) rfl⟩
theorem ok_X11_riskOf : MOK mX11_riskOf 1 := ⟨gt_mem (tb7 _ (List.mem_of_getElem? (i := 69) (by decide +kernel))) rfl, gt_mem (tb1 _ (List.mem_of_getElem? (i := 11) (by decide +kernel))) rfl, by decide +kernel⟩
theorem iv_X11_riskOf : Cond.instanceMethod yX11_riskOf ∈ gt ∧ Cond.selects RX11 yX11_riskOf yX11_riskOf ∈ gt := ⟨gt_mem (tb7 _ (List.mem_of_getElem? (i := 68) (by decide +kernel))) rfl, gt_mem (List.mem_append_left _ (List.mem_of_getElem? (i := 74) (by decide +kernel))) rfl⟩
theorem ok_X11_look : MOK mX11_look 1 := ⟨gt_mem (tb7 _ (List.mem_of_getElem? (i := 65) (by decide +kernel))) rfl, gt_mem (tb1 _ (List.mem_of_getElem? (i := 11) (by decide +kernel))) rfl, by decide +kernel⟩
theorem iv_X11_look : Cond.instanceMethod yX11_look ∈ gt ∧ Cond.selects RX11 yX11_look yX11_look ∈ gt := ⟨gt_mem (tb7 _ (List.mem_of_getElem? (i := 63) (by decide +kernel))) rfl, gt_mem (tb7 _ (List.mem_of_getElem? (i := 64) (by decide +kernel))) rfl⟩
theorem ok_X11_fails : MOK mX11_fails 1 := ⟨gt_mem (tb7 _ (List.mem_of_getElem? (i := 77) (by decide +kernel))) rfl, gt_mem (tb1 _ (List.mem_of_getElem? (i := 11) (by decide +kernel))) rfl, by decide +kernel⟩
theorem iv_X11_fails : Cond.instanceMethod yX11_fails ∈ gt ∧ Cond.selects RX11 yX11_fails yX11_fails ∈ gt := ⟨gt_mem (tb7 _ (List.mem_of_getElem? (i := 76) (by decide +kernel))) rfl, gt_mem (List.mem_append_left _ (List.mem_of_getElem? (i := 75) (by decide +kernel))) rfl⟩
theorem ok_X11_risk : MOK mX11_risk 1 := ⟨gt_mem (tb7 _ (List.mem_of_getElem? (i := 73) (by decide +kernel))) rfl, gt_mem (tb1 _ (List.mem_of_getElem? (i := 11) (by decide +kernel))) rfl, by decide +kernel⟩
theorem iv_X11_risk : Cond.instanceMethod yX11_risk ∈ gt ∧ Cond.selects RX11 yX11_risk yX11_risk ∈ gt := ⟨gt_mem (tb7 _ (List.mem_of_getElem? (i := 71) (by decide +kernel))) rfl, gt_mem (tb7 _ (List.mem_of_getElem? (i := 72) (by decide +kernel))) rfl⟩
theorem ok_X11_living : MOK mX11_living 1 := ⟨gt_mem (tb7 _ (List.mem_of_getElem? (i := 85) (by decide +kernel))) rfl, gt_mem (tb1 _ (List.mem_of_getElem? (i := 11) (by decide +kernel))) rfl, by decide +kernel⟩
theorem iv_X11_living : Cond.instanceMethod yX11_living ∈ gt ∧ Cond.selects RX11 yX11_living yX11_living ∈ gt := ⟨gt_mem (tb7 _ (List.mem_of_getElem? (i := 84) (by decide +kernel))) rfl, gt_mem (List.mem_append_left _ (List.mem_of_getElem? (i := 76) (by decide +kernel))) rfl⟩
theorem ok_X11_converts : MOK mX11_converts 1 := ⟨gt_mem (tb7 _ (List.mem_of_getElem? (i := 81) (by decide +kernel))) rfl, gt_mem (tb1 _ (List.mem_of_getElem? (i := 11) (by decide +kernel))) rfl, by decide +kernel⟩
theorem iv_X11_converts : Cond.instanceMethod yX11_converts ∈ gt ∧ Cond.selects RX11 yX11_converts yX11_converts ∈ gt := ⟨gt_mem (tb7 _ (List.mem_of_getElem? (i := 79) (by decide +kernel))) rfl, gt_mem (tb7 _ (List.mem_of_getElem? (i := 80) (by decide +kernel))) rfl⟩
theorem ok_X11_count : MOK mX11_count 1 := ⟨gt_mem (tb7 _ (List.mem_of_getElem? (i := 91) (by decide +kernel))) rfl, gt_mem (tb1 _ (List.mem_of_getElem? (i := 11) (by decide +kernel))) rfl, by decide +kernel⟩
theorem iv_X11_count : Cond.instanceMethod yX11_count ∈ gt ∧ Cond.selects RX11 yX11_count yX11_count ∈ gt := ⟨gt_mem (tb7 _ (List.mem_of_getElem? (i := 89) (by decide +kernel))) rfl, gt_mem (tb7 _ (List.mem_of_getElem? (i := 90) (by decide +kernel))) rfl⟩
