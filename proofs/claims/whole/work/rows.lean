section
def lw_okq (q : MethodName × Nat) : Prop := (q.1.cls ≠ "java/lang/invoke/MethodHandle" ∧ q.1.cls ≠ "java/lang/invoke/VarHandle") ∧ Cond.instantiable q.1.cls q.2 ∈ tables_1 ∧ Cond.privateMethod q.1 ∈ tables_1 ∧ Cond.instanceMethod q.1 ∈ tables_1
theorem lw_p0 : lw_okq (⟨"LifeRents$Reader", "skipBlanks", "()V"⟩, 16) := ⟨⟨by decide +kernel, by decide +kernel⟩, List.mem_of_getElem? (i := 34) (by decide +kernel), List.mem_of_getElem? (i := 403) (by decide +kernel), List.mem_of_getElem? (i := 404) (by decide +kernel)⟩
theorem lw_p1 : lw_okq (⟨"LifeRents$Reader", "takeToken", "()V"⟩, 16) := ⟨⟨by decide +kernel, by decide +kernel⟩, List.mem_of_getElem? (i := 34) (by decide +kernel), List.mem_of_getElem? (i := 407) (by decide +kernel), List.mem_of_getElem? (i := 408) (by decide +kernel)⟩
theorem lw_p2 : lw_okq (⟨"LifeRents$Reader", "takeWord", "()V"⟩, 16) := ⟨⟨by decide +kernel, by decide +kernel⟩, List.mem_of_getElem? (i := 34) (by decide +kernel), List.mem_of_getElem? (i := 414) (by decide +kernel), List.mem_of_getElem? (i := 415) (by decide +kernel)⟩
theorem lw_p3 : lw_okq (⟨"LifeRents$Reader", "spells", "(Ljava/lang/String;)Z"⟩, 16) := ⟨⟨by decide +kernel, by decide +kernel⟩, List.mem_of_getElem? (i := 34) (by decide +kernel), List.mem_of_getElem? (i := 420) (by decide +kernel), List.mem_of_getElem? (i := 421) (by decide +kernel)⟩
theorem lw_p4 : lw_okq (⟨"LifeRents$Reader", "takeNumber", "()V"⟩, 16) := ⟨⟨by decide +kernel, by decide +kernel⟩, List.mem_of_getElem? (i := 34) (by decide +kernel), List.mem_of_getElem? (i := 475) (by decide +kernel), List.mem_of_getElem? (i := 476) (by decide +kernel)⟩
theorem lw_p5 : lw_okq (⟨"LifeRents$Reader", "put", "()I"⟩, 16) := ⟨⟨by decide +kernel, by decide +kernel⟩, List.mem_of_getElem? (i := 34) (by decide +kernel), List.mem_of_getElem? (i := 480) (by decide +kernel), List.mem_of_getElem? (i := 481) (by decide +kernel)⟩
theorem lw_p6 : lw_okq (⟨"LifeRents$Reader", "putLineWord", "()I"⟩, 16) := ⟨⟨by decide +kernel, by decide +kernel⟩, List.mem_of_getElem? (i := 34) (by decide +kernel), List.mem_of_getElem? (i := 484) (by decide +kernel), List.mem_of_getElem? (i := 485) (by decide +kernel)⟩
theorem lw_p7 : lw_okq (⟨"LifeRents$Reader", "putAmount", "()I"⟩, 16) := ⟨⟨by decide +kernel, by decide +kernel⟩, List.mem_of_getElem? (i := 34) (by decide +kernel), List.mem_of_getElem? (i := 492) (by decide +kernel), List.mem_of_getElem? (i := 493) (by decide +kernel)⟩
theorem lw_p8 : lw_okq (⟨"LifeRents$Reader", "numberFault", "()I"⟩, 16) := ⟨⟨by decide +kernel, by decide +kernel⟩, List.mem_of_getElem? (i := 34) (by decide +kernel), List.mem_of_getElem? (i := 496) (by decide +kernel), List.mem_of_getElem? (i := 497) (by decide +kernel)⟩
theorem lw_p9 : lw_okq (⟨"LifeRents$Reader", "putWhom", "()I"⟩, 16) := ⟨⟨by decide +kernel, by decide +kernel⟩, List.mem_of_getElem? (i := 34) (by decide +kernel), List.mem_of_getElem? (i := 500) (by decide +kernel), List.mem_of_getElem? (i := 501) (by decide +kernel)⟩
theorem lw_p10 : lw_okq (⟨"LifeRents$Reader", "putLineEnd", "()I"⟩, 16) := ⟨⟨by decide +kernel, by decide +kernel⟩, List.mem_of_getElem? (i := 34) (by decide +kernel), List.mem_of_getElem? (i := 504) (by decide +kernel), List.mem_of_getElem? (i := 505) (by decide +kernel)⟩
theorem lw_p11 : lw_okq (⟨"LifeRents$Reader", "putFrom", "()I"⟩, 16) := ⟨⟨by decide +kernel, by decide +kernel⟩, List.mem_of_getElem? (i := 34) (by decide +kernel), List.mem_of_getElem? (i := 523) (by decide +kernel), List.mem_of_getElem? (i := 524) (by decide +kernel)⟩
theorem lw_p12 : lw_okq (⟨"LifeRents$Reader", "putUpTo", "()I"⟩, 16) := ⟨⟨by decide +kernel, by decide +kernel⟩, List.mem_of_getElem? (i := 34) (by decide +kernel), List.mem_of_getElem? (i := 529) (by decide +kernel), List.mem_of_getElem? (i := 530) (by decide +kernel)⟩
theorem lw_p13 : lw_okq (⟨"LifeRents$Reader", "putClass", "()I"⟩, 16) := ⟨⟨by decide +kernel, by decide +kernel⟩, List.mem_of_getElem? (i := 34) (by decide +kernel), List.mem_of_getElem? (i := 533) (by decide +kernel), List.mem_of_getElem? (i := 534) (by decide +kernel)⟩
theorem lw_p14 : lw_okq (⟨"LifeRents", "mayBeNamed", "(II)Z"⟩, 10) := ⟨⟨by decide +kernel, by decide +kernel⟩, List.mem_of_getElem? (i := 26) (by decide +kernel), List.mem_of_getElem? (i := 570) (by decide +kernel), List.mem_of_getElem? (i := 571) (by decide +kernel)⟩
theorem lw_p15 : lw_okq (⟨"LifeRents", "ruling", "(LLifeRents$Word;LLifeRents$Word;II)LLifeRents$Line;"⟩, 10) := ⟨⟨by decide +kernel, by decide +kernel⟩, List.mem_of_getElem? (i := 26) (by decide +kernel), List.mem_of_getElem? (i := 577) (by decide +kernel), List.mem_of_getElem? (i := 578) (by decide +kernel)⟩
def lw_privs_1 : List (MethodName × Nat) := [(⟨"LifeRents$Reader", "skipBlanks", "()V"⟩, 16), (⟨"LifeRents$Reader", "takeToken", "()V"⟩, 16), (⟨"LifeRents$Reader", "takeWord", "()V"⟩, 16), (⟨"LifeRents$Reader", "spells", "(Ljava/lang/String;)Z"⟩, 16), (⟨"LifeRents$Reader", "takeNumber", "()V"⟩, 16), (⟨"LifeRents$Reader", "put", "()I"⟩, 16), (⟨"LifeRents$Reader", "putLineWord", "()I"⟩, 16), (⟨"LifeRents$Reader", "putAmount", "()I"⟩, 16), (⟨"LifeRents$Reader", "numberFault", "()I"⟩, 16), (⟨"LifeRents$Reader", "putWhom", "()I"⟩, 16), (⟨"LifeRents$Reader", "putLineEnd", "()I"⟩, 16), (⟨"LifeRents$Reader", "putFrom", "()I"⟩, 16), (⟨"LifeRents$Reader", "putUpTo", "()I"⟩, 16), (⟨"LifeRents$Reader", "putClass", "()I"⟩, 16), (⟨"LifeRents", "mayBeNamed", "(II)Z"⟩, 10), (⟨"LifeRents", "ruling", "(LLifeRents$Word;LLifeRents$Word;II)LLifeRents$Line;"⟩, 10)]
theorem lw_r1 : ∀ q ∈ lw_privs_1, lw_okq q := List.forall_mem_cons.mpr ⟨lw_p0, List.forall_mem_cons.mpr ⟨lw_p1, List.forall_mem_cons.mpr ⟨lw_p2, List.forall_mem_cons.mpr ⟨lw_p3, List.forall_mem_cons.mpr ⟨lw_p4, List.forall_mem_cons.mpr ⟨lw_p5, List.forall_mem_cons.mpr ⟨lw_p6, List.forall_mem_cons.mpr ⟨lw_p7, List.forall_mem_cons.mpr ⟨lw_p8, List.forall_mem_cons.mpr ⟨lw_p9, List.forall_mem_cons.mpr ⟨lw_p10, List.forall_mem_cons.mpr ⟨lw_p11, List.forall_mem_cons.mpr ⟨lw_p12, List.forall_mem_cons.mpr ⟨lw_p13, List.forall_mem_cons.mpr ⟨lw_p14, List.forall_mem_cons.mpr ⟨lw_p15, fun _ h => absurd h List.not_mem_nil⟩⟩⟩⟩⟩⟩⟩⟩⟩⟩⟩⟩⟩⟩⟩⟩
theorem lw_p16 : lw_okq (⟨"LifeRents", "priceOn", "(II)I"⟩, 10) := ⟨⟨by decide +kernel, by decide +kernel⟩, List.mem_of_getElem? (i := 26) (by decide +kernel), List.mem_of_getElem? (i := 598) (by decide +kernel), List.mem_of_getElem? (i := 599) (by decide +kernel)⟩
theorem lw_p17 : lw_okq (⟨"LifeRents", "lumpOn", "(II)I"⟩, 10) := ⟨⟨by decide +kernel, by decide +kernel⟩, List.mem_of_getElem? (i := 26) (by decide +kernel), List.mem_of_getElem? (i := 604) (by decide +kernel), List.mem_of_getElem? (i := 605) (by decide +kernel)⟩
theorem lw_p18 : lw_okq (⟨"LifeRents$Ledger", "spreadParts", "(II)V"⟩, 11) := ⟨⟨by decide +kernel, by decide +kernel⟩, List.mem_of_getElem? (i := 229) (by decide +kernel), List.mem_of_getElem? (i := 679) (by decide +kernel), List.mem_of_getElem? (i := 680) (by decide +kernel)⟩
theorem lw_p19 : lw_okq (⟨"LifeRents$Book", "knowDeaths", "()V"⟩, 10) := ⟨⟨by decide +kernel, by decide +kernel⟩, List.mem_of_getElem? (i := 186) (by decide +kernel), List.mem_of_getElem? (i := 719) (by decide +kernel), List.mem_of_getElem? (i := 720) (by decide +kernel)⟩
theorem lw_p20 : lw_okq (⟨"LifeRents$Book", "livedIn", "(II)Z"⟩, 10) := ⟨⟨by decide +kernel, by decide +kernel⟩, List.mem_of_getElem? (i := 186) (by decide +kernel), List.mem_of_getElem? (i := 723) (by decide +kernel), List.mem_of_getElem? (i := 724) (by decide +kernel)⟩
theorem lw_p21 : lw_okq (⟨"LifeRents$Ledger", "pay", "(IIII)V"⟩, 11) := ⟨⟨by decide +kernel, by decide +kernel⟩, List.mem_of_getElem? (i := 229) (by decide +kernel), List.mem_of_getElem? (i := 756) (by decide +kernel), List.mem_of_getElem? (i := 757) (by decide +kernel)⟩
theorem lw_p22 : lw_okq (⟨"LifeRents", "hasBegun", "(I)Z"⟩, 10) := ⟨⟨by decide +kernel, by decide +kernel⟩, List.mem_of_getElem? (i := 26) (by decide +kernel), List.mem_of_getElem? (i := 784) (by decide +kernel), List.mem_of_getElem? (i := 785) (by decide +kernel)⟩
theorem lw_p23 : lw_okq (⟨"LifeRents$Ledger", "shareOf", "(III)I"⟩, 11) := ⟨⟨by decide +kernel, by decide +kernel⟩, List.mem_of_getElem? (i := 229) (by decide +kernel), List.mem_of_getElem? (i := 796) (by decide +kernel), List.mem_of_getElem? (i := 797) (by decide +kernel)⟩
theorem lw_p24 : lw_okq (⟨"LifeRents$Tables", "countYearsOf", "(III)V"⟩, 7) := ⟨⟨by decide +kernel, by decide +kernel⟩, List.mem_of_getElem? (i := 273) (by decide +kernel), List.mem_of_getElem? (i := 840) (by decide +kernel), List.mem_of_getElem? (i := 841) (by decide +kernel)⟩
theorem lw_p25 : lw_okq (⟨"LifeRents", "hasYearsLeft", "(I)Z"⟩, 10) := ⟨⟨by decide +kernel, by decide +kernel⟩, List.mem_of_getElem? (i := 26) (by decide +kernel), List.mem_of_getElem? (i := 855) (by decide +kernel), List.mem_of_getElem? (i := 856) (by decide +kernel)⟩
theorem lw_p26 : lw_okq (⟨"LifeRents", "worthNow", "(III)I"⟩, 10) := ⟨⟨by decide +kernel, by decide +kernel⟩, List.mem_of_getElem? (i := 26) (by decide +kernel), List.mem_of_getElem? (i := 859) (by decide +kernel), List.mem_of_getElem? (i := 860) (by decide +kernel)⟩
theorem lw_p27 : lw_okq (⟨"LifeRents$Tables", "fillRow", "([IIII)V"⟩, 7) := ⟨⟨by decide +kernel, by decide +kernel⟩, List.mem_of_getElem? (i := 273) (by decide +kernel), List.mem_of_getElem? (i := 868) (by decide +kernel), List.mem_of_getElem? (i := 869) (by decide +kernel)⟩
theorem lw_p28 : lw_okq (⟨"LifeRents$Tables", "worthTillFirst", "(III)I"⟩, 7) := ⟨⟨by decide +kernel, by decide +kernel⟩, List.mem_of_getElem? (i := 273) (by decide +kernel), List.mem_of_getElem? (i := 884) (by decide +kernel), List.mem_of_getElem? (i := 885) (by decide +kernel)⟩
theorem lw_p29 : lw_okq (⟨"LifeRents$Buyer", "countRows", "(I)I"⟩, 11) := ⟨⟨by decide +kernel, by decide +kernel⟩, List.mem_of_getElem? (i := 307) (by decide +kernel), List.mem_of_getElem? (i := 910) (by decide +kernel), List.mem_of_getElem? (i := 911) (by decide +kernel)⟩
theorem lw_p30 : lw_okq (⟨"LifeRents$Buyer", "turn", "(I)V"⟩, 11) := ⟨⟨by decide +kernel, by decide +kernel⟩, List.mem_of_getElem? (i := 307) (by decide +kernel), List.mem_of_getElem? (i := 916) (by decide +kernel), List.mem_of_getElem? (i := 917) (by decide +kernel)⟩
theorem lw_p31 : lw_okq (⟨"LifeRents$Buyer", "keep", "()V"⟩, 11) := ⟨⟨by decide +kernel, by decide +kernel⟩, List.mem_of_getElem? (i := 307) (by decide +kernel), List.mem_of_getElem? (i := 920) (by decide +kernel), List.mem_of_getElem? (i := 921) (by decide +kernel)⟩
def lw_privs_2 : List (MethodName × Nat) := [(⟨"LifeRents", "priceOn", "(II)I"⟩, 10), (⟨"LifeRents", "lumpOn", "(II)I"⟩, 10), (⟨"LifeRents$Ledger", "spreadParts", "(II)V"⟩, 11), (⟨"LifeRents$Book", "knowDeaths", "()V"⟩, 10), (⟨"LifeRents$Book", "livedIn", "(II)Z"⟩, 10), (⟨"LifeRents$Ledger", "pay", "(IIII)V"⟩, 11), (⟨"LifeRents", "hasBegun", "(I)Z"⟩, 10), (⟨"LifeRents$Ledger", "shareOf", "(III)I"⟩, 11), (⟨"LifeRents$Tables", "countYearsOf", "(III)V"⟩, 7), (⟨"LifeRents", "hasYearsLeft", "(I)Z"⟩, 10), (⟨"LifeRents", "worthNow", "(III)I"⟩, 10), (⟨"LifeRents$Tables", "fillRow", "([IIII)V"⟩, 7), (⟨"LifeRents$Tables", "worthTillFirst", "(III)I"⟩, 7), (⟨"LifeRents$Buyer", "countRows", "(I)I"⟩, 11), (⟨"LifeRents$Buyer", "turn", "(I)V"⟩, 11), (⟨"LifeRents$Buyer", "keep", "()V"⟩, 11)]
theorem lw_r2 : ∀ q ∈ lw_privs_2, lw_okq q := List.forall_mem_cons.mpr ⟨lw_p16, List.forall_mem_cons.mpr ⟨lw_p17, List.forall_mem_cons.mpr ⟨lw_p18, List.forall_mem_cons.mpr ⟨lw_p19, List.forall_mem_cons.mpr ⟨lw_p20, List.forall_mem_cons.mpr ⟨lw_p21, List.forall_mem_cons.mpr ⟨lw_p22, List.forall_mem_cons.mpr ⟨lw_p23, List.forall_mem_cons.mpr ⟨lw_p24, List.forall_mem_cons.mpr ⟨lw_p25, List.forall_mem_cons.mpr ⟨lw_p26, List.forall_mem_cons.mpr ⟨lw_p27, List.forall_mem_cons.mpr ⟨lw_p28, List.forall_mem_cons.mpr ⟨lw_p29, List.forall_mem_cons.mpr ⟨lw_p30, List.forall_mem_cons.mpr ⟨lw_p31, fun _ h => absurd h List.not_mem_nil⟩⟩⟩⟩⟩⟩⟩⟩⟩⟩⟩⟩⟩⟩⟩⟩
theorem lw_p32 : lw_okq (⟨"LifeRents", "riskOn", "(I)J"⟩, 10) := ⟨⟨by decide +kernel, by decide +kernel⟩, List.mem_of_getElem? (i := 26) (by decide +kernel), List.mem_of_getElem? (i := 933) (by decide +kernel), List.mem_of_getElem? (i := 934) (by decide +kernel)⟩
theorem lw_p33 : lw_okq (⟨"LifeRents", "riskierThan", "(I)I"⟩, 10) := ⟨⟨by decide +kernel, by decide +kernel⟩, List.mem_of_getElem? (i := 26) (by decide +kernel), List.mem_of_getElem? (i := 954) (by decide +kernel), List.mem_of_getElem? (i := 955) (by decide +kernel)⟩
theorem lw_p34 : lw_okq (⟨"java/lang/Throwable", "fillInStackTrace", "(I)Ljava/lang/Throwable;"⟩, 6) := ⟨⟨by decide +kernel, by decide +kernel⟩, List.mem_of_getElem? (i := 1014) (by decide +kernel), List.mem_of_getElem? (i := 1012) (by decide +kernel), List.mem_of_getElem? (i := 1013) (by decide +kernel)⟩
theorem lw_p35 : lw_okq (⟨"LifeRentsModel", "plain", "()V"⟩, 58) := ⟨⟨by decide +kernel, by decide +kernel⟩, List.mem_of_getElem? (i := 1060) (by decide +kernel), List.mem_of_getElem? (i := 1066) (by decide +kernel), List.mem_of_getElem? (i := 1067) (by decide +kernel)⟩
theorem lw_p36 : lw_okq (⟨"LifeRentsModel", "keep", "()V"⟩, 58) := ⟨⟨by decide +kernel, by decide +kernel⟩, List.mem_of_getElem? (i := 1060) (by decide +kernel), List.mem_of_getElem? (i := 1070) (by decide +kernel), List.mem_of_getElem? (i := 1071) (by decide +kernel)⟩
theorem lw_p37 : lw_okq (⟨"LifeRentsModel", "take", "()V"⟩, 58) := ⟨⟨by decide +kernel, by decide +kernel⟩, List.mem_of_getElem? (i := 1060) (by decide +kernel), List.mem_of_getElem? (i := 1261) (by decide +kernel), List.mem_of_getElem? (i := 1262) (by decide +kernel)⟩
theorem lw_p38 : lw_okq (⟨"LifeRentsModel", "isSmall", "(I)Z"⟩, 58) := ⟨⟨by decide +kernel, by decide +kernel⟩, List.mem_of_getElem? (i := 1060) (by decide +kernel), List.mem_of_getElem? (i := 1265) (by decide +kernel), List.mem_of_getElem? (i := 1266) (by decide +kernel)⟩
theorem lw_p39 : lw_okq (⟨"LifeRentsModel", "wordAt", "(II)I"⟩, 58) := ⟨⟨by decide +kernel, by decide +kernel⟩, List.mem_of_getElem? (i := 1060) (by decide +kernel), List.mem_of_getElem? (i := 1269) (by decide +kernel), List.mem_of_getElem? (i := 1270) (by decide +kernel)⟩
theorem lw_p40 : lw_okq (⟨"LifeRentsModel", "isDigit", "(I)Z"⟩, 58) := ⟨⟨by decide +kernel, by decide +kernel⟩, List.mem_of_getElem? (i := 1060) (by decide +kernel), List.mem_of_getElem? (i := 1273) (by decide +kernel), List.mem_of_getElem? (i := 1274) (by decide +kernel)⟩
theorem lw_p41 : lw_okq (⟨"LifeRentsModel", "wrong", "(I)Z"⟩, 58) := ⟨⟨by decide +kernel, by decide +kernel⟩, List.mem_of_getElem? (i := 1060) (by decide +kernel), List.mem_of_getElem? (i := 1277) (by decide +kernel), List.mem_of_getElem? (i := 1278) (by decide +kernel)⟩
theorem lw_p42 : lw_okq (⟨"LifeRentsModel", "ofWhom", "(I)Z"⟩, 58) := ⟨⟨by decide +kernel, by decide +kernel⟩, List.mem_of_getElem? (i := 1060) (by decide +kernel), List.mem_of_getElem? (i := 1281) (by decide +kernel), List.mem_of_getElem? (i := 1282) (by decide +kernel)⟩
theorem lw_p43 : lw_okq (⟨"LifeRentsModel", "isNumber", "(II)Z"⟩, 58) := ⟨⟨by decide +kernel, by decide +kernel⟩, List.mem_of_getElem? (i := 1060) (by decide +kernel), List.mem_of_getElem? (i := 1285) (by decide +kernel), List.mem_of_getElem? (i := 1286) (by decide +kernel)⟩
theorem lw_p44 : lw_okq (⟨"LifeRentsModel", "whom", "(I)Z"⟩, 58) := ⟨⟨by decide +kernel, by decide +kernel⟩, List.mem_of_getElem? (i := 1060) (by decide +kernel), List.mem_of_getElem? (i := 1289) (by decide +kernel), List.mem_of_getElem? (i := 1290) (by decide +kernel)⟩
theorem lw_p45 : lw_okq (⟨"LifeRentsModel", "span", "(I)Z"⟩, 58) := ⟨⟨by decide +kernel, by decide +kernel⟩, List.mem_of_getElem? (i := 1060) (by decide +kernel), List.mem_of_getElem? (i := 1293) (by decide +kernel), List.mem_of_getElem? (i := 1294) (by decide +kernel)⟩
theorem lw_p46 : lw_okq (⟨"LifeRentsModel", "isWord", "(I)Z"⟩, 58) := ⟨⟨by decide +kernel, by decide +kernel⟩, List.mem_of_getElem? (i := 1060) (by decide +kernel), List.mem_of_getElem? (i := 1297) (by decide +kernel), List.mem_of_getElem? (i := 1298) (by decide +kernel)⟩
theorem lw_p47 : lw_okq (⟨"LifeRentsModel", "classRow", "(I)Z"⟩, 58) := ⟨⟨by decide +kernel, by decide +kernel⟩, List.mem_of_getElem? (i := 1060) (by decide +kernel), List.mem_of_getElem? (i := 1301) (by decide +kernel), List.mem_of_getElem? (i := 1302) (by decide +kernel)⟩
def lw_privs_3 : List (MethodName × Nat) := [(⟨"LifeRents", "riskOn", "(I)J"⟩, 10), (⟨"LifeRents", "riskierThan", "(I)I"⟩, 10), (⟨"java/lang/Throwable", "fillInStackTrace", "(I)Ljava/lang/Throwable;"⟩, 6), (⟨"LifeRentsModel", "plain", "()V"⟩, 58), (⟨"LifeRentsModel", "keep", "()V"⟩, 58), (⟨"LifeRentsModel", "take", "()V"⟩, 58), (⟨"LifeRentsModel", "isSmall", "(I)Z"⟩, 58), (⟨"LifeRentsModel", "wordAt", "(II)I"⟩, 58), (⟨"LifeRentsModel", "isDigit", "(I)Z"⟩, 58), (⟨"LifeRentsModel", "wrong", "(I)Z"⟩, 58), (⟨"LifeRentsModel", "ofWhom", "(I)Z"⟩, 58), (⟨"LifeRentsModel", "isNumber", "(II)Z"⟩, 58), (⟨"LifeRentsModel", "whom", "(I)Z"⟩, 58), (⟨"LifeRentsModel", "span", "(I)Z"⟩, 58), (⟨"LifeRentsModel", "isWord", "(I)Z"⟩, 58), (⟨"LifeRentsModel", "classRow", "(I)Z"⟩, 58)]
theorem lw_r3 : ∀ q ∈ lw_privs_3, lw_okq q := List.forall_mem_cons.mpr ⟨lw_p32, List.forall_mem_cons.mpr ⟨lw_p33, List.forall_mem_cons.mpr ⟨lw_p34, List.forall_mem_cons.mpr ⟨lw_p35, List.forall_mem_cons.mpr ⟨lw_p36, List.forall_mem_cons.mpr ⟨lw_p37, List.forall_mem_cons.mpr ⟨lw_p38, List.forall_mem_cons.mpr ⟨lw_p39, List.forall_mem_cons.mpr ⟨lw_p40, List.forall_mem_cons.mpr ⟨lw_p41, List.forall_mem_cons.mpr ⟨lw_p42, List.forall_mem_cons.mpr ⟨lw_p43, List.forall_mem_cons.mpr ⟨lw_p44, List.forall_mem_cons.mpr ⟨lw_p45, List.forall_mem_cons.mpr ⟨lw_p46, List.forall_mem_cons.mpr ⟨lw_p47, fun _ h => absurd h List.not_mem_nil⟩⟩⟩⟩⟩⟩⟩⟩⟩⟩⟩⟩⟩⟩⟩⟩
theorem lw_p48 : lw_okq (⟨"LifeRentsModel", "ofNumber", "(I)Z"⟩, 58) := ⟨⟨by decide +kernel, by decide +kernel⟩, List.mem_of_getElem? (i := 1060) (by decide +kernel), List.mem_of_getElem? (i := 1305) (by decide +kernel), List.mem_of_getElem? (i := 1306) (by decide +kernel)⟩
theorem lw_p49 : lw_okq (⟨"LifeRentsModel", "isLife", "(I)Z"⟩, 58) := ⟨⟨by decide +kernel, by decide +kernel⟩, List.mem_of_getElem? (i := 1060) (by decide +kernel), List.mem_of_getElem? (i := 1328) (by decide +kernel), List.mem_of_getElem? (i := 1329) (by decide +kernel)⟩
theorem lw_p50 : lw_okq (⟨"LifeRentsModel", "mayBe", "(II)Z"⟩, 58) := ⟨⟨by decide +kernel, by decide +kernel⟩, List.mem_of_getElem? (i := 1060) (by decide +kernel), List.mem_of_getElem? (i := 1332) (by decide +kernel), List.mem_of_getElem? (i := 1333) (by decide +kernel)⟩
theorem lw_p51 : lw_okq (⟨"LifeRentsModel", "actOf", "(IIIII)I"⟩, 58) := ⟨⟨by decide +kernel, by decide +kernel⟩, List.mem_of_getElem? (i := 1060) (by decide +kernel), List.mem_of_getElem? (i := 1336) (by decide +kernel), List.mem_of_getElem? (i := 1337) (by decide +kernel)⟩
theorem lw_p52 : lw_okq (⟨"LifeRentsModel", "ageIn", "(II)I"⟩, 58) := ⟨⟨by decide +kernel, by decide +kernel⟩, List.mem_of_getElem? (i := 1060) (by decide +kernel), List.mem_of_getElem? (i := 1340) (by decide +kernel), List.mem_of_getElem? (i := 1341) (by decide +kernel)⟩
theorem lw_p53 : lw_okq (⟨"LifeRentsModel", "priceOf", "(II)I"⟩, 58) := ⟨⟨by decide +kernel, by decide +kernel⟩, List.mem_of_getElem? (i := 1060) (by decide +kernel), List.mem_of_getElem? (i := 1344) (by decide +kernel), List.mem_of_getElem? (i := 1345) (by decide +kernel)⟩
theorem lw_p54 : lw_okq (⟨"LifeRentsModel", "lumpOf", "(II)I"⟩, 58) := ⟨⟨by decide +kernel, by decide +kernel⟩, List.mem_of_getElem? (i := 1060) (by decide +kernel), List.mem_of_getElem? (i := 1348) (by decide +kernel), List.mem_of_getElem? (i := 1349) (by decide +kernel)⟩
theorem lw_p55 : lw_okq (⟨"LifeRentsModel", "isRent", "(I)Z"⟩, 58) := ⟨⟨by decide +kernel, by decide +kernel⟩, List.mem_of_getElem? (i := 1060) (by decide +kernel), List.mem_of_getElem? (i := 1363) (by decide +kernel), List.mem_of_getElem? (i := 1364) (by decide +kernel)⟩
theorem lw_p56 : lw_okq (⟨"LifeRentsModel", "partsOf", "(III)I"⟩, 58) := ⟨⟨by decide +kernel, by decide +kernel⟩, List.mem_of_getElem? (i := 1060) (by decide +kernel), List.mem_of_getElem? (i := 1367) (by decide +kernel), List.mem_of_getElem? (i := 1368) (by decide +kernel)⟩
theorem lw_p57 : lw_okq (⟨"LifeRentsModel", "told", "(III)I"⟩, 58) := ⟨⟨by decide +kernel, by decide +kernel⟩, List.mem_of_getElem? (i := 1060) (by decide +kernel), List.mem_of_getElem? (i := 1382) (by decide +kernel), List.mem_of_getElem? (i := 1383) (by decide +kernel)⟩
theorem lw_p58 : lw_okq (⟨"LifeRentsModel", "know", "(I)V"⟩, 58) := ⟨⟨by decide +kernel, by decide +kernel⟩, List.mem_of_getElem? (i := 1060) (by decide +kernel), List.mem_of_getElem? (i := 1394) (by decide +kernel), List.mem_of_getElem? (i := 1395) (by decide +kernel)⟩
theorem lw_p59 : lw_okq (⟨"LifeRentsModel", "isFalse", "(I)Z"⟩, 58) := ⟨⟨by decide +kernel, by decide +kernel⟩, List.mem_of_getElem? (i := 1060) (by decide +kernel), List.mem_of_getElem? (i := 1402) (by decide +kernel), List.mem_of_getElem? (i := 1403) (by decide +kernel)⟩
theorem lw_p60 : lw_okq (⟨"LifeRentsModel", "pays", "(I)V"⟩, 58) := ⟨⟨by decide +kernel, by decide +kernel⟩, List.mem_of_getElem? (i := 1060) (by decide +kernel), List.mem_of_getElem? (i := 1410) (by decide +kernel), List.mem_of_getElem? (i := 1411) (by decide +kernel)⟩
theorem lw_p61 : lw_okq (⟨"LifeRentsModel", "isDue", "(II)Z"⟩, 58) := ⟨⟨by decide +kernel, by decide +kernel⟩, List.mem_of_getElem? (i := 1060) (by decide +kernel), List.mem_of_getElem? (i := 1414) (by decide +kernel), List.mem_of_getElem? (i := 1415) (by decide +kernel)⟩
theorem lw_p62 : lw_okq (⟨"LifeRentsModel", "lives", "(II)Z"⟩, 58) := ⟨⟨by decide +kernel, by decide +kernel⟩, List.mem_of_getElem? (i := 1060) (by decide +kernel), List.mem_of_getElem? (i := 1418) (by decide +kernel), List.mem_of_getElem? (i := 1419) (by decide +kernel)⟩
theorem lw_p63 : lw_okq (⟨"LifeRentsModel", "isProved", "(II)Z"⟩, 58) := ⟨⟨by decide +kernel, by decide +kernel⟩, List.mem_of_getElem? (i := 1060) (by decide +kernel), List.mem_of_getElem? (i := 1422) (by decide +kernel), List.mem_of_getElem? (i := 1423) (by decide +kernel)⟩
def lw_privs_4 : List (MethodName × Nat) := [(⟨"LifeRentsModel", "ofNumber", "(I)Z"⟩, 58), (⟨"LifeRentsModel", "isLife", "(I)Z"⟩, 58), (⟨"LifeRentsModel", "mayBe", "(II)Z"⟩, 58), (⟨"LifeRentsModel", "actOf", "(IIIII)I"⟩, 58), (⟨"LifeRentsModel", "ageIn", "(II)I"⟩, 58), (⟨"LifeRentsModel", "priceOf", "(II)I"⟩, 58), (⟨"LifeRentsModel", "lumpOf", "(II)I"⟩, 58), (⟨"LifeRentsModel", "isRent", "(I)Z"⟩, 58), (⟨"LifeRentsModel", "partsOf", "(III)I"⟩, 58), (⟨"LifeRentsModel", "told", "(III)I"⟩, 58), (⟨"LifeRentsModel", "know", "(I)V"⟩, 58), (⟨"LifeRentsModel", "isFalse", "(I)Z"⟩, 58), (⟨"LifeRentsModel", "pays", "(I)V"⟩, 58), (⟨"LifeRentsModel", "isDue", "(II)Z"⟩, 58), (⟨"LifeRentsModel", "lives", "(II)Z"⟩, 58), (⟨"LifeRentsModel", "isProved", "(II)Z"⟩, 58)]
theorem lw_r4 : ∀ q ∈ lw_privs_4, lw_okq q := List.forall_mem_cons.mpr ⟨lw_p48, List.forall_mem_cons.mpr ⟨lw_p49, List.forall_mem_cons.mpr ⟨lw_p50, List.forall_mem_cons.mpr ⟨lw_p51, List.forall_mem_cons.mpr ⟨lw_p52, List.forall_mem_cons.mpr ⟨lw_p53, List.forall_mem_cons.mpr ⟨lw_p54, List.forall_mem_cons.mpr ⟨lw_p55, List.forall_mem_cons.mpr ⟨lw_p56, List.forall_mem_cons.mpr ⟨lw_p57, List.forall_mem_cons.mpr ⟨lw_p58, List.forall_mem_cons.mpr ⟨lw_p59, List.forall_mem_cons.mpr ⟨lw_p60, List.forall_mem_cons.mpr ⟨lw_p61, List.forall_mem_cons.mpr ⟨lw_p62, List.forall_mem_cons.mpr ⟨lw_p63, fun _ h => absurd h List.not_mem_nil⟩⟩⟩⟩⟩⟩⟩⟩⟩⟩⟩⟩⟩⟩⟩⟩
theorem lw_p64 : lw_okq (⟨"LifeRentsModel", "shares", "(II)V"⟩, 58) := ⟨⟨by decide +kernel, by decide +kernel⟩, List.mem_of_getElem? (i := 1060) (by decide +kernel), List.mem_of_getElem? (i := 1426) (by decide +kernel), List.mem_of_getElem? (i := 1427) (by decide +kernel)⟩
theorem lw_p65 : lw_okq (⟨"LifeRentsModel", "owedOf", "(I)I"⟩, 58) := ⟨⟨by decide +kernel, by decide +kernel⟩, List.mem_of_getElem? (i := 1060) (by decide +kernel), List.mem_of_getElem? (i := 1438) (by decide +kernel), List.mem_of_getElem? (i := 1439) (by decide +kernel)⟩
theorem lw_p66 : lw_okq (⟨"LifeRentsModel", "years", "(III)V"⟩, 58) := ⟨⟨by decide +kernel, by decide +kernel⟩, List.mem_of_getElem? (i := 1060) (by decide +kernel), List.mem_of_getElem? (i := 1454) (by decide +kernel), List.mem_of_getElem? (i := 1455) (by decide +kernel)⟩
theorem lw_p67 : lw_okq (⟨"LifeRentsModel", "lived", "(III)I"⟩, 58) := ⟨⟨by decide +kernel, by decide +kernel⟩, List.mem_of_getElem? (i := 1060) (by decide +kernel), List.mem_of_getElem? (i := 1458) (by decide +kernel), List.mem_of_getElem? (i := 1459) (by decide +kernel)⟩
theorem lw_p68 : lw_okq (⟨"LifeRentsModel", "lay", "(I)V"⟩, 58) := ⟨⟨by decide +kernel, by decide +kernel⟩, List.mem_of_getElem? (i := 1060) (by decide +kernel), List.mem_of_getElem? (i := 1466) (by decide +kernel), List.mem_of_getElem? (i := 1467) (by decide +kernel)⟩
theorem lw_p69 : lw_okq (⟨"LifeRentsModel", "worthOn", "(II)I"⟩, 58) := ⟨⟨by decide +kernel, by decide +kernel⟩, List.mem_of_getElem? (i := 1060) (by decide +kernel), List.mem_of_getElem? (i := 1470) (by decide +kernel), List.mem_of_getElem? (i := 1471) (by decide +kernel)⟩
theorem lw_p70 : lw_okq (⟨"LifeRentsModel", "worthOf", "(I)I"⟩, 58) := ⟨⟨by decide +kernel, by decide +kernel⟩, List.mem_of_getElem? (i := 1060) (by decide +kernel), List.mem_of_getElem? (i := 1474) (by decide +kernel), List.mem_of_getElem? (i := 1475) (by decide +kernel)⟩
theorem lw_p71 : lw_okq (⟨"LifeRentsModel", "liveOf", "(II)I"⟩, 58) := ⟨⟨by decide +kernel, by decide +kernel⟩, List.mem_of_getElem? (i := 1060) (by decide +kernel), List.mem_of_getElem? (i := 1478) (by decide +kernel), List.mem_of_getElem? (i := 1479) (by decide +kernel)⟩
theorem lw_p72 : lw_okq (⟨"LifeRentsModel", "yearBack", "(II)I"⟩, 58) := ⟨⟨by decide +kernel, by decide +kernel⟩, List.mem_of_getElem? (i := 1060) (by decide +kernel), List.mem_of_getElem? (i := 1485) (by decide +kernel), List.mem_of_getElem? (i := 1486) (by decide +kernel)⟩
theorem lw_p73 : lw_okq (⟨"LifeRentsModel", "bothOf", "(II)I"⟩, 58) := ⟨⟨by decide +kernel, by decide +kernel⟩, List.mem_of_getElem? (i := 1060) (by decide +kernel), List.mem_of_getElem? (i := 1489) (by decide +kernel), List.mem_of_getElem? (i := 1490) (by decide +kernel)⟩
theorem lw_p74 : lw_okq (⟨"LifeRentsModel", "riskOf", "(I)J"⟩, 58) := ⟨⟨by decide +kernel, by decide +kernel⟩, List.mem_of_getElem? (i := 1060) (by decide +kernel), List.mem_of_getElem? (i := 1507) (by decide +kernel), List.mem_of_getElem? (i := 1508) (by decide +kernel)⟩
theorem lw_p75 : lw_okq (⟨"LifeRentsModel", "fails", "(I)J"⟩, 58) := ⟨⟨by decide +kernel, by decide +kernel⟩, List.mem_of_getElem? (i := 1060) (by decide +kernel), List.mem_of_getElem? (i := 1515) (by decide +kernel), List.mem_of_getElem? (i := 1516) (by decide +kernel)⟩
theorem lw_p76 : lw_okq (⟨"LifeRentsModel", "living", "(I)I"⟩, 58) := ⟨⟨by decide +kernel, by decide +kernel⟩, List.mem_of_getElem? (i := 1060) (by decide +kernel), List.mem_of_getElem? (i := 1523) (by decide +kernel), List.mem_of_getElem? (i := 1524) (by decide +kernel)⟩
def lw_privs_5 : List (MethodName × Nat) := [(⟨"LifeRentsModel", "shares", "(II)V"⟩, 58), (⟨"LifeRentsModel", "owedOf", "(I)I"⟩, 58), (⟨"LifeRentsModel", "years", "(III)V"⟩, 58), (⟨"LifeRentsModel", "lived", "(III)I"⟩, 58), (⟨"LifeRentsModel", "lay", "(I)V"⟩, 58), (⟨"LifeRentsModel", "worthOn", "(II)I"⟩, 58), (⟨"LifeRentsModel", "worthOf", "(I)I"⟩, 58), (⟨"LifeRentsModel", "liveOf", "(II)I"⟩, 58), (⟨"LifeRentsModel", "yearBack", "(II)I"⟩, 58), (⟨"LifeRentsModel", "bothOf", "(II)I"⟩, 58), (⟨"LifeRentsModel", "riskOf", "(I)J"⟩, 58), (⟨"LifeRentsModel", "fails", "(I)J"⟩, 58), (⟨"LifeRentsModel", "living", "(I)I"⟩, 58)]
theorem lw_r5 : ∀ q ∈ lw_privs_5, lw_okq q := List.forall_mem_cons.mpr ⟨lw_p64, List.forall_mem_cons.mpr ⟨lw_p65, List.forall_mem_cons.mpr ⟨lw_p66, List.forall_mem_cons.mpr ⟨lw_p67, List.forall_mem_cons.mpr ⟨lw_p68, List.forall_mem_cons.mpr ⟨lw_p69, List.forall_mem_cons.mpr ⟨lw_p70, List.forall_mem_cons.mpr ⟨lw_p71, List.forall_mem_cons.mpr ⟨lw_p72, List.forall_mem_cons.mpr ⟨lw_p73, List.forall_mem_cons.mpr ⟨lw_p74, List.forall_mem_cons.mpr ⟨lw_p75, List.forall_mem_cons.mpr ⟨lw_p76, fun _ h => absurd h List.not_mem_nil⟩⟩⟩⟩⟩⟩⟩⟩⟩⟩⟩⟩⟩
def lw_privs : List (MethodName × Nat) := lw_privs_1 ++ (lw_privs_2 ++ (lw_privs_3 ++ (lw_privs_4 ++ (lw_privs_5))))
def lw_tbl : List Cond := k2_sels lw_privs ++ tables_1
theorem lw_privs_ok : ∀ q ∈ lw_privs, lw_okq q := by
  show ∀ q ∈ lw_privs_1 ++ (lw_privs_2 ++ (lw_privs_3 ++ (lw_privs_4 ++ (lw_privs_5)))), lw_okq q
  exact List.forall_mem_append.mpr ⟨lw_r1, List.forall_mem_append.mpr ⟨lw_r2, List.forall_mem_append.mpr ⟨lw_r3, List.forall_mem_append.mpr ⟨lw_r4, lw_r5⟩⟩⟩⟩
theorem goodIn_r {big : List Cond} (ws : List Cond) (ps : List Nat) (hp : ws = ps.filterMap (fun i => big[i]?)) (h : ws.all goodWord = true) : GoodIn big ws := by
  intro w hw
  have h1 := List.all_eq_true.mp h w hw
  rw [hp] at hw
  obtain ⟨i, -, hi⟩ := List.mem_filterMap.mp hw
  have hm : w ∈ big := by first | exact List.mem_of_getElem? hi | exact List.getElem?_mem hi
  exact ⟨hm, good_of_word h1⟩
theorem goodIn_app {big a b : List Cond} (ha : GoodIn big a) (hb : GoodIn big b) : GoodIn big (a ++ b) := fun w h => (List.mem_append.mp h).elim (ha w) (hb w)
theorem goodIn_ca {big a b : List Cond} {c : Cond} (ha : GoodIn big (c :: a)) (hb : GoodIn big b) : GoodIn big (c :: (a ++ b)) := fun w h => (List.mem_cons.mp h).elim (fun e => ha w (List.mem_cons.mpr (Or.inl e))) (fun h => (List.mem_append.mp h).elim (fun h => ha w (List.mem_cons.mpr (Or.inr h))) (hb w))
theorem goodIn_sub {big ws : List Cond} (hm : ∀ w ∈ ws, w ∈ big) (h : ws.all goodWord = true) : GoodIn big ws := fun w hw => ⟨hm w hw, good_of_word (List.all_eq_true.mp h w hw)⟩
def RX0 : String := "LifeRents$Acts"
def TX0 : u_T := fun k => match k with
  | 0 => ("LifeRents$Acts", "rules", "[LLifeRents$Line;", true)
  | 1 => ("LifeRents$Acts", "size", "I", false)
  | _ => ("LifeRents$Acts", "settings", "[I", true)
def tyX0 : Nat → FieldType := fun k => match k with
  | 0 => .array (.object "LifeRents$Line")
  | 1 => .int
  | _ => .array .int
abbrev wsX00 : List Cond := u_ws RX0 TX0 3
theorem nmX0 : ∀ a, a < 3 → ∀ b, b < 3 → a ≠ b → (TX0 a).2.1 ≠ (TX0 b).2.1 := by decide +kernel
theorem tyX0_ok : ∀ k, k < 3 → parseFieldDescriptor (TX0 k).2.2.1 = some (tyX0 k) := by decide +kernel
abbrev cX0_init : ByteArray := prog_2_method_1_code
def yX0_init : MethodName := ⟨RX0, "<init>", "()V"⟩
abbrev cX0_clear : ByteArray := prog_2_method_2_code
def yX0_clear : MethodName := ⟨RX0, "clear", "()V"⟩
abbrev cX0_setting : ByteArray := prog_2_method_3_code
def yX0_setting : MethodName := ⟨RX0, "setting", "(I)I"⟩
abbrev cX0_latest : ByteArray := prog_2_method_4_code
def yX0_latest : MethodName := ⟨RX0, "latest", "(LLifeRents$Word;LLifeRents$Word;IIII)LLifeRents$Line;"⟩
def RX1 : String := "LifeRents$Book"
def TX1 : u_T := fun k => match k with
  | 0 => ("LifeRents$Book", "people", "LLifeRents$People;", true)
  | 1 => ("LifeRents$Book", "sorts", "[I", true)
  | 2 => ("LifeRents$Book", "subjects", "[I", true)
  | 3 => ("LifeRents$Book", "halves", "[I", true)
  | 4 => ("LifeRents$Book", "told", "[I", true)
  | 5 => ("LifeRents$Book", "size", "I", false)
  | 6 => ("LifeRents$Book", "knownIn", "I", false)
  | 7 => ("LifeRents$Book", "counted", "[Z", true)
  | 8 => ("LifeRents$Book", "good", "[Z", true)
  | _ => ("LifeRents$Book", "deadIn", "[I", true)
def tyX1 : Nat → FieldType := fun k => match k with
  | 0 => .object "LifeRents$People"
  | 1 => .array .int
  | 2 => .array .int
  | 3 => .array .int
  | 4 => .array .int
  | 5 => .int
  | 6 => .int
  | 7 => .array .boolean
  | 8 => .array .boolean
  | _ => .array .int
abbrev wsX10 : List Cond := u_ws RX1 TX1 10
theorem nmX1 : ∀ a, a < 10 → ∀ b, b < 10 → a ≠ b → (TX1 a).2.1 ≠ (TX1 b).2.1 := by decide +kernel
theorem tyX1_ok : ∀ k, k < 10 → parseFieldDescriptor (TX1 k).2.2.1 = some (tyX1 k) := by decide +kernel
abbrev cX1_init : ByteArray := prog_3_method_1_code
def yX1_init : MethodName := ⟨RX1, "<init>", "(LLifeRents$People;)V"⟩
abbrev cX1_has : ByteArray := prog_3_method_2_code
def yX1_has : MethodName := ⟨RX1, "has", "(I)Z"⟩
abbrev cX1_write : ByteArray := prog_3_method_3_code
def yX1_write : MethodName := ⟨RX1, "write", "(IIII)I"⟩
abbrev cX1_know : ByteArray := prog_3_method_4_code
def yX1_know : MethodName := ⟨RX1, "know", "(I)V"⟩
abbrev cX1_knowDeaths : ByteArray := prog_3_method_5_code
def yX1_knowDeaths : MethodName := ⟨RX1, "knowDeaths", "()V"⟩
abbrev cX1_livedIn : ByteArray := prog_3_method_6_code
def yX1_livedIn : MethodName := ⟨RX1, "livedIn", "(II)Z"⟩
abbrev cX1_isDead : ByteArray := prog_3_method_7_code
def yX1_isDead : MethodName := ⟨RX1, "isDead", "(I)Z"⟩
abbrev cX1_isAliveIn : ByteArray := prog_3_method_8_code
def yX1_isAliveIn : MethodName := ⟨RX1, "isAliveIn", "(II)Z"⟩
abbrev cX1_isFalse : ByteArray := prog_3_method_9_code
def yX1_isFalse : MethodName := ⟨RX1, "isFalse", "(I)Z"⟩
abbrev cX1_hasProof : ByteArray := prog_3_method_10_code
def yX1_hasProof : MethodName := ⟨RX1, "hasProof", "(III)Z"⟩
abbrev cX1_latestProof : ByteArray := prog_3_method_11_code
def yX1_latestProof : MethodName := ⟨RX1, "latestProof", "(I)I"⟩
def RX2 : String := "LifeRents$Buyer"
def TX2 : u_T := fun k => match k with
  | 0 => ("LifeRents$Buyer", "lives", "[I", true)
  | 1 => ("LifeRents$Buyer", "prices", "[I", true)
  | 2 => ("LifeRents$Buyer", "gains", "[I", true)
  | 3 => ("LifeRents$Buyer", "size", "I", false)
  | 4 => ("LifeRents$Buyer", "coins", "[I", true)
  | 5 => ("LifeRents$Buyer", "cost", "I", false)
  | 6 => ("LifeRents$Buyer", "sum", "I", false)
  | 7 => ("LifeRents$Buyer", "bestCost", "I", false)
  | 8 => ("LifeRents$Buyer", "bestSum", "I", false)
  | 9 => ("LifeRents$Buyer", "best", "[I", true)
  | _ => ("LifeRents$Buyer", "hasChosen", "Z", false)
def tyX2 : Nat → FieldType := fun k => match k with
  | 0 => .array .int
  | 1 => .array .int
  | 2 => .array .int
  | 3 => .int
  | 4 => .array .int
  | 5 => .int
  | 6 => .int
  | 7 => .int
  | 8 => .int
  | 9 => .array .int
  | _ => .boolean
abbrev wsX20 : List Cond := u_ws RX2 TX2 11
theorem nmX2 : ∀ a, a < 11 → ∀ b, b < 11 → a ≠ b → (TX2 a).2.1 ≠ (TX2 b).2.1 := by decide +kernel
theorem tyX2_ok : ∀ k, k < 11 → parseFieldDescriptor (TX2 k).2.2.1 = some (tyX2 k) := by decide +kernel
abbrev cX2_init : ByteArray := prog_4_method_1_code
def yX2_init : MethodName := ⟨RX2, "<init>", "()V"⟩
abbrev cX2_clearOffers : ByteArray := prog_4_method_2_code
def yX2_clearOffers : MethodName := ⟨RX2, "clearOffers", "()V"⟩
abbrev cX2_offer : ByteArray := prog_4_method_3_code
def yX2_offer : MethodName := ⟨RX2, "offer", "(III)V"⟩
abbrev cX2_choose : ByteArray := prog_4_method_4_code
def yX2_choose : MethodName := ⟨RX2, "choose", "(II)I"⟩
abbrev cX2_countRows : ByteArray := prog_4_method_5_code
def yX2_countRows : MethodName := ⟨RX2, "countRows", "(I)I"⟩
abbrev cX2_turn : ByteArray := prog_4_method_6_code
def yX2_turn : MethodName := ⟨RX2, "turn", "(I)V"⟩
abbrev cX2_keep : ByteArray := prog_4_method_7_code
def yX2_keep : MethodName := ⟨RX2, "keep", "()V"⟩
def RX3 : String := "LifeRents$Ledger"
def TX3 : u_T := fun k => match k with
  | 0 => ("LifeRents$Ledger", "book", "LLifeRents$Book;", true)
  | 1 => ("LifeRents$Ledger", "rents", "[LLifeRents$Rent;", true)
  | 2 => ("LifeRents$Ledger", "size", "I", false)
  | 3 => ("LifeRents$Ledger", "saleRents", "[I", true)
  | 4 => ("LifeRents$Ledger", "sellers", "[I", true)
  | 5 => ("LifeRents$Ledger", "takers", "[I", true)
  | 6 => ("LifeRents$Ledger", "saleParts", "[I", true)
  | 7 => ("LifeRents$Ledger", "saleHalves", "[I", true)
  | 8 => ("LifeRents$Ledger", "sales", "I", false)
  | 9 => ("LifeRents$Ledger", "held", "[I", true)
  | _ => ("LifeRents$Ledger", "settled", "I", false)
def tyX3 : Nat → FieldType := fun k => match k with
  | 0 => .object "LifeRents$Book"
  | 1 => .array (.object "LifeRents$Rent")
  | 2 => .int
  | 3 => .array .int
  | 4 => .array .int
  | 5 => .array .int
  | 6 => .array .int
  | 7 => .array .int
  | 8 => .int
  | 9 => .array .int
  | _ => .int
abbrev wsX30 : List Cond := u_ws RX3 TX3 11
theorem nmX3 : ∀ a, a < 11 → ∀ b, b < 11 → a ≠ b → (TX3 a).2.1 ≠ (TX3 b).2.1 := by decide +kernel
theorem tyX3_ok : ∀ k, k < 11 → parseFieldDescriptor (TX3 k).2.2.1 = some (tyX3 k) := by decide +kernel
abbrev cX3_init : ByteArray := prog_5_method_1_code
def yX3_init : MethodName := ⟨RX3, "<init>", "(LLifeRents$Book;)V"⟩
abbrev cX3_has : ByteArray := prog_5_method_2_code
def yX3_has : MethodName := ⟨RX3, "has", "(I)Z"⟩
abbrev cX3_isFull : ByteArray := prog_5_method_3_code
def yX3_isFull : MethodName := ⟨RX3, "isFull", "()Z"⟩
abbrev cX3_buy : ByteArray := prog_5_method_4_code
def yX3_buy : MethodName := ⟨RX3, "buy", "(LLifeRents$Rent;)I"⟩
abbrev cX3_passOn : ByteArray := prog_5_method_5_code
def yX3_passOn : MethodName := ⟨RX3, "passOn", "(IIIII)Z"⟩
abbrev cX3_heldBy : ByteArray := prog_5_method_6_code
def yX3_heldBy : MethodName := ⟨RX3, "heldBy", "(III)I"⟩
abbrev cX3_spreadParts : ByteArray := prog_5_method_7_code
def yX3_spreadParts : MethodName := ⟨RX3, "spreadParts", "(II)V"⟩
abbrev cX3_firstAloneOn : ByteArray := prog_5_method_8_code
def yX3_firstAloneOn : MethodName := ⟨RX3, "firstAloneOn", "(I)I"⟩
abbrev cX3_coinsAloneOn : ByteArray := prog_5_method_9_code
def yX3_coinsAloneOn : MethodName := ⟨RX3, "coinsAloneOn", "(I)I"⟩
abbrev cX3_isDue : ByteArray := prog_5_method_10_code
def yX3_isDue : MethodName := ⟨RX3, "isDue", "(II)Z"⟩
abbrev cX3_isProved : ByteArray := prog_5_method_11_code
def yX3_isProved : MethodName := ⟨RX3, "isProved", "(III)Z"⟩
abbrev cX3_reopen : ByteArray := prog_5_method_12_code
def yX3_reopen : MethodName := ⟨RX3, "reopen", "()V"⟩
abbrev cX3_settle : ByteArray := prog_5_method_13_code
def yX3_settle : MethodName := ⟨RX3, "settle", "(ILLifeRents$Acts;)V"⟩
abbrev cX3_pay : ByteArray := prog_5_method_14_code
def yX3_pay : MethodName := ⟨RX3, "pay", "(IIII)V"⟩
abbrev cX3_gainsOf : ByteArray := prog_5_method_15_code
def yX3_gainsOf : MethodName := ⟨RX3, "gainsOf", "(II)I"⟩
abbrev cX3_shareOf : ByteArray := prog_5_method_16_code
def yX3_shareOf : MethodName := ⟨RX3, "shareOf", "(III)I"⟩
abbrev cX3_debtOf : ByteArray := prog_5_method_17_code
def yX3_debtOf : MethodName := ⟨RX3, "debtOf", "(II)I"⟩
abbrev cX3_debts : ByteArray := prog_5_method_18_code
def yX3_debts : MethodName := ⟨RX3, "debts", "(I)I"⟩
abbrev cX3_payments : ByteArray := prog_5_method_19_code
def yX3_payments : MethodName := ⟨RX3, "payments", "(I)I"⟩
abbrev cX3_takings : ByteArray := prog_5_method_20_code
def yX3_takings : MethodName := ⟨RX3, "takings", "(I)I"⟩
def RX4 : String := "LifeRents$Line"
def TX4 : u_T := fun k => match k with
  | 0 => ("LifeRents$Line", "sort", "LLifeRents$Word;", false)
  | 1 => ("LifeRents$Line", "number", "I", false)
  | 2 => ("LifeRents$Line", "ageFrom", "I", false)
  | 3 => ("LifeRents$Line", "ageTo", "I", false)
  | 4 => ("LifeRents$Line", "classes", "I", false)
  | 5 => ("LifeRents$Line", "halfFrom", "I", false)
  | 6 => ("LifeRents$Line", "halfTo", "I", false)
  | _ => ("LifeRents$Line", "lives", "I", false)
def tyX4 : Nat → FieldType := fun k => match k with
  | 0 => .object "LifeRents$Word"
  | 1 => .int
  | 2 => .int
  | 3 => .int
  | 4 => .int
  | 5 => .int
  | 6 => .int
  | _ => .int
abbrev wsX40 : List Cond := u_ws RX4 TX4 8
theorem nmX4 : ∀ a, a < 8 → ∀ b, b < 8 → a ≠ b → (TX4 a).2.1 ≠ (TX4 b).2.1 := by decide +kernel
theorem tyX4_ok : ∀ k, k < 8 → parseFieldDescriptor (TX4 k).2.2.1 = some (tyX4 k) := by decide +kernel
abbrev cX4_init : ByteArray := prog_6_method_1_code
def yX4_init : MethodName := ⟨RX4, "<init>", "()V"⟩
abbrev cX4_begin : ByteArray := prog_6_method_2_code
def yX4_begin : MethodName := ⟨RX4, "begin", "(LLifeRents$Word;)V"⟩
abbrev cX4_hasTold : ByteArray := prog_6_method_3_code
def yX4_hasTold : MethodName := ⟨RX4, "hasTold", "(LLifeRents$Word;)Z"⟩
abbrev cX4_fits : ByteArray := prog_6_method_4_code
def yX4_fits : MethodName := ⟨RX4, "fits", "(IIII)Z"⟩
def RX5 : String := "LifeRents$People"
def TX5 : u_T := fun k => match k with
  | 0 => ("LifeRents$People", "births", "[I", true)
  | 1 => ("LifeRents$People", "kinds", "[I", true)
  | _ => ("LifeRents$People", "size", "I", false)
def tyX5 : Nat → FieldType := fun k => match k with
  | 0 => .array .int
  | 1 => .array .int
  | _ => .int
abbrev wsX50 : List Cond := u_ws RX5 TX5 3
theorem nmX5 : ∀ a, a < 3 → ∀ b, b < 3 → a ≠ b → (TX5 a).2.1 ≠ (TX5 b).2.1 := by decide +kernel
theorem tyX5_ok : ∀ k, k < 3 → parseFieldDescriptor (TX5 k).2.2.1 = some (tyX5 k) := by decide +kernel
abbrev cX5_init : ByteArray := prog_7_method_1_code
def yX5_init : MethodName := ⟨RX5, "<init>", "()V"⟩
abbrev cX5_has : ByteArray := prog_7_method_2_code
def yX5_has : MethodName := ⟨RX5, "has", "(I)Z"⟩
abbrev cX5_enter : ByteArray := prog_7_method_3_code
def yX5_enter : MethodName := ⟨RX5, "enter", "(II)I"⟩
abbrev cX5_ageIn : ByteArray := prog_7_method_4_code
def yX5_ageIn : MethodName := ⟨RX5, "ageIn", "(II)I"⟩
abbrev cX5_younger : ByteArray := prog_7_method_5_code
def yX5_younger : MethodName := ⟨RX5, "younger", "(III)I"⟩
def RX6 : String := "LifeRents$Reader"
def TX6 : u_T := fun k => match k with
  | 0 => ("LifeRents$Reader", "text", "[I", true)
  | 1 => ("LifeRents$Reader", "taped", "I", false)
  | 2 => ("LifeRents$Reader", "length", "I", false)
  | 3 => ("LifeRents$Reader", "into", "LLifeRents$Acts;", false)
  | 4 => ("LifeRents$Reader", "lines", "I", false)
  | 5 => ("LifeRents$Reader", "next", "I", false)
  | 6 => ("LifeRents$Reader", "opened", "LLifeRents$Word;", false)
  | 7 => ("LifeRents$Reader", "rule", "LLifeRents$Line;", false)
  | 8 => ("LifeRents$Reader", "low", "I", false)
  | 9 => ("LifeRents$Reader", "at", "I", false)
  | 10 => ("LifeRents$Reader", "behind", "I", false)
  | 11 => ("LifeRents$Reader", "token", "I", false)
  | 12 => ("LifeRents$Reader", "number", "I", false)
  | 13 => ("LifeRents$Reader", "word", "LLifeRents$Word;", false)
  | 14 => ("LifeRents$Reader", "fault", "I", false)
  | _ => ("LifeRents$Reader", "place", "I", false)
def tyX6 : Nat → FieldType := fun k => match k with
  | 0 => .array .int
  | 1 => .int
  | 2 => .int
  | 3 => .object "LifeRents$Acts"
  | 4 => .int
  | 5 => .int
  | 6 => .object "LifeRents$Word"
  | 7 => .object "LifeRents$Line"
  | 8 => .int
  | 9 => .int
  | 10 => .int
  | 11 => .int
  | 12 => .int
  | 13 => .object "LifeRents$Word"
  | 14 => .int
  | _ => .int
abbrev wsX60 : List Cond := u_ws RX6 TX6 16
theorem nmX6 : ∀ a, a < 16 → ∀ b, b < 16 → a ≠ b → (TX6 a).2.1 ≠ (TX6 b).2.1 := by decide +kernel
theorem tyX6_ok : ∀ k, k < 16 → parseFieldDescriptor (TX6 k).2.2.1 = some (tyX6 k) := by decide +kernel
abbrev cX6_init : ByteArray := prog_8_method_1_code
def yX6_init : MethodName := ⟨RX6, "<init>", "()V"⟩
abbrev cX6_putBytes : ByteArray := prog_8_method_2_code
def yX6_putBytes : MethodName := ⟨RX6, "putBytes", "(I)V"⟩
abbrev cX6_read : ByteArray := prog_8_method_3_code
def yX6_read : MethodName := ⟨RX6, "read", "(ILLifeRents$Acts;)I"⟩
abbrev cX6_skipBlanks : ByteArray := prog_8_method_4_code
def yX6_skipBlanks : MethodName := ⟨RX6, "skipBlanks", "()V"⟩
abbrev cX6_takeToken : ByteArray := prog_8_method_5_code
def yX6_takeToken : MethodName := ⟨RX6, "takeToken", "()V"⟩
abbrev cX6_isLetter : ByteArray := prog_8_method_6_code
def yX6_isLetter : MethodName := ⟨RX6, "isLetter", "(I)Z"⟩
abbrev cX6_isDigit : ByteArray := prog_8_method_7_code
def yX6_isDigit : MethodName := ⟨RX6, "isDigit", "(I)Z"⟩
abbrev cX6_takeWord : ByteArray := prog_8_method_8_code
def yX6_takeWord : MethodName := ⟨RX6, "takeWord", "()V"⟩
abbrev cX6_spells : ByteArray := prog_8_method_9_code
def yX6_spells : MethodName := ⟨RX6, "spells", "(Ljava/lang/String;)Z"⟩
abbrev cX6_takeNumber : ByteArray := prog_8_method_10_code
def yX6_takeNumber : MethodName := ⟨RX6, "takeNumber", "()V"⟩
abbrev cX6_put : ByteArray := prog_8_method_11_code
def yX6_put : MethodName := ⟨RX6, "put", "()I"⟩
abbrev cX6_putLineWord : ByteArray := prog_8_method_12_code
def yX6_putLineWord : MethodName := ⟨RX6, "putLineWord", "()I"⟩
abbrev cX6_putAmount : ByteArray := prog_8_method_13_code
def yX6_putAmount : MethodName := ⟨RX6, "putAmount", "()I"⟩
abbrev cX6_numberFault : ByteArray := prog_8_method_14_code
def yX6_numberFault : MethodName := ⟨RX6, "numberFault", "()I"⟩
abbrev cX6_putWhom : ByteArray := prog_8_method_15_code
def yX6_putWhom : MethodName := ⟨RX6, "putWhom", "()I"⟩
abbrev cX6_putFrom : ByteArray := prog_8_method_16_code
def yX6_putFrom : MethodName := ⟨RX6, "putFrom", "()I"⟩
abbrev cX6_putUpTo : ByteArray := prog_8_method_17_code
def yX6_putUpTo : MethodName := ⟨RX6, "putUpTo", "()I"⟩
abbrev cX6_putClass : ByteArray := prog_8_method_18_code
def yX6_putClass : MethodName := ⟨RX6, "putClass", "()I"⟩
abbrev cX6_putLineEnd : ByteArray := prog_8_method_19_code
def yX6_putLineEnd : MethodName := ⟨RX6, "putLineEnd", "()I"⟩
def RX7 : String := "LifeRents$Rent"
def TX7 : u_T := fun k => match k with
  | 0 => ("LifeRents$Rent", "holder", "I", true)
  | 1 => ("LifeRents$Rent", "first", "I", true)
  | 2 => ("LifeRents$Rent", "second", "I", true)
  | 3 => ("LifeRents$Rent", "coins", "I", true)
  | 4 => ("LifeRents$Rent", "bought", "I", true)
  | 5 => ("LifeRents$Rent", "cost", "I", true)
  | _ => ("LifeRents$Rent", "paidIn", "[I", true)
def tyX7 : Nat → FieldType := fun k => match k with
  | 0 => .int
  | 1 => .int
  | 2 => .int
  | 3 => .int
  | 4 => .int
  | 5 => .int
  | _ => .array .int
abbrev wsX70 : List Cond := u_ws RX7 TX7 7
theorem nmX7 : ∀ a, a < 7 → ∀ b, b < 7 → a ≠ b → (TX7 a).2.1 ≠ (TX7 b).2.1 := by decide +kernel
theorem tyX7_ok : ∀ k, k < 7 → parseFieldDescriptor (TX7 k).2.2.1 = some (tyX7 k) := by decide +kernel
abbrev cX7_init : ByteArray := prog_9_method_1_code
def yX7_init : MethodName := ⟨RX7, "<init>", "(IIIIII)V"⟩
abbrev cX7_isAloneOn : ByteArray := prog_9_method_2_code
def yX7_isAloneOn : MethodName := ⟨RX7, "isAloneOn", "(I)Z"⟩
abbrev cX7_forgetFrom : ByteArray := prog_9_method_3_code
def yX7_forgetFrom : MethodName := ⟨RX7, "forgetFrom", "(I)V"⟩
abbrev cX7_isPaidBy : ByteArray := prog_9_method_4_code
def yX7_isPaidBy : MethodName := ⟨RX7, "isPaidBy", "(II)Z"⟩
def RX8 : String := "LifeRents$Tables"
def TX8 : u_T := fun k => match k with
  | 0 => ("LifeRents$Tables", "people", "LLifeRents$People;", true)
  | 1 => ("LifeRents$Tables", "book", "LLifeRents$Book;", true)
  | 2 => ("LifeRents$Tables", "sold", "[[I", true)
  | 3 => ("LifeRents$Tables", "begun", "I", false)
  | 4 => ("LifeRents$Tables", "ended", "I", false)
  | 5 => ("LifeRents$Tables", "firstRow", "[I", true)
  | _ => ("LifeRents$Tables", "secondRow", "[I", true)
def tyX8 : Nat → FieldType := fun k => match k with
  | 0 => .object "LifeRents$People"
  | 1 => .object "LifeRents$Book"
  | 2 => .array (.array .int)
  | 3 => .int
  | 4 => .int
  | 5 => .array .int
  | _ => .array .int
abbrev wsX80 : List Cond := u_ws RX8 TX8 7
theorem nmX8 : ∀ a, a < 7 → ∀ b, b < 7 → a ≠ b → (TX8 a).2.1 ≠ (TX8 b).2.1 := by decide +kernel
theorem tyX8_ok : ∀ k, k < 7 → parseFieldDescriptor (TX8 k).2.2.1 = some (tyX8 k) := by decide +kernel
abbrev cX8_init : ByteArray := prog_10_method_1_code
def yX8_init : MethodName := ⟨RX8, "<init>", "(LLifeRents$People;LLifeRents$Book;)V"⟩
abbrev cX8_countYears : ByteArray := prog_10_method_2_code
def yX8_countYears : MethodName := ⟨RX8, "countYears", "(III)V"⟩
abbrev cX8_countYearsOf : ByteArray := prog_10_method_3_code
def yX8_countYearsOf : MethodName := ⟨RX8, "countYearsOf", "(III)V"⟩
abbrev cX8_live : ByteArray := prog_10_method_4_code
def yX8_live : MethodName := ⟨RX8, "live", "(IIII)I"⟩
abbrev cX8_fillRow : ByteArray := prog_10_method_5_code
def yX8_fillRow : MethodName := ⟨RX8, "fillRow", "([IIII)V"⟩
abbrev cX8_worthOf : ByteArray := prog_10_method_6_code
def yX8_worthOf : MethodName := ⟨RX8, "worthOf", "(IIIII)I"⟩
abbrev cX8_worthOnOne : ByteArray := prog_10_method_7_code
def yX8_worthOnOne : MethodName := ⟨RX8, "worthOnOne", "(I[II)I"⟩
abbrev cX8_worthTillFirst : ByteArray := prog_10_method_8_code
def yX8_worthTillFirst : MethodName := ⟨RX8, "worthTillFirst", "(III)I"⟩
abbrev cX8_yearBefore : ByteArray := prog_10_method_9_code
def yX8_yearBefore : MethodName := ⟨RX8, "yearBefore", "(III)I"⟩
def RX9 : String := "LifeRents$Word"
def TX9 : u_T := fun k => match k with
  | _ => ("", "", "", false)
def tyX9 : Nat → FieldType := fun k => match k with
  | _ => .int
abbrev wsX90 : List Cond := u_ws RX9 TX9 0
theorem nmX9 : ∀ a, a < 0 → ∀ b, b < 0 → a ≠ b → (TX9 a).2.1 ≠ (TX9 b).2.1 := by decide +kernel
theorem tyX9_ok : ∀ k, k < 0 → parseFieldDescriptor (TX9 k).2.2.1 = some (tyX9 k) := by decide +kernel
def RX10 : String := "LifeRents"
def TX10 : u_T := fun k => match k with
  | 0 => ("LifeRents", "reader", "LLifeRents$Reader;", true)
  | 1 => ("LifeRents", "acts", "LLifeRents$Acts;", false)
  | 2 => ("LifeRents", "spare", "LLifeRents$Acts;", false)
  | 3 => ("LifeRents", "now", "I", false)
  | 4 => ("LifeRents", "people", "LLifeRents$People;", true)
  | 5 => ("LifeRents", "book", "LLifeRents$Book;", true)
  | 6 => ("LifeRents", "ledger", "LLifeRents$Ledger;", true)
  | 7 => ("LifeRents", "tables", "LLifeRents$Tables;", true)
  | 8 => ("LifeRents", "buyer", "LLifeRents$Buyer;", true)
  | _ => ("LifeRents", "risks", "[J", true)
def tyX10 : Nat → FieldType := fun k => match k with
  | 0 => .object "LifeRents$Reader"
  | 1 => .object "LifeRents$Acts"
  | 2 => .object "LifeRents$Acts"
  | 3 => .int
  | 4 => .object "LifeRents$People"
  | 5 => .object "LifeRents$Book"
  | 6 => .object "LifeRents$Ledger"
  | 7 => .object "LifeRents$Tables"
  | 8 => .object "LifeRents$Buyer"
  | _ => .array .long
abbrev wsX100 : List Cond := u_ws RX10 TX10 10
theorem nmX10 : ∀ a, a < 10 → ∀ b, b < 10 → a ≠ b → (TX10 a).2.1 ≠ (TX10 b).2.1 := by decide +kernel
theorem tyX10_ok : ∀ k, k < 10 → parseFieldDescriptor (TX10 k).2.2.1 = some (tyX10 k) := by decide +kernel
abbrev cX10_init : ByteArray := prog_1_method_1_code
def yX10_init : MethodName := ⟨RX10, "<init>", "()V"⟩
abbrev cX10_feed : ByteArray := prog_1_method_2_code
def yX10_feed : MethodName := ⟨RX10, "feed", "(IIIII)I"⟩
abbrev cX10_acts : ByteArray := prog_1_method_3_code
def yX10_acts : MethodName := ⟨RX10, "acts", "(I)I"⟩
abbrev cX10_fault : ByteArray := prog_1_method_4_code
def yX10_fault : MethodName := ⟨RX10, "fault", "(I)I"⟩
abbrev cX10_halves : ByteArray := prog_1_method_5_code
def yX10_halves : MethodName := ⟨RX10, "halves", "(I)I"⟩
abbrev cX10_life : ByteArray := prog_1_method_6_code
def yX10_life : MethodName := ⟨RX10, "life", "(II)I"⟩
abbrev cX10_asks : ByteArray := prog_1_method_7_code
def yX10_asks : MethodName := ⟨RX10, "asks", "(II)I"⟩
abbrev cX10_rent : ByteArray := prog_1_method_8_code
def yX10_rent : MethodName := ⟨RX10, "rent", "(IIII)I"⟩
abbrev cX10_sell : ByteArray := prog_1_method_9_code
def yX10_sell : MethodName := ⟨RX10, "sell", "(IIII)Z"⟩
abbrev cX10_parts : ByteArray := prog_1_method_10_code
def yX10_parts : MethodName := ⟨RX10, "parts", "(III)I"⟩
abbrev cX10_note : ByteArray := prog_1_method_11_code
def yX10_note : MethodName := ⟨RX10, "note", "(IIZ)I"⟩
abbrev cX10_strike : ByteArray := prog_1_method_12_code
def yX10_strike : MethodName := ⟨RX10, "strike", "(I)I"⟩
abbrev cX10_dead : ByteArray := prog_1_method_13_code
def yX10_dead : MethodName := ⟨RX10, "dead", "(II)I"⟩
abbrev cX10_holds : ByteArray := prog_1_method_14_code
def yX10_holds : MethodName := ⟨RX10, "holds", "(II)I"⟩
abbrev cX10_paid : ByteArray := prog_1_method_15_code
def yX10_paid : MethodName := ⟨RX10, "paid", "(III)I"⟩
abbrev cX10_got : ByteArray := prog_1_method_16_code
def yX10_got : MethodName := ⟨RX10, "got", "(II)I"⟩
abbrev cX10_owed : ByteArray := prog_1_method_17_code
def yX10_owed : MethodName := ⟨RX10, "owed", "(II)I"⟩
abbrev cX10_state : ByteArray := prog_1_method_18_code
def yX10_state : MethodName := ⟨RX10, "state", "(II)I"⟩
abbrev cX10_sold : ByteArray := prog_1_method_19_code
def yX10_sold : MethodName := ⟨RX10, "sold", "(III)Z"⟩
abbrev cX10_own : ByteArray := prog_1_method_20_code
def yX10_own : MethodName := ⟨RX10, "own", "(IIII)I"⟩
abbrev cX10_worth : ByteArray := prog_1_method_21_code
def yX10_worth : MethodName := ⟨RX10, "worth", "(III)I"⟩
abbrev cX10_names : ByteArray := prog_1_method_22_code
def yX10_names : MethodName := ⟨RX10, "names", "(I)I"⟩
abbrev cX10_named : ByteArray := prog_1_method_23_code
def yX10_named : MethodName := ⟨RX10, "named", "(I)I"⟩
abbrev cX10_look : ByteArray := prog_1_method_24_code
def yX10_look : MethodName := ⟨RX10, "look", "(I)I"⟩
abbrev cX10_risk : ByteArray := prog_1_method_25_code
def yX10_risk : MethodName := ⟨RX10, "risk", "(I)J"⟩
abbrev cX10_converts : ByteArray := prog_1_method_26_code
def yX10_converts : MethodName := ⟨RX10, "converts", "(I)I"⟩
abbrev cX10_count : ByteArray := prog_1_method_27_code
def yX10_count : MethodName := ⟨RX10, "count", "(I)I"⟩
abbrev cX10_isHalf : ByteArray := prog_1_method_28_code
def yX10_isHalf : MethodName := ⟨RX10, "isHalf", "(I)Z"⟩
abbrev cX10_isClass : ByteArray := prog_1_method_29_code
def yX10_isClass : MethodName := ⟨RX10, "isClass", "(I)Z"⟩
abbrev cX10_isGroup : ByteArray := prog_1_method_30_code
def yX10_isGroup : MethodName := ⟨RX10, "isGroup", "(I)Z"⟩
abbrev cX10_isHolder : ByteArray := prog_1_method_31_code
def yX10_isHolder : MethodName := ⟨RX10, "isHolder", "(I)Z"⟩
abbrev cX10_hasBegun : ByteArray := prog_1_method_32_code
def yX10_hasBegun : MethodName := ⟨RX10, "hasBegun", "(I)Z"⟩
abbrev cX10_hasYearsLeft : ByteArray := prog_1_method_33_code
def yX10_hasYearsLeft : MethodName := ⟨RX10, "hasYearsLeft", "(I)Z"⟩
abbrev cX10_groupOf : ByteArray := prog_1_method_34_code
def yX10_groupOf : MethodName := ⟨RX10, "groupOf", "(I)I"⟩
abbrev cX10_ruling : ByteArray := prog_1_method_35_code
def yX10_ruling : MethodName := ⟨RX10, "ruling", "(LLifeRents$Word;LLifeRents$Word;II)LLifeRents$Line;"⟩
abbrev cX10_mayBeNamed : ByteArray := prog_1_method_36_code
def yX10_mayBeNamed : MethodName := ⟨RX10, "mayBeNamed", "(II)Z"⟩
abbrev cX10_priceOn : ByteArray := prog_1_method_37_code
def yX10_priceOn : MethodName := ⟨RX10, "priceOn", "(II)I"⟩
abbrev cX10_lumpOn : ByteArray := prog_1_method_38_code
def yX10_lumpOn : MethodName := ⟨RX10, "lumpOn", "(II)I"⟩
abbrev cX10_worthNow : ByteArray := prog_1_method_39_code
def yX10_worthNow : MethodName := ⟨RX10, "worthNow", "(III)I"⟩
abbrev cX10_riskOn : ByteArray := prog_1_method_40_code
def yX10_riskOn : MethodName := ⟨RX10, "riskOn", "(I)J"⟩
abbrev cX10_riskierThan : ByteArray := prog_1_method_41_code
def yX10_riskierThan : MethodName := ⟨RX10, "riskierThan", "(I)I"⟩
def RX11 : String := "LifeRentsModel"
def TX11 : u_T := fun k => match k with
  | 0 => ("LifeRentsModel", "tape", "[I", true)
  | 1 => ("LifeRentsModel", "tapeSize", "I", false)
  | 2 => ("LifeRentsModel", "thrown", "I", false)
  | 3 => ("LifeRentsModel", "now", "I", false)
  | 4 => ("LifeRentsModel", "lives", "I", false)
  | 5 => ("LifeRentsModel", "born", "[I", true)
  | 6 => ("LifeRentsModel", "classOf", "[I", true)
  | 7 => ("LifeRentsModel", "rents", "I", false)
  | 8 => ("LifeRentsModel", "boughtIn", "[I", true)
  | 9 => ("LifeRentsModel", "buyer", "[I", true)
  | 10 => ("LifeRentsModel", "first", "[I", true)
  | 11 => ("LifeRentsModel", "second", "[I", true)
  | 12 => ("LifeRentsModel", "coinsOf", "[I", true)
  | 13 => ("LifeRentsModel", "costOf", "[I", true)
  | 14 => ("LifeRentsModel", "sales", "I", false)
  | 15 => ("LifeRentsModel", "sale", "[I", true)
  | 16 => ("LifeRentsModel", "notes", "I", false)
  | 17 => ("LifeRentsModel", "noteSort", "[I", true)
  | 18 => ("LifeRentsModel", "noteOf", "[I", true)
  | 19 => ("LifeRentsModel", "noteHalf", "[I", true)
  | 20 => ("LifeRentsModel", "noteTold", "[I", true)
  | 21 => ("LifeRentsModel", "table", "[I", true)
  | 22 => ("LifeRentsModel", "words", "[I", true)
  | 23 => ("LifeRentsModel", "fault", "I", false)
  | 24 => ("LifeRentsModel", "faultPlace", "I", false)
  | 25 => ("LifeRentsModel", "stop", "I", false)
  | 26 => ("LifeRentsModel", "next", "I", false)
  | 27 => ("LifeRentsModel", "kind", "I", false)
  | 28 => ("LifeRentsModel", "which", "I", false)
  | 29 => ("LifeRentsModel", "place", "I", false)
  | 30 => ("LifeRentsModel", "sort", "[I", true)
  | 31 => ("LifeRentsModel", "amount", "[I", true)
  | 32 => ("LifeRentsModel", "ageLow", "[I", true)
  | 33 => ("LifeRentsModel", "ageHigh", "[I", true)
  | 34 => ("LifeRentsModel", "classes", "[I", true)
  | 35 => ("LifeRentsModel", "halfLow", "[I", true)
  | 36 => ("LifeRentsModel", "halfHigh", "[I", true)
  | 37 => ("LifeRentsModel", "count", "[I", true)
  | 38 => ("LifeRentsModel", "lines", "I", false)
  | 39 => ("LifeRentsModel", "linesRead", "I", false)
  | 40 => ("LifeRentsModel", "number", "[I", true)
  | 41 => ("LifeRentsModel", "told", "[Z", true)
  | 42 => ("LifeRentsModel", "spanLow", "I", false)
  | 43 => ("LifeRentsModel", "spanHigh", "I", false)
  | 44 => ("LifeRentsModel", "counts", "[Z", true)
  | 45 => ("LifeRentsModel", "deadIn", "[I", true)
  | 46 => ("LifeRentsModel", "paidIn", "[I", true)
  | 47 => ("LifeRentsModel", "gotOf", "[I", true)
  | 48 => ("LifeRentsModel", "paidAll", "I", false)
  | 49 => ("LifeRentsModel", "begun", "I", false)
  | 50 => ("LifeRentsModel", "ended", "I", false)
  | 51 => ("LifeRentsModel", "by", "[I", true)
  | 52 => ("LifeRentsModel", "isNamed", "Z", false)
  | 53 => ("LifeRentsModel", "named", "[I", true)
  | 54 => ("LifeRentsModel", "tried", "[I", true)
  | 55 => ("LifeRentsModel", "open", "[I", true)
  | 56 => ("LifeRentsModel", "gain", "[I", true)
  | _ => ("LifeRentsModel", "price", "[I", true)
def tyX11 : Nat → FieldType := fun k => match k with
  | 0 => .array .int
  | 1 => .int
  | 2 => .int
  | 3 => .int
  | 4 => .int
  | 5 => .array .int
  | 6 => .array .int
  | 7 => .int
  | 8 => .array .int
  | 9 => .array .int
  | 10 => .array .int
  | 11 => .array .int
  | 12 => .array .int
  | 13 => .array .int
  | 14 => .int
  | 15 => .array .int
  | 16 => .int
  | 17 => .array .int
  | 18 => .array .int
  | 19 => .array .int
  | 20 => .array .int
  | 21 => .array .int
  | 22 => .array .int
  | 23 => .int
  | 24 => .int
  | 25 => .int
  | 26 => .int
  | 27 => .int
  | 28 => .int
  | 29 => .int
  | 30 => .array .int
  | 31 => .array .int
  | 32 => .array .int
  | 33 => .array .int
  | 34 => .array .int
  | 35 => .array .int
  | 36 => .array .int
  | 37 => .array .int
  | 38 => .int
  | 39 => .int
  | 40 => .array .int
  | 41 => .array .boolean
  | 42 => .int
  | 43 => .int
  | 44 => .array .boolean
  | 45 => .array .int
  | 46 => .array .int
  | 47 => .array .int
  | 48 => .int
  | 49 => .int
  | 50 => .int
  | 51 => .array .int
  | 52 => .boolean
  | 53 => .array .int
  | 54 => .array .int
  | 55 => .array .int
  | 56 => .array .int
  | _ => .array .int
abbrev wsX110 : List Cond := u_ws RX11 TX11 58
theorem nmX11 : ∀ a, a < 58 → ∀ b, b < 58 → a ≠ b → (TX11 a).2.1 ≠ (TX11 b).2.1 := by decide +kernel
theorem tyX11_ok : ∀ k, k < 58 → parseFieldDescriptor (TX11 k).2.2.1 = some (tyX11 k) := by decide +kernel
abbrev cX11_init : ByteArray := prog_13_method_1_code
def yX11_init : MethodName := ⟨RX11, "<init>", "()V"⟩
abbrev cX11_thrown : ByteArray := prog_13_method_2_code
def yX11_thrown : MethodName := ⟨RX11, "thrown", "()I"⟩
abbrev cX11_feed : ByteArray := prog_13_method_3_code
def yX11_feed : MethodName := ⟨RX11, "feed", "(IIIII)I"⟩
abbrev cX11_isIn : ByteArray := prog_13_method_4_code
def yX11_isIn : MethodName := ⟨RX11, "isIn", "(III)Z"⟩
abbrev cX11_isHalf : ByteArray := prog_13_method_5_code
def yX11_isHalf : MethodName := ⟨RX11, "isHalf", "(I)Z"⟩
abbrev cX11_wrong : ByteArray := prog_13_method_6_code
def yX11_wrong : MethodName := ⟨RX11, "wrong", "(I)Z"⟩
abbrev cX11_wordAt : ByteArray := prog_13_method_7_code
def yX11_wordAt : MethodName := ⟨RX11, "wordAt", "(II)I"⟩
abbrev cX11_isSmall : ByteArray := prog_13_method_8_code
def yX11_isSmall : MethodName := ⟨RX11, "isSmall", "(I)Z"⟩
abbrev cX11_isDigit : ByteArray := prog_13_method_9_code
def yX11_isDigit : MethodName := ⟨RX11, "isDigit", "(I)Z"⟩
abbrev cX11_take : ByteArray := prog_13_method_10_code
def yX11_take : MethodName := ⟨RX11, "take", "()V"⟩
abbrev cX11_isWord : ByteArray := prog_13_method_11_code
def yX11_isWord : MethodName := ⟨RX11, "isWord", "(I)Z"⟩
abbrev cX11_isNumber : ByteArray := prog_13_method_12_code
def yX11_isNumber : MethodName := ⟨RX11, "isNumber", "(II)Z"⟩
abbrev cX11_plain : ByteArray := prog_13_method_13_code
def yX11_plain : MethodName := ⟨RX11, "plain", "()V"⟩
abbrev cX11_keep : ByteArray := prog_13_method_14_code
def yX11_keep : MethodName := ⟨RX11, "keep", "()V"⟩
abbrev cX11_span : ByteArray := prog_13_method_15_code
def yX11_span : MethodName := ⟨RX11, "span", "(I)Z"⟩
abbrev cX11_classRow : ByteArray := prog_13_method_16_code
def yX11_classRow : MethodName := ⟨RX11, "classRow", "(I)Z"⟩
abbrev cX11_whom : ByteArray := prog_13_method_17_code
def yX11_whom : MethodName := ⟨RX11, "whom", "(I)Z"⟩
abbrev cX11_ofWhom : ByteArray := prog_13_method_18_code
def yX11_ofWhom : MethodName := ⟨RX11, "ofWhom", "(I)Z"⟩
abbrev cX11_ofNumber : ByteArray := prog_13_method_19_code
def yX11_ofNumber : MethodName := ⟨RX11, "ofNumber", "(I)Z"⟩
abbrev cX11_acts : ByteArray := prog_13_method_20_code
def yX11_acts : MethodName := ⟨RX11, "acts", "(I)I"⟩
abbrev cX11_fault : ByteArray := prog_13_method_21_code
def yX11_fault : MethodName := ⟨RX11, "fault", "(I)I"⟩
abbrev cX11_halves : ByteArray := prog_13_method_22_code
def yX11_halves : MethodName := ⟨RX11, "halves", "(I)I"⟩
abbrev cX11_life : ByteArray := prog_13_method_23_code
def yX11_life : MethodName := ⟨RX11, "life", "(II)I"⟩
abbrev cX11_isLife : ByteArray := prog_13_method_24_code
def yX11_isLife : MethodName := ⟨RX11, "isLife", "(I)Z"⟩
abbrev cX11_ageIn : ByteArray := prog_13_method_25_code
def yX11_ageIn : MethodName := ⟨RX11, "ageIn", "(II)I"⟩
abbrev cX11_actOf : ByteArray := prog_13_method_26_code
def yX11_actOf : MethodName := ⟨RX11, "actOf", "(IIIII)I"⟩
abbrev cX11_mayBe : ByteArray := prog_13_method_27_code
def yX11_mayBe : MethodName := ⟨RX11, "mayBe", "(II)Z"⟩
abbrev cX11_priceOf : ByteArray := prog_13_method_28_code
def yX11_priceOf : MethodName := ⟨RX11, "priceOf", "(II)I"⟩
abbrev cX11_lumpOf : ByteArray := prog_13_method_29_code
def yX11_lumpOf : MethodName := ⟨RX11, "lumpOf", "(II)I"⟩
abbrev cX11_asks : ByteArray := prog_13_method_30_code
def yX11_asks : MethodName := ⟨RX11, "asks", "(II)I"⟩
abbrev cX11_isHolder : ByteArray := prog_13_method_31_code
def yX11_isHolder : MethodName := ⟨RX11, "isHolder", "(I)Z"⟩
abbrev cX11_rent : ByteArray := prog_13_method_32_code
def yX11_rent : MethodName := ⟨RX11, "rent", "(IIII)I"⟩
abbrev cX11_isRent : ByteArray := prog_13_method_33_code
def yX11_isRent : MethodName := ⟨RX11, "isRent", "(I)Z"⟩
abbrev cX11_partsOf : ByteArray := prog_13_method_34_code
def yX11_partsOf : MethodName := ⟨RX11, "partsOf", "(III)I"⟩
abbrev cX11_sell : ByteArray := prog_13_method_35_code
def yX11_sell : MethodName := ⟨RX11, "sell", "(IIII)Z"⟩
abbrev cX11_parts : ByteArray := prog_13_method_36_code
def yX11_parts : MethodName := ⟨RX11, "parts", "(III)I"⟩
abbrev cX11_told : ByteArray := prog_13_method_37_code
def yX11_told : MethodName := ⟨RX11, "told", "(III)I"⟩
abbrev cX11_note : ByteArray := prog_13_method_38_code
def yX11_note : MethodName := ⟨RX11, "note", "(IIZ)I"⟩
abbrev cX11_strike : ByteArray := prog_13_method_39_code
def yX11_strike : MethodName := ⟨RX11, "strike", "(I)I"⟩
abbrev cX11_know : ByteArray := prog_13_method_40_code
def yX11_know : MethodName := ⟨RX11, "know", "(I)V"⟩
abbrev cX11_isFalse : ByteArray := prog_13_method_41_code
def yX11_isFalse : MethodName := ⟨RX11, "isFalse", "(I)Z"⟩
abbrev cX11_dead : ByteArray := prog_13_method_42_code
def yX11_dead : MethodName := ⟨RX11, "dead", "(II)I"⟩
abbrev cX11_holds : ByteArray := prog_13_method_43_code
def yX11_holds : MethodName := ⟨RX11, "holds", "(II)I"⟩
abbrev cX11_lives : ByteArray := prog_13_method_44_code
def yX11_lives : MethodName := ⟨RX11, "lives", "(II)Z"⟩
abbrev cX11_isDue : ByteArray := prog_13_method_45_code
def yX11_isDue : MethodName := ⟨RX11, "isDue", "(II)Z"⟩
abbrev cX11_isProved : ByteArray := prog_13_method_46_code
def yX11_isProved : MethodName := ⟨RX11, "isProved", "(II)Z"⟩
abbrev cX11_pays : ByteArray := prog_13_method_47_code
def yX11_pays : MethodName := ⟨RX11, "pays", "(I)V"⟩
abbrev cX11_shares : ByteArray := prog_13_method_48_code
def yX11_shares : MethodName := ⟨RX11, "shares", "(II)V"⟩
abbrev cX11_paid : ByteArray := prog_13_method_49_code
def yX11_paid : MethodName := ⟨RX11, "paid", "(III)I"⟩
abbrev cX11_got : ByteArray := prog_13_method_50_code
def yX11_got : MethodName := ⟨RX11, "got", "(II)I"⟩
abbrev cX11_owedOf : ByteArray := prog_13_method_51_code
def yX11_owedOf : MethodName := ⟨RX11, "owedOf", "(I)I"⟩
abbrev cX11_owed : ByteArray := prog_13_method_52_code
def yX11_owed : MethodName := ⟨RX11, "owed", "(II)I"⟩
abbrev cX11_state : ByteArray := prog_13_method_53_code
def yX11_state : MethodName := ⟨RX11, "state", "(II)I"⟩
abbrev cX11_sold : ByteArray := prog_13_method_54_code
def yX11_sold : MethodName := ⟨RX11, "sold", "(III)Z"⟩
abbrev cX11_groupOf : ByteArray := prog_13_method_55_code
def yX11_groupOf : MethodName := ⟨RX11, "groupOf", "(I)I"⟩
abbrev cX11_years : ByteArray := prog_13_method_56_code
def yX11_years : MethodName := ⟨RX11, "years", "(III)V"⟩
abbrev cX11_lived : ByteArray := prog_13_method_57_code
def yX11_lived : MethodName := ⟨RX11, "lived", "(III)I"⟩
abbrev cX11_own : ByteArray := prog_13_method_58_code
def yX11_own : MethodName := ⟨RX11, "own", "(IIII)I"⟩
abbrev cX11_lay : ByteArray := prog_13_method_59_code
def yX11_lay : MethodName := ⟨RX11, "lay", "(I)V"⟩
abbrev cX11_liveOf : ByteArray := prog_13_method_60_code
def yX11_liveOf : MethodName := ⟨RX11, "liveOf", "(II)I"⟩
abbrev cX11_yearBack : ByteArray := prog_13_method_61_code
def yX11_yearBack : MethodName := ⟨RX11, "yearBack", "(II)I"⟩
abbrev cX11_worthOf : ByteArray := prog_13_method_62_code
def yX11_worthOf : MethodName := ⟨RX11, "worthOf", "(I)I"⟩
abbrev cX11_bothOf : ByteArray := prog_13_method_63_code
def yX11_bothOf : MethodName := ⟨RX11, "bothOf", "(II)I"⟩
abbrev cX11_worthOn : ByteArray := prog_13_method_64_code
def yX11_worthOn : MethodName := ⟨RX11, "worthOn", "(II)I"⟩
abbrev cX11_worth : ByteArray := prog_13_method_65_code
def yX11_worth : MethodName := ⟨RX11, "worth", "(III)I"⟩
abbrev cX11_names : ByteArray := prog_13_method_66_code
def yX11_names : MethodName := ⟨RX11, "names", "(I)I"⟩
abbrev cX11_named : ByteArray := prog_13_method_67_code
def yX11_named : MethodName := ⟨RX11, "named", "(I)I"⟩
abbrev cX11_riskOf : ByteArray := prog_13_method_68_code
def yX11_riskOf : MethodName := ⟨RX11, "riskOf", "(I)J"⟩
abbrev cX11_look : ByteArray := prog_13_method_69_code
def yX11_look : MethodName := ⟨RX11, "look", "(I)I"⟩
abbrev cX11_fails : ByteArray := prog_13_method_70_code
def yX11_fails : MethodName := ⟨RX11, "fails", "(I)J"⟩
abbrev cX11_risk : ByteArray := prog_13_method_71_code
def yX11_risk : MethodName := ⟨RX11, "risk", "(I)J"⟩
abbrev cX11_living : ByteArray := prog_13_method_72_code
def yX11_living : MethodName := ⟨RX11, "living", "(I)I"⟩
abbrev cX11_converts : ByteArray := prog_13_method_73_code
def yX11_converts : MethodName := ⟨RX11, "converts", "(I)I"⟩
abbrev cX11_count : ByteArray := prog_13_method_74_code
def yX11_count : MethodName := ⟨RX11, "count", "(I)I"⟩
def RJx29ce0 : String := "java/lang/Enum"
def TJx29ce0 : u_T := fun k => match k with
  | _ => ("", "", "", false)
def tyJx29ce0 : Nat → FieldType := fun k => match k with
  | _ => .int
abbrev wsJx29ce00 : List Cond := u_ws RJx29ce0 TJx29ce0 0
theorem nmJx29ce0 : ∀ a, a < 0 → ∀ b, b < 0 → a ≠ b → (TJx29ce0 a).2.1 ≠ (TJx29ce0 b).2.1 := by decide +kernel
theorem tyJx29ce0_ok : ∀ k, k < 0 → parseFieldDescriptor (TJx29ce0 k).2.2.1 = some (tyJx29ce0 k) := by decide +kernel
def RJ9 : String := "java/lang/Math"
def TJ9 : u_T := fun k => match k with
  | _ => ("", "", "", false)
def tyJ9 : Nat → FieldType := fun k => match k with
  | _ => .int
abbrev wsJ90 : List Cond := u_ws RJ9 TJ9 0
theorem nmJ9 : ∀ a, a < 0 → ∀ b, b < 0 → a ≠ b → (TJ9 a).2.1 ≠ (TJ9 b).2.1 := by decide +kernel
theorem tyJ9_ok : ∀ k, k < 0 → parseFieldDescriptor (TJ9 k).2.2.1 = some (tyJ9 k) := by decide +kernel
abbrev cJ9_max_7cf53 : ByteArray := prog_17_method_65_code
def yJ9_max_7cf53 : MethodName := ⟨RJ9, "max", "(II)I"⟩
abbrev cJ9_min_7cf53 : ByteArray := prog_17_method_69_code
def yJ9_min_7cf53 : MethodName := ⟨RJ9, "min", "(II)I"⟩
def RJ0 : String := "java/lang/String"
def TJ0 : u_T := fun k => match k with
  | _ => ("", "", "", false)
def tyJ0 : Nat → FieldType := fun k => match k with
  | _ => .int
abbrev wsJ00 : List Cond := u_ws RJ0 TJ0 0
theorem nmJ0 : ∀ a, a < 0 → ∀ b, b < 0 → a ≠ b → (TJ0 a).2.1 ≠ (TJ0 b).2.1 := by decide +kernel
theorem tyJ0_ok : ∀ k, k < 0 → parseFieldDescriptor (TJ0 k).2.2.1 = some (tyJ0 k) := by decide +kernel
abbrev cJ0_length_8abf5 : ByteArray := prog_19_method_54_code
def yJ0_length_8abf5 : MethodName := ⟨RJ0, "length", "()I"⟩
abbrev cJ0_charAt_5068e : ByteArray := prog_19_method_56_code
def yJ0_charAt_5068e : MethodName := ⟨RJ0, "charAt", "(I)C"⟩
abbrev cJ0_coder_7d493 : ByteArray := prog_19_method_152_code
def yJ0_coder_7d493 : MethodName := ⟨RJ0, "coder", "()B"⟩
abbrev cJ0_isLatin1_aae02 : ByteArray := prog_19_method_154_code
def yJ0_isLatin1_aae02 : MethodName := ⟨RJ0, "isLatin1", "()Z"⟩
abbrev cJ0_checkIndex_df160 : ByteArray := prog_19_method_155_code
def yJ0_checkIndex_df160 : MethodName := ⟨RJ0, "checkIndex", "(II)V"⟩
def RJ1 : String := "java/lang/StringLatin1"
def TJ1 : u_T := fun k => match k with
  | _ => ("", "", "", false)
def tyJ1 : Nat → FieldType := fun k => match k with
  | _ => .int
abbrev wsJ10 : List Cond := u_ws RJ1 TJ1 0
theorem nmJ1 : ∀ a, a < 0 → ∀ b, b < 0 → a ≠ b → (TJ1 a).2.1 ≠ (TJ1 b).2.1 := by decide +kernel
theorem tyJ1_ok : ∀ k, k < 0 → parseFieldDescriptor (TJ1 k).2.2.1 = some (tyJ1 k) := by decide +kernel
abbrev cJ1_charAt_3b067 : ByteArray := prog_20_method_2_code
def yJ1_charAt_3b067 : MethodName := ⟨RJ1, "charAt", "([BI)C"⟩
def RJ2 : String := "java/lang/StringUTF16"
def TJ2 : u_T := fun k => match k with
  | _ => ("", "", "", false)
def tyJ2 : Nat → FieldType := fun k => match k with
  | _ => .int
abbrev wsJ20 : List Cond := u_ws RJ2 TJ2 0
theorem nmJ2 : ∀ a, a < 0 → ∀ b, b < 0 → a ≠ b → (TJ2 a).2.1 ≠ (TJ2 b).2.1 := by decide +kernel
theorem tyJ2_ok : ∀ k, k < 0 → parseFieldDescriptor (TJ2 k).2.2.1 = some (tyJ2 k) := by decide +kernel
abbrev cJ2_getChar_3b067 : ByteArray := prog_21_method_5_code
def yJ2_getChar_3b067 : MethodName := ⟨RJ2, "getChar", "([BI)C"⟩
abbrev cJ2_length_9d52b : ByteArray := prog_21_method_6_code
def yJ2_length_9d52b : MethodName := ⟨RJ2, "length", "([B)I"⟩
abbrev cJ2_charAt_3b067 : ByteArray := prog_21_method_83_code
def yJ2_charAt_3b067 : MethodName := ⟨RJ2, "charAt", "([BI)C"⟩
abbrev cJ2_checkIndex_2214a : ByteArray := prog_21_method_91_code
def yJ2_checkIndex_2214a : MethodName := ⟨RJ2, "checkIndex", "(I[B)V"⟩
def RJ7 : String := "java/util/Arrays"
def TJ7 : u_T := fun k => match k with
  | _ => ("", "", "", false)
def tyJ7 : Nat → FieldType := fun k => match k with
  | _ => .int
abbrev wsJ70 : List Cond := u_ws RJ7 TJ7 0
theorem nmJ7 : ∀ a, a < 0 → ∀ b, b < 0 → a ≠ b → (TJ7 a).2.1 ≠ (TJ7 b).2.1 := by decide +kernel
theorem tyJ7_ok : ∀ k, k < 0 → parseFieldDescriptor (TJ7 k).2.2.1 = some (tyJ7 k) := by decide +kernel
abbrev cJ7_fill_53178 : ByteArray := prog_23_method_103_code
def yJ7_fill_53178 : MethodName := ⟨RJ7, "fill", "([II)V"⟩
def RJ3 : String := "jdk/internal/util/Preconditions"
def TJ3 : u_T := fun k => match k with
  | _ => ("", "", "", false)
def tyJ3 : Nat → FieldType := fun k => match k with
  | _ => .int
abbrev wsJ30 : List Cond := u_ws RJ3 TJ3 0
theorem nmJ3 : ∀ a, a < 0 → ∀ b, b < 0 → a ≠ b → (TJ3 a).2.1 ≠ (TJ3 b).2.1 := by decide +kernel
theorem tyJ3_ok : ∀ k, k < 0 → parseFieldDescriptor (TJ3 k).2.2.1 = some (tyJ3 k) := by decide +kernel
abbrev cJ3_checkIndex_8e157 : ByteArray := prog_25_method_11_code
def yJ3_checkIndex_8e157 : MethodName := ⟨RJ3, "checkIndex", "(IILjava/util/function/BiFunction;)I"⟩
def RL : String := "LifeRentsLaw"
abbrev cL_risk : ByteArray := method_3_code
def yL_risk : MethodName := ⟨RL, "risk", "(LLifeRents;I[J)I"⟩
abbrev cL_law : ByteArray := code
def yL_law : MethodName := ⟨RL, "law", "([I)Z"⟩
theorem tb1 : ∀ w ∈ tables_1_1, w ∈ lw_tbl := fun w h => List.mem_append_right _ (List.mem_append_left _ h)
theorem tb2 : ∀ w ∈ tables_1_2, w ∈ lw_tbl := fun w h => List.mem_append_right _ (List.mem_append_right _ (List.mem_append_left _ h))
theorem tb3 : ∀ w ∈ tables_1_3, w ∈ lw_tbl := fun w h => List.mem_append_right _ (List.mem_append_right _ (List.mem_append_right _ (List.mem_append_left _ h)))
theorem tb4 : ∀ w ∈ tables_1_4, w ∈ lw_tbl := fun w h => List.mem_append_right _ (List.mem_append_right _ (List.mem_append_right _ (List.mem_append_right _ (List.mem_append_left _ h))))
theorem tb5 : ∀ w ∈ tables_1_5, w ∈ lw_tbl := fun w h => List.mem_append_right _ (List.mem_append_right _ (List.mem_append_right _ (List.mem_append_right _ (List.mem_append_right _ (List.mem_append_left _ h)))))
theorem tb6 : ∀ w ∈ tables_1_6, w ∈ lw_tbl := fun w h => List.mem_append_right _ (List.mem_append_right _ (List.mem_append_right _ (List.mem_append_right _ (List.mem_append_right _ (List.mem_append_right _ (List.mem_append_left _ h))))))
theorem tb7 : ∀ w ∈ tables_1_7, w ∈ lw_tbl := fun w h => List.mem_append_right _ (List.mem_append_right _ (List.mem_append_right _ (List.mem_append_right _ (List.mem_append_right _ (List.mem_append_right _ (List.mem_append_right _ (h)))))))
theorem inX0 : ∀ w ∈ wsX00, w ∈ lw_tbl := fun w h => ((goodIn_r wsX00 [233, 235, 237] (by decide +kernel) (by decide +kernel)) w h).1
theorem inX1 : ∀ w ∈ wsX10, w ∈ lw_tbl := fun w h => ((goodIn_r wsX10 [283, 285, 287, 289, 291, 293, 295, 297, 299, 301] (by decide +kernel) (by decide +kernel)) w h).1
theorem inX2 : ∀ w ∈ wsX20, w ∈ lw_tbl := fun w h => ((goodIn_r wsX20 [402, 404, 406, 408, 410, 412, 414, 416, 418, 420, 422] (by decide +kernel) (by decide +kernel)) w h).1
theorem inX3 : ∀ w ∈ wsX30, w ∈ lw_tbl := fun w h => ((goodIn_r wsX30 [326, 328, 330, 332, 334, 336, 338, 340, 342, 344, 346] (by decide +kernel) (by decide +kernel)) w h).1
theorem inX4 : ∀ w ∈ wsX40, w ∈ lw_tbl := fun w h => ((goodIn_r wsX40 [202, 204, 206, 208, 210, 212, 214, 216] (by decide +kernel) (by decide +kernel)) w h).1
theorem inX5 : ∀ w ∈ wsX50, w ∈ lw_tbl := fun w h => ((goodIn_r wsX50 [255, 257, 259] (by decide +kernel) (by decide +kernel)) w h).1
theorem inX6 : ∀ w ∈ wsX60, w ∈ lw_tbl := fun w h => ((goodIn_r wsX60 [135, 137, 139, 141, 143, 145, 147, 149, 151, 153, 155, 157, 159, 161, 163, 165] (by decide +kernel) (by decide +kernel)) w h).1
theorem inX7 : ∀ w ∈ wsX70, w ∈ lw_tbl := fun w h => ((goodIn_r wsX70 [723, 725, 727, 729, 731, 733, 735] (by decide +kernel) (by decide +kernel)) w h).1
theorem inX8 : ∀ w ∈ wsX80, w ∈ lw_tbl := fun w h => ((goodIn_r wsX80 [368, 370, 372, 374, 376, 378, 380] (by decide +kernel) (by decide +kernel)) w h).1
theorem inX10 : ∀ w ∈ wsX100, w ∈ lw_tbl := fun w h => ((goodIn_r wsX100 [435, 437, 439, 441, 443, 445, 447, 449, 451, 453] (by decide +kernel) (by decide +kernel)) w h).1
theorem inX11 : ∀ w ∈ wsX110, w ∈ lw_tbl := fun w h => ((goodIn_r wsX110 [1208, 1210, 1212, 1214, 1216, 1218, 1220, 1222, 1224, 1226, 1228, 1230, 1232, 1234, 1236, 1238, 1240, 1242, 1244, 1246, 1248, 1250, 1252, 1254, 1256, 1258, 1260, 1262, 1264, 1266, 1268, 1270, 1272, 1274, 1276, 1278, 1280, 1282, 1284, 1286, 1288, 1290, 1292, 1294, 1296, 1298, 1300, 1302, 1304, 1306, 1308, 1310, 1312, 1314, 1316, 1318, 1320, 1322] (by decide +kernel) (by decide +kernel)) w h).1
end
section
def gt : List Cond := lw_tbl.filter goodWord
theorem gt_mem {w : Cond} (h : w ∈ lw_tbl) (hg : goodWord w = true) : w ∈ gt := List.mem_filter.mpr ⟨h, hg⟩
theorem gt_good {w : Cond} (h : w ∈ gt) : (w.onTables && w.keeps) = true ∨ ∃ ty, w = .arrayClass ty := good_of_word (List.mem_filter.mp h).2
theorem gt_tbl {w : Cond} (h : w ∈ gt) : w ∈ lw_tbl := (List.mem_filter.mp h).1
theorem gt_all {ws : List Cond} (h : ∀ w ∈ ws, w ∈ lw_tbl) (hg : ws.all goodWord = true) : ∀ w ∈ ws, w ∈ gt := fun w hw => gt_mem (h w hw) (List.all_eq_true.mp hg w hw)
abbrev fr_cls : List vw_C := [(RX0, TX0, 3), (RX1, TX1, 10), (RX2, TX2, 11), (RX3, TX3, 11), (RX4, TX4, 8), (RX5, TX5, 3), (RX6, TX6, 16), (RX7, TX7, 7), (RX8, TX8, 7), (RX5, TX5, 3), (RX10, TX10, 10), (RX11, TX11, 58)]
theorem fr_in {ci : Nat} {q : vw_C} (h : fr_cls[ci]? = some q) : ∀ w ∈ u_ws q.1 q.2.1 q.2.2, w ∈ gt := by
  match ci, h with
  | 0, h => cases h; exact gt_all inX0 (by decide +kernel)
  | 1, h => cases h; exact gt_all inX1 (by decide +kernel)
  | 2, h => cases h; exact gt_all inX2 (by decide +kernel)
  | 3, h => cases h; exact gt_all inX3 (by decide +kernel)
  | 4, h => cases h; exact gt_all inX4 (by decide +kernel)
  | 5, h => cases h; exact gt_all inX5 (by decide +kernel)
  | 6, h => cases h; exact gt_all inX6 (by decide +kernel)
  | 7, h => cases h; exact gt_all inX7 (by decide +kernel)
  | 8, h => cases h; exact gt_all inX8 (by decide +kernel)
  | 9, h => cases h; exact gt_all inX5 (by decide +kernel)
  | 10, h => cases h; exact gt_all inX10 (by decide +kernel)
  | 11, h => cases h; exact gt_all inX11 (by decide +kernel)
  | k + 12, h => simp [fr_cls] at h
def fr_ty (ci : Nat) : Nat → FieldType := match ci with
  | 0 => tyX0 | 1 => tyX1 | 2 => tyX2 | 3 => tyX3 | 4 => tyX4 | 5 => tyX5 | 6 => tyX6 | 7 => tyX7 | 8 => tyX8 | 9 => tyX5 | 10 => tyX10 | _ => tyX11
theorem fr_tn {ci : Nat} {q : vw_C} (h : fr_cls[ci]? = some q) : (∀ k, k < q.2.2 → parseFieldDescriptor (q.2.1 k).2.2.1 = some (fr_ty ci k)) ∧ (∀ a, a < q.2.2 → ∀ b, b < q.2.2 → a ≠ b → (q.2.1 a).2.1 ≠ (q.2.1 b).2.1) := by
  match ci, h with
  | 0, h => cases h; exact ⟨tyX0_ok, nmX0⟩
  | 1, h => cases h; exact ⟨tyX1_ok, nmX1⟩
  | 2, h => cases h; exact ⟨tyX2_ok, nmX2⟩
  | 3, h => cases h; exact ⟨tyX3_ok, nmX3⟩
  | 4, h => cases h; exact ⟨tyX4_ok, nmX4⟩
  | 5, h => cases h; exact ⟨tyX5_ok, nmX5⟩
  | 6, h => cases h; exact ⟨tyX6_ok, nmX6⟩
  | 7, h => cases h; exact ⟨tyX7_ok, nmX7⟩
  | 8, h => cases h; exact ⟨tyX8_ok, nmX8⟩
  | 9, h => cases h; exact ⟨tyX5_ok, nmX5⟩
  | 10, h => cases h; exact ⟨tyX10_ok, nmX10⟩
  | 11, h => cases h; exact ⟨tyX11_ok, nmX11⟩
  | k + 12, h => simp [fr_cls] at h
abbrev fr_V : Type := Nat → Nat → Int32
abbrev fr_U : Type := Nat → Nat → Int64
def up2 (v : fr_V) (k i : Nat) (x : Int32) : fr_V := fun a => if a = k then upd (v k) i x else v a
def up3 (u : fr_U) (k i : Nat) (x : Int64) : fr_U := fun a => if a = k then vp_updL (u k) i x else u a
/-- the kind of each field: 0 a number, 1 a fixed cell, 2 a cell that may change -/
def fk (ci j : Nat) : Nat :=
  if ci = 11 then (if [1,2,3,4,7,14,16,23,24,25,26,27,28,29,38,39,42,43,48,49,50,52].contains j then 0 else 1)
  else if ci = 10 then (if j = 3 then 0 else if j = 1 then 2 else if j = 2 then 2 else 1)
  else if ci = 0 then (if j = 1 then 0 else 1)
  else if ci = 1 then (if j = 5 then 0 else if j = 6 then 0 else 1)
  else if ci = 2 then (if [3,5,6,7,8,10].contains j then 0 else 1)
  else if ci = 3 then (if [2,8,10].contains j then 0 else 1)
  else if ci = 4 then (if j = 0 then 2 else 0)
  else if ci = 5 then (if j = 2 then 0 else 1)
  else if ci = 6 then (if j = 0 then 1 else if [3,6,7,13].contains j then 2 else 0)
  else if ci = 7 then (if j = 6 then 1 else 0)
  else if ci = 8 then (if j = 3 then 0 else if j = 4 then 0 else 1)
  else 1
def nfd (ci : Nat) : Nat := match fr_cls[ci]? with
  | some q => q.2.2
  | none => 0
/-- which cell a fixed field names: the array of the field j of the object k stands at k + 1 + j -/
def sref (k j : Nat) : Nat :=
  if k = 1000 then (if j = 0 then 600 else if j = 4 then 500 else if j = 5 then 100 else if j = 6 then 300 else if j = 7 then 900 else if j = 8 then 200 else k + 1 + j)
  else if k = 100 then (if j = 0 then 500 else k + 1 + j)
  else if k = 300 then (if j = 0 then 100 else k + 1 + j)
  else if k = 900 then (if j = 0 then 500 else if j = 1 then 100 else k + 1 + j)
  else k + 1 + j
/-- what a cell is: below 20 an object of that number, 20 ints, 21 booleans, 22 longs, 23 Lines, 24 Rents, 25 rows of ints; and its length -/
def sh (k : Nat) : Nat × Nat :=
  if 2000 ≤ k then (if k % 10 = 0 then (7, 0) else (20, 80))
  else if 1100 ≤ k then
    (if k = 1100 then (11, 0) else if k = 1101 then (20, 500) else if k = 1106 then (20, 12) else if k = 1107 then (20, 12)
     else if k = 1116 then (20, 200) else if k = 1122 then (20, 40) else if k = 1123 then (20, 75)
     else if k = 1141 then (20, 8) else if k = 1142 then (21, 4) else if k = 1145 then (21, 60) else if k = 1146 then (20, 12) else if k = 1147 then (20, 1280) else if k = 1148 then (20, 8)
     else if k = 1152 then (20, 40) else if 1154 ≤ k then (20, 12) else if 1131 ≤ k then (20, 48) else if 1118 ≤ k then (20, 60) else (20, 16))
  else if 1000 ≤ k then (if k = 1000 then (10, 0) else (22, 12))
  else if 900 ≤ k then (if k = 900 then (8, 0) else if k = 903 then (25, 4) else if k = 950 then (22, 1) else (20, 10))
  else if 600 ≤ k then (if k = 600 then (6, 0) else (20, 500))
  else if 500 ≤ k then (if k = 500 then (5, 0) else (20, 12))
  else if 400 ≤ k then (4, 0)
  else if 300 ≤ k then (if k = 300 then (3, 0) else if k = 302 then (24, 16) else if k = 310 then (20, 8) else (20, 40))
  else if 200 ≤ k then (if k = 200 then (2, 0) else (20, 12))
  else if 100 ≤ k then (if k = 100 then (1, 0) else if k = 108 then (21, 60) else if k = 109 then (21, 60) else if k = 110 then (20, 12) else (20, 60))
  else (if k = 10 then (0, 0) else if k = 20 then (0, 0) else if k = 11 then (23, 24) else if k = 21 then (23, 24) else (20, 4))
/-- the first cell of an array of cells whose rows are fixed -/
def shb (k : Nat) : Nat := if k = 11 then 400 else if k = 21 then 430 else 910
def rq (L : Nat → Nat) (x : Int32) : Option Nat := if x < 0 then none else some (L x.toNatClampNeg)
def fv (L : Nat → Nat) (k ci j : Nat) (x : Int32) : Value := if fk ci j = 0 then .int x else if fk ci j = 1 then .ref (L (sref k j)) else va_rf (rq L x)
def fsl (L : Nat → Nat) (k ci : Nat) (f : Nat → Int32) : List Value := (List.range (nfd ci)).map (fun j => fv L k ci j (f j))
def ent (L : Nat → Nat) (cA : Nat → ClassId) (k : Nat) (f : Nat → Int32) (g : Nat → Int64) : va_E :=
  if (sh k).1 = 20 then .inl (cA 0, (sh k).2, .inl f)
  else if (sh k).1 = 21 then .inl (cA 1, (sh k).2, .inl f)
  else if (sh k).1 = 22 then .inl (cA 2, (sh k).2, .inr (.inl g))
  else if (sh k).1 = 23 then .inl (cA 3, (sh k).2, .inr (.inr (.inr (.inr (fun i => some (L (shb k + i)))))))
  else if (sh k).1 = 24 then .inl (cA 4, (sh k).2, .inr (.inr (.inr (.inr (fun i => rq L (f i))))))
  else if (sh k).1 = 25 then .inl (cA 5, (sh k).2, .inr (.inr (.inr (.inr (fun i => some (L (shb k + i)))))))
  else .inr ((sh k).1, fsl L k (sh k).1 f)
def fr_tys (cA : Nat → ClassId) : List (ClassId × FieldType) := [(cA 0, .int), (cA 1, .boolean), (cA 2, .long), (cA 3, .object RX4), (cA 4, .object RX7), (cA 5, .array .int)]
def mw (L : Nat → Nat) (cA : Nat → ClassId) (I : List Nat) (v : fr_V) (u : fr_U) : va_W := I.map (fun k => (L k, ent L cA k (v k) (u k)))
def Aw (L : Nat → Nat) (I : List Nat) : Nat → Prop := fun q => ∃ k, k ∈ I ∧ q = L k
theorem mw_get {L : Nat → Nat} {cA : Nat → ClassId} {I : List Nat} {v : fr_V} {u : fr_U} {k : Nat} (h : k ∈ I) : ∃ q : Nat, I[q]? = some k ∧ (mw L cA I v u)[q]? = some (L k, ent L cA k (v k) (u k)) := by
  obtain ⟨q, hq⟩ := List.getElem?_of_mem h
  exact ⟨q, hq, by simp [mw, hq]⟩
theorem mw_nd {L : Nat → Nat} {cA : Nat → ClassId} {I : List Nat} {v : fr_V} {u : fr_U} {A : Nat → Prop} (hD : va_D A (mw L cA I v u)) {i j k : Nat} (hi : I[i]? = some k) (hj : I[j]? = some k) : i = j :=
  hD.1 i j (L k, ent L cA k (v k) (u k)) (L k, ent L cA k (v k) (u k)) (by simp [mw, hi]) (by simp [mw, hj]) rfl
theorem ml_set {α β : Type} {f g : α → β} {I : List α} {q : Nat} {k : α} {x : β} (hq : I[q]? = some k) (hnd : ∀ i, I[i]? = some k → q = i) (hk : g k = x) (h : ∀ a, a ≠ k → g a = f a) : (I.map f).set q x = I.map g := by
  apply List.ext_getElem?
  intro i
  have hql : q < I.length := (List.getElem?_eq_some_iff.mp hq).1
  by_cases hi : q = i
  · subst hi
    rw [List.getElem?_set_self (by rw [List.length_map]; exact hql), List.getElem?_map, hq, Option.map_some, hk]
  · rw [List.getElem?_set_ne hi, List.getElem?_map, List.getElem?_map]
    cases ha : I[i]? with
    | none => rfl
    | some a =>
      have hne : a ≠ k := fun e => hi (hnd i (by rw [ha, e]))
      rw [Option.map_some, Option.map_some, h a hne]
theorem mw_set {L : Nat → Nat} {cA : Nat → ClassId} {I : List Nat} {v v' : fr_V} {u u' : fr_U} {A : Nat → Prop} (hD : va_D A (mw L cA I v u)) {q k : Nat} {e : va_E} (hq : I[q]? = some k) (hk : ent L cA k (v' k) (u' k) = e) (hv : ∀ a, a ≠ k → v' a = v a) (hu : ∀ a, a ≠ k → u' a = u a) : (mw L cA I v u).set q (L k, e) = mw L cA I v' u' :=
  ml_set hq (fun i hi => mw_nd hD hq hi) (by rw [hk]) (fun a ha => by rw [hv a ha, hu a ha])
theorem mw_D {L : Nat → Nat} {cA : Nat → ClassId} {I : List Nat} {v v' : fr_V} {u u' : fr_U} {A : Nat → Prop} (hD : va_D A (mw L cA I v u)) : va_D A (mw L cA I v' u') := by
  have h : ∀ (i : Nat) (p : Nat × va_E), (mw L cA I v' u')[i]? = some p → ∃ e, (mw L cA I v u)[i]? = some (p.1, e) := by
    intro i p hp
    simp only [mw, List.getElem?_map] at hp ⊢
    cases ha : I[i]? with
    | none => rw [ha] at hp; cases hp
    | some a =>
      rw [ha] at hp
      cases hp
      exact ⟨_, rfl⟩
  refine ⟨fun i j p q hp hq hpq => ?_, fun k q hq => ?_⟩
  · obtain ⟨e1, h1⟩ := h i p hp
    obtain ⟨e2, h2⟩ := h j q hq
    exact hD.1 i j _ _ h1 h2 hpq
  · obtain ⟨e1, h1⟩ := h k q hq
    exact hD.2 k (q.1, e1) h1
end
section
def fr_nm : List String := ["MAY", "BAR", "PRICE", "LUMP", "ARREARS", "WAIT", "RATE", "CAP", "AGE", "CLASS", "HALF", "JOINT", "SINGLE", "TO", "OR"]
def fr_F : List (String × String × String × List Int32) := [("LifeRents$Word", "role", "I", [0,0,0,0,1,1,1,1,2,2,2,2,2,3,3]), ("LifeRents$Word", "least", "I", [0,0,1,0,0,0,2,1,0,0,0,0,0,0,0]), ("LifeRents$Word", "most", "I", [0,0,9999,200,40,9,99,3,130,3,79,0,0,0,0]), ("LifeRents$Word", "slot", "I", [-1,-1,-1,-1,0,1,2,3,-1,-1,-1,-1,-1,-1,-1])]
def fr_us (j : Nat) : Int32 := if j = 0 then 4 else if j = 1 then 0 else if j = 2 then 20 else 3
def fr_len : List Nat := [3,3,5,4,7,4,4,3,3,5,4,5,6,2,2]
def fr_byt : List (List Int32) := [[109,97,121],[98,97,114],[112,114,105,99,101],[108,117,109,112],[97,114,114,101,97,114,115],[119,97,105,116],[114,97,116,101],[99,97,112],[97,103,101],[99,108,97,115,115],[104,97,108,102],[106,111,105,110,116],[115,105,110,103,108,101],[116,111],[111,114]]
def fr_X (L : Nat → Nat) (A : Nat → Prop) (U : State) (H : Heap) : Prop :=
  va_En "LifeRents$Word" "LLifeRents$Word;" fr_nm fr_F (fun i => L (3000 + i)) A U H ∧ va_Ef 15 "LifeRents$Word" "text" "Ljava/lang/String;" (fun i => .ref (L (3100 + i))) (fun i => L (3000 + i)) A U H ∧
  va_Z "LifeRents" "USUAL_SETTINGS" "[I" (.ref (L 3200)) A U H ∧ va_T .int (L 3200) 4 (fun j => .int (fr_us j)) A U H ∧
  va_Z "LifeRents" "WORDS" "[LLifeRents$Word;" (.ref (L 3201)) A U H ∧ va_T (.object "LifeRents$Word") (L 3201) 15 (fun j => .ref (L (3000 + j))) A U H ∧
  vk_S 15 fr_len fr_byt (fun i => L (3100 + i)) (fun i => L (3300 + i)) A U H ∧ va_Z "java/lang/String" "COMPACT_STRINGS" "Z" (.int 1) A U H ∧ va_Zq "jdk/internal/util/Preconditions" "SIOOBE_FORMATTER" "Ljava/util/function/BiFunction;" A U H
theorem fr_X.moved {L : Nat → Nat} {A : Nat → Prop} {u U : State} {H : Heap} (hvm : u.vm.Alike U.vm) (h : fr_X L A u H) : fr_X L A U H :=
  ⟨va_En.moved hvm h.1, va_Ef.moved hvm h.2.1, va_Z.moved hvm h.2.2.1, va_T.moved hvm h.2.2.2.1, va_Z.moved hvm h.2.2.2.2.1, va_T.moved hvm h.2.2.2.2.2.1, vk_S.moved hvm h.2.2.2.2.2.2.1, va_Z.moved hvm h.2.2.2.2.2.2.2.1, va_Zq.moved hvm h.2.2.2.2.2.2.2.2⟩
theorem fr_X.kept {L : Nat → Nat} {A : Nat → Prop} {U : State} {H H1 : Heap} (h : fr_X L A U H) (hq : ∀ a : Nat, a < H.size → ¬ A a → H1[a]? = H[a]?) : fr_X L A U H1 :=
  ⟨h.1.kept hq, h.2.1.kept hq, h.2.2.1.kept hq, h.2.2.2.1.kept hq, h.2.2.2.2.1.kept hq, h.2.2.2.2.2.1.kept hq, h.2.2.2.2.2.2.1.kept hq, h.2.2.2.2.2.2.2.1.kept hq, h.2.2.2.2.2.2.2.2.elim (fun z => Or.inl (z.kept hq)) (fun ⟨t, z⟩ => Or.inr ⟨t, z.kept hq⟩)⟩
def cv (L : Nat → Nat) : Value → Value
  | .ref a => .ref (L a)
  | x => x
def cvp (L : Nat → Nat) (q : Nat × Value) : Nat × Value := (q.1, cv L q.2)
theorem cv_cat (L : Nat → Nat) (x : Value) : (cv L x).category = x.category := by cases x <;> rfl
theorem cv_sl (L : Nat → Nat) (xs : List Value) : (lg_sl (xs.map (cv L))).length = (lg_sl xs).length := by
  induction xs with
  | nil => rfl
  | cons a t ih =>
    simp only [lg_sl, List.map_cons, List.flatMap_cons, List.length_append, cv_cat] at ih ⊢
    rw [ih]
    split <;> rfl
theorem cv_args (L : Nat → Nat) (xs : List Value) : ∀ i, lv_args i (xs.map (cv L)) = (lv_args i xs).map (cvp L) := by
  induction xs with
  | nil => intro i; rfl
  | cons a t ih =>
    intro i
    simp only [lv_args, List.map_cons, cv_cat, ih]
    rfl
theorem cv_sum (L : Nat → Nat) (xs : List Value) : ((xs.map (cv L)).map fun v => v.category).sum = (xs.map fun v => v.category).sum := by
  induction xs with
  | nil => rfl
  | cons a t ih => simp only [List.map_cons, List.sum_cons, cv_cat, ih]
theorem cvp_filter (L : Nat → Nat) (f : Nat → Nat → Bool) (lv : List (Nat × Value)) : (lv.map (cvp L)).filter (fun q => f q.1 q.2.category) = (lv.filter (fun q => f q.1 q.2.category)).map (cvp L) := by
  induction lv with
  | nil => rfl
  | cons a t ih =>
    have h : f (cvp L a).1 (cvp L a).2.category = f a.1 a.2.category := by simp only [cvp, cv_cat]
    simp only [List.map_cons, List.filter_cons, h]
    split
    · rw [List.map_cons, ih]
    · exact ih
/-- a method: its name, its code, its locals, what it answers, the frames and the words of locals below it -/
abbrev fr_M : Type := MethodName × ByteArray × Nat × Option FieldType × Nat × Nat
def fr_rm (y : fr_M) : Room := { frames := y.2.2.2.2.1, cells := 0, slots := 0, locals := y.2.2.2.2.2 }
def fr_ws (y : fr_M) : List Cond := Cond.code y.1 y.2.1 y.2.2.1 y.2.2.2.1 :: gt
def fr_C (L : Nat → Nat) (cA : Nat → ClassId) (D : va_G) (I : List Nat) (y : fr_M) (p : Program) (s : State) (m : MethodId) (args : Array Value) (meth : Method) (c : Code) : Prop :=
  p.tables.exec = Jvm.exec ∧ c.code = y.2.1 ∧ meth.sig.returnType = y.2.2.2.1 ∧ c.maxLocals = y.2.2.1 ∧ s.vm.findClass y.1.cls = some m.cls ∧ meth.locks = false ∧ (∀ w ∈ gt, w.before args s = true) ∧ fr_X L (Aw L I) s s.heap ∧ va_K D fr_cls (fr_tys cA) s
def fr_P (L : Nat → Nat) (cA : Nat → ClassId) (D : va_G) (I : List Nat) (v : fr_V) (u : fr_U) (U : State) : Prop :=
  va_P D fr_cls (mw L cA I v u) U.heap ∧ va_K D fr_cls (fr_tys cA) U ∧ va_D (Aw L I) (mw L cA I v u) ∧ fr_X L (Aw L I) U U.heap
def fr_Q (L : Nat → Nat) (cA : Nat → ClassId) (D : va_G) (I : List Nat) (Q : Option Value → fr_V → fr_U → Prop) : Array Value → State → Outcome → State → Prop := fun _ st oc t =>
  (∃ (r : Option Value) (v : fr_V) (u : fr_U), oc = .returned (r.map (cv L)) ∧ Q r v u ∧ va_P D fr_cls (mw L cA I v u) t.heap ∧ va_K D fr_cls (fr_tys cA) t) ∧ va_F (Aw L I) st t
def J (l : Launch) (y : fr_M) (I : List Nat) (v : fr_V) (u : fr_U) (pc : Nat) (lv : List (Nat × Value)) (st : List Value) (Q : Option Value → fr_V → fr_U → Prop) : Prop :=
  ∀ (L : Nat → Nat) (cA : Nat → ClassId) (D : va_G) (p : Program) (e : Env) (s : State) (m : MethodId) (args : Array Value) (below : List Frame) (meth : Method) (c : Code) (H : Heap) (locs : List Loc) (ls : Array Slot),
    fr_C L cA D I y p s m args meth c → va_P D fr_cls (mw L cA I v u) H → va_D (Aw L I) (mw L cA I v u) → va_S (Aw L I) s.heap H locs → lv_has ls y.2.2.1 (lv.map (cvp L)) →
    W p l e (fr_rm y) s m args below meth c H locs 0 0 (MQ below (fr_Q L cA D I Q) args s 0 0 (Aw L I)) (F0 m pc ls (st.map (cv L)))
def Con (l : Launch) (y : fr_M) (I : List Nat) (v : fr_V) (u : fr_U) (args : List Value) (Q : Option Value → fr_V → fr_U → Prop) : Prop :=
  ∀ (L : Nat → Nat) (cA : Nat → ClassId) (D : va_G), Met l y.1 (fr_ws y) (fr_rm y) (va_Pc (args.map (cv L)) (fr_P L cA D I v u)) (fr_Q L cA D I Q) 0 0 (Aw L I)
section FRJ
variable {l : Launch} {y : fr_M} {I : List Nat} {v : fr_V} {u : fr_U} {Q : Option Value → fr_V → fr_U → Prop}
theorem Con.of {args : List Value} (hy : plainName y.1.cls = true) (hn : (lg_sl args).length ≤ y.2.2.1) (h : J l y I v u 0 (lv_args 0 args) [] Q) : Con l y I v u args Q := by
  intro L cA D
  refine Met.ofW (cc := y.2.1) (maxL := y.2.2.1) (ret := y.2.2.2.1) hy rfl ?_
  intro p e s m args' below meth c s₁ B hml hv
  obtain ⟨rfl, hP, hK, hD, hX⟩ := hv
  have hts := atoms_spec (ws := fr_ws y) B.pre
  have hl := lv_entry (args.map (cv L)) (n := y.2.2.1) (by rw [cv_sl]; exact hn)
  rw [lg_entry_eq]
  rw [cv_args] at hl
  exact h L cA D p e s m _ below meth c s.heap [] _ ⟨B.exec, B.bytes, B.returns, hml, findClass_of_methodNamed B.named, B.notSynchronized, fun w hw => hts w (List.mem_cons_of_mem _ hw), hX, hK⟩ hP hD va_S.rf hl
theorem Con.mono {args : List Value} {Q' : Option Value → fr_V → fr_U → Prop} (h : Con l y I v u args Q) (hq : ∀ r v' u', Q r v' u' → Q' r v' u') : Con l y I v u args Q' := by
  intro L cA D
  have hM := h L cA D
  intro p e ha hc hk s m as below hf hfit hheap hpre
  obtain ⟨k, o, h1, h2, h3, ⟨⟨r, v', u', e1, e2, e3⟩, e4⟩, e5⟩ := hM p e ha hc hk s m as below hf hfit hheap hpre
  exact ⟨k, o, h1, h2, h3, ⟨⟨r, v', u', e1, hq r v' u' e2, e3⟩, e4⟩, e5⟩
variable {pc : Nat} {lv : List (Nat × Value)} {st : List Value}
theorem J_iconst {n : Int} {x : Int32} (d : decode y.2.1 pc = .ok (.iconst n, 1)) (h : Int32.ofInt n = x) (k : J l y I v u (pc + 1) lv (.int x :: st) Q) : J l y I v u pc lv (st) Q :=
  fun L cA D p e s m args below meth c H locs ls C hP hD hS hl => lv_iconst C.1 C.2.1 d h (k L cA D p e s m args below meth c H locs ls C hP hD hS hl)
theorem J_bipush {n : Int} {x : Int32} (d : decode y.2.1 pc = .ok (.bipush n, 2)) (h : (Int8.ofInt n).toInt32 = x) (k : J l y I v u (pc + 2) lv (.int x :: st) Q) : J l y I v u pc lv (st) Q :=
  fun L cA D p e s m args below meth c H locs ls C hP hD hS hl => lv_bipush C.1 C.2.1 d h (k L cA D p e s m args below meth c H locs ls C hP hD hS hl)
theorem J_sipush {n : Int} {x : Int32} (d : decode y.2.1 pc = .ok (.sipush n, 3)) (h : (Int16.ofInt n).toInt32 = x) (k : J l y I v u (pc + 3) lv (.int x :: st) Q) : J l y I v u pc lv (st) Q :=
  fun L cA D p e s m args below meth c H locs ls C hP hD hS hl => lv_sipush C.1 C.2.1 d h (k L cA D p e s m args below meth c H locs ls C hP hD hS hl)
theorem J_lconst {n : Fin 2} {x : Int64} (d : decode y.2.1 pc = .ok (.lconst n, 1)) (h : Int64.ofNat (n : Nat) = x) (k : J l y I v u (pc + 1) lv (.long x :: st) Q) : J l y I v u pc lv (st) Q :=
  fun L cA D p e s m args below meth c H locs ls C hP hD hS hl => lv_lconst C.1 C.2.1 d h (k L cA D p e s m args below meth c H locs ls C hP hD hS hl)
theorem J_null  (d : decode y.2.1 pc = .ok (.aconst_null, 1))  (k : J l y I v u (pc + 1) lv (.null :: st) Q) : J l y I v u pc lv (st) Q :=
  fun L cA D p e s m args below meth c H locs ls C hP hD hS hl => lv_null C.1 C.2.1 d  (k L cA D p e s m args below meth c H locs ls C hP hD hS hl)
theorem J_iadd {a b : Int32} (d : decode y.2.1 pc = .ok (.iadd, 1))  (k : J l y I v u (pc + 1) lv (.int (a + b) :: st) Q) : J l y I v u pc lv (.int b :: .int a :: st) Q :=
  fun L cA D p e s m args below meth c H locs ls C hP hD hS hl => lv_iadd C.1 C.2.1 d  (k L cA D p e s m args below meth c H locs ls C hP hD hS hl)
theorem J_isub {a b : Int32} (d : decode y.2.1 pc = .ok (.isub, 1))  (k : J l y I v u (pc + 1) lv (.int (a - b) :: st) Q) : J l y I v u pc lv (.int b :: .int a :: st) Q :=
  fun L cA D p e s m args below meth c H locs ls C hP hD hS hl => lv_isub C.1 C.2.1 d  (k L cA D p e s m args below meth c H locs ls C hP hD hS hl)
theorem J_imul {a b : Int32} (d : decode y.2.1 pc = .ok (.imul, 1))  (k : J l y I v u (pc + 1) lv (.int (a * b) :: st) Q) : J l y I v u pc lv (.int b :: .int a :: st) Q :=
  fun L cA D p e s m args below meth c H locs ls C hP hD hS hl => lv_imul C.1 C.2.1 d  (k L cA D p e s m args below meth c H locs ls C hP hD hS hl)
theorem J_iand {a b : Int32} (d : decode y.2.1 pc = .ok (.iand, 1))  (k : J l y I v u (pc + 1) lv (.int (a &&& b) :: st) Q) : J l y I v u pc lv (.int b :: .int a :: st) Q :=
  fun L cA D p e s m args below meth c H locs ls C hP hD hS hl => lv_iand C.1 C.2.1 d  (k L cA D p e s m args below meth c H locs ls C hP hD hS hl)
theorem J_ior {a b : Int32} (d : decode y.2.1 pc = .ok (.ior, 1))  (k : J l y I v u (pc + 1) lv (.int (a ||| b) :: st) Q) : J l y I v u pc lv (.int b :: .int a :: st) Q :=
  fun L cA D p e s m args below meth c H locs ls C hP hD hS hl => lv_ior C.1 C.2.1 d  (k L cA D p e s m args below meth c H locs ls C hP hD hS hl)
theorem J_idiv {a b : Int32} (d : decode y.2.1 pc = .ok (.idiv, 1)) (h : ¬ b = 0) (k : J l y I v u (pc + 1) lv (.int (a / b) :: st) Q) : J l y I v u pc lv (.int b :: .int a :: st) Q :=
  fun L cA D p e s m args below meth c H locs ls C hP hD hS hl => lv_idiv C.1 C.2.1 d h (k L cA D p e s m args below meth c H locs ls C hP hD hS hl)
theorem J_lmul {a b : Int64} (d : decode y.2.1 pc = .ok (.lmul, 1))  (k : J l y I v u (pc + 1) lv (.long (a * b) :: st) Q) : J l y I v u pc lv (.long b :: .long a :: st) Q :=
  fun L cA D p e s m args below meth c H locs ls C hP hD hS hl => lv_lmul C.1 C.2.1 d  (k L cA D p e s m args below meth c H locs ls C hP hD hS hl)
theorem J_ldiv {a b : Int64} (d : decode y.2.1 pc = .ok (.ldiv, 1)) (h : ¬ b = 0) (k : J l y I v u (pc + 1) lv (.long (a / b) :: st) Q) : J l y I v u pc lv (.long b :: .long a :: st) Q :=
  fun L cA D p e s m args below meth c H locs ls C hP hD hS hl => lv_ldiv C.1 C.2.1 d h (k L cA D p e s m args below meth c H locs ls C hP hD hS hl)
theorem J_i2l {a : Int32} (d : decode y.2.1 pc = .ok (.i2l, 1))  (k : J l y I v u (pc + 1) lv (.long a.toInt64 :: st) Q) : J l y I v u pc lv (.int a :: st) Q :=
  fun L cA D p e s m args below meth c H locs ls C hP hD hS hl => lv_i2l C.1 C.2.1 d rfl (k L cA D p e s m args below meth c H locs ls C hP hD hS hl)
theorem J_lcmp {a b : Int64} (d : decode y.2.1 pc = .ok (.lcmp, 1))  (k : J l y I v u (pc + 1) lv (.int (lg_cmp a b) :: st) Q) : J l y I v u pc lv (.long b :: .long a :: st) Q :=
  fun L cA D p e s m args below meth c H locs ls C hP hD hS hl => W.lcmp C.1 C.2.1 d  (k L cA D p e s m args below meth c H locs ls C hP hD hS hl)
theorem J_ishl {a b : Int32} (d : decode y.2.1 pc = .ok (.ishl, 1))  (k : J l y I v u (pc + 1) lv (.int (a <<< (b &&& 31)) :: st) Q) : J l y I v u pc lv (.int b :: .int a :: st) Q :=
  fun L cA D p e s m args below meth c H locs ls C hP hD hS hl => lv_ishl C.1 C.2.1 d  (k L cA D p e s m args below meth c H locs ls C hP hD hS hl)
theorem J_ishr {a b : Int32} (d : decode y.2.1 pc = .ok (.ishr, 1))  (k : J l y I v u (pc + 1) lv (.int (a >>> (b &&& 31)) :: st) Q) : J l y I v u pc lv (.int b :: .int a :: st) Q :=
  fun L cA D p e s m args below meth c H locs ls C hP hD hS hl => lv_ishr C.1 C.2.1 d  (k L cA D p e s m args below meth c H locs ls C hP hD hS hl)
theorem J_iushr {a b : Int32} (d : decode y.2.1 pc = .ok (.iushr, 1))  (k : J l y I v u (pc + 1) lv (.int ((a.toUInt32 >>> (b.toUInt32 &&& Int32.toUInt32 31)).toInt32) :: st) Q) : J l y I v u pc lv (.int b :: .int a :: st) Q :=
  fun L cA D p e s m args below meth c H locs ls C hP hD hS hl => lv_iushr C.1 C.2.1 d rfl (k L cA D p e s m args below meth c H locs ls C hP hD hS hl)
theorem J_dup {a : Value} (d : decode y.2.1 pc = .ok (.dup, 1)) (h : a.category = 1) (k : J l y I v u (pc + 1) lv (a :: a :: st) Q) : J l y I v u pc lv (a :: st) Q :=
  fun L cA D p e s m args below meth c H locs ls C hP hD hS hl => lv_dup C.1 C.2.1 d ((cv_cat L a).trans h) (k L cA D p e s m args below meth c H locs ls C hP hD hS hl)
theorem J_dup2 {a b : Value} (d : decode y.2.1 pc = .ok (.dup2, 1)) (h : a.category = 1) (h2 : b.category = 1) (k : J l y I v u (pc + 1) lv (a :: b :: a :: b :: st) Q) : J l y I v u pc lv (a :: b :: st) Q :=
  fun L cA D p e s m args below meth c H locs ls C hP hD hS hl => lv_dup2_11 C.1 C.2.1 d ((cv_cat L a).trans h) ((cv_cat L b).trans h2) (k L cA D p e s m args below meth c H locs ls C hP hD hS hl)
theorem J_pop {a : Value} (d : decode y.2.1 pc = .ok (.pop, 1)) (h : a.category = 1) (k : J l y I v u (pc + 1) lv st Q) : J l y I v u pc lv (a :: st) Q :=
  fun L cA D p e s m args below meth c H locs ls C hP hD hS hl => lv_pop C.1 C.2.1 d ((cv_cat L a).trans h) (k L cA D p e s m args below meth c H locs ls C hP hD hS hl)
theorem lv_atJ {L : Nat → Nat} {ls : Array Slot} {nL i : Nat} {x : Value} (h : lv_has ls nL (lv.map (cvp L))) (q : Nat) (hq : lv[q]? = some (i, x)) : ls[i]? = some (.val (cv L x)) := lv_at h q (by rw [List.getElem?_map, hq]; rfl)
theorem J_iload_n {n : Fin 4} {i : Nat} {x : Int32} (d : decode y.2.1 pc = .ok (.iload_n n, 1)) (hi : (n : Nat) = i) (q : Nat) (h : lv[q]? = some (i, .int x)) (k : J l y I v u (pc + 1) lv (.int x :: st) Q) : J l y I v u pc lv st Q :=
  fun L cA D p e s m args below meth c H locs ls C hP hD hS hl => lv_iload_n C.1 C.2.1 d hi (lv_atJ hl q h) (k L cA D p e s m args below meth c H locs ls C hP hD hS hl)
theorem J_iload {i : Nat} {x : Int32} (d : decode y.2.1 pc = .ok (.iload i, 2)) (q : Nat) (h : lv[q]? = some (i, .int x)) (k : J l y I v u (pc + 2) lv (.int x :: st) Q) : J l y I v u pc lv st Q :=
  fun L cA D p e s m args below meth c H locs ls C hP hD hS hl => lv_iload C.1 C.2.1 d (lv_atJ hl q h) (k L cA D p e s m args below meth c H locs ls C hP hD hS hl)
theorem J_aload_n {n : Fin 4} {i : Nat} {x : Nat} (d : decode y.2.1 pc = .ok (.aload_n n, 1)) (hi : (n : Nat) = i) (q : Nat) (h : lv[q]? = some (i, .ref x)) (k : J l y I v u (pc + 1) lv (.ref x :: st) Q) : J l y I v u pc lv st Q :=
  fun L cA D p e s m args below meth c H locs ls C hP hD hS hl => lv_aload_n C.1 C.2.1 d hi (lv_atJ hl q h) (k L cA D p e s m args below meth c H locs ls C hP hD hS hl)
theorem J_aload {i : Nat} {x : Nat} (d : decode y.2.1 pc = .ok (.aload i, 2)) (q : Nat) (h : lv[q]? = some (i, .ref x)) (k : J l y I v u (pc + 2) lv (.ref x :: st) Q) : J l y I v u pc lv st Q :=
  fun L cA D p e s m args below meth c H locs ls C hP hD hS hl => lv_aload C.1 C.2.1 d (lv_atJ hl q h) (k L cA D p e s m args below meth c H locs ls C hP hD hS hl)
theorem J_lload_n {n : Fin 4} {i : Nat} {x : Int64} (d : decode y.2.1 pc = .ok (.lload_n n, 1)) (hi : (n : Nat) = i) (q : Nat) (h : lv[q]? = some (i, .long x)) (k : J l y I v u (pc + 1) lv (.long x :: st) Q) : J l y I v u pc lv st Q :=
  fun L cA D p e s m args below meth c H locs ls C hP hD hS hl => lv_lload_n C.1 C.2.1 d hi (lv_atJ hl q h) (k L cA D p e s m args below meth c H locs ls C hP hD hS hl)
theorem J_lload {i : Nat} {x : Int64} (d : decode y.2.1 pc = .ok (.lload i, 2)) (q : Nat) (h : lv[q]? = some (i, .long x)) (k : J l y I v u (pc + 2) lv (.long x :: st) Q) : J l y I v u pc lv st Q :=
  fun L cA D p e s m args below meth c H locs ls C hP hD hS hl => lv_lload C.1 C.2.1 d (lv_atJ hl q h) (k L cA D p e s m args below meth c H locs ls C hP hD hS hl)
theorem J_aload_nN {n : Fin 4} {i : Nat} (d : decode y.2.1 pc = .ok (.aload_n n, 1)) (hi : (n : Nat) = i) (q : Nat) (h : lv[q]? = some (i, .null)) (k : J l y I v u (pc + 1) lv (.null :: st) Q) : J l y I v u pc lv st Q :=
  fun L cA D p e s m args below meth c H locs ls C hP hD hS hl => lv_aload_nN C.1 C.2.1 d hi (lv_atJ hl q h) (k L cA D p e s m args below meth c H locs ls C hP hD hS hl)
theorem J_istore_n {n : Fin 4} {i : Nat} {x : Int32} {lv' : List (Nat × Value)} (d : decode y.2.1 pc = .ok (.istore_n n, 1)) (hi : (n : Nat) = i) (hn : i < y.2.2.1) (h : (i, Value.int x) :: lv.filter (fun q => !(q.1 == i) && !(q.1 + 1 == i && q.2.category == 2)) = lv') (k : J l y I v u (pc + 1) lv' st Q) : J l y I v u pc lv (.int x :: st) Q := by
  subst h
  exact fun L cA D p e s m args below meth c H locs ls C hP hD hS hl => lv_istore_n (lv' := (((i, Value.int x) :: lv.filter (fun q => !(q.1 == i) && !(q.1 + 1 == i && q.2.category == 2))).map (cvp L))) C.1 C.2.1 d hi hl hn (congrArg (List.cons _) (cvp_filter L (fun a b => !(a == i) && !(a + 1 == i && b == 2)) lv)) (fun ls hl => k L cA D p e s m args below meth c H locs ls C hP hD hS hl)
theorem J_istore {i : Nat} {x : Int32} {lv' : List (Nat × Value)} (d : decode y.2.1 pc = .ok (.istore i, 2)) (hn : i < y.2.2.1) (h : (i, Value.int x) :: lv.filter (fun q => !(q.1 == i) && !(q.1 + 1 == i && q.2.category == 2)) = lv') (k : J l y I v u (pc + 2) lv' st Q) : J l y I v u pc lv (.int x :: st) Q := by
  subst h
  exact fun L cA D p e s m args below meth c H locs ls C hP hD hS hl => lv_istore (lv' := (((i, Value.int x) :: lv.filter (fun q => !(q.1 == i) && !(q.1 + 1 == i && q.2.category == 2))).map (cvp L))) C.1 C.2.1 d hl hn (congrArg (List.cons _) (cvp_filter L (fun a b => !(a == i) && !(a + 1 == i && b == 2)) lv)) (fun ls hl => k L cA D p e s m args below meth c H locs ls C hP hD hS hl)
theorem J_astore_n {n : Fin 4} {i : Nat} {x : Nat} {lv' : List (Nat × Value)} (d : decode y.2.1 pc = .ok (.astore_n n, 1)) (hi : (n : Nat) = i) (hn : i < y.2.2.1) (h : (i, Value.ref x) :: lv.filter (fun q => !(q.1 == i) && !(q.1 + 1 == i && q.2.category == 2)) = lv') (k : J l y I v u (pc + 1) lv' st Q) : J l y I v u pc lv (.ref x :: st) Q := by
  subst h
  exact fun L cA D p e s m args below meth c H locs ls C hP hD hS hl => lv_astore_n (lv' := (((i, Value.ref x) :: lv.filter (fun q => !(q.1 == i) && !(q.1 + 1 == i && q.2.category == 2))).map (cvp L))) C.1 C.2.1 d hi hl hn (congrArg (List.cons _) (cvp_filter L (fun a b => !(a == i) && !(a + 1 == i && b == 2)) lv)) (fun ls hl => k L cA D p e s m args below meth c H locs ls C hP hD hS hl)
theorem J_astore {i : Nat} {x : Nat} {lv' : List (Nat × Value)} (d : decode y.2.1 pc = .ok (.astore i, 2)) (hn : i < y.2.2.1) (h : (i, Value.ref x) :: lv.filter (fun q => !(q.1 == i) && !(q.1 + 1 == i && q.2.category == 2)) = lv') (k : J l y I v u (pc + 2) lv' st Q) : J l y I v u pc lv (.ref x :: st) Q := by
  subst h
  exact fun L cA D p e s m args below meth c H locs ls C hP hD hS hl => lv_astore (lv' := (((i, Value.ref x) :: lv.filter (fun q => !(q.1 == i) && !(q.1 + 1 == i && q.2.category == 2))).map (cvp L))) C.1 C.2.1 d hl hn (congrArg (List.cons _) (cvp_filter L (fun a b => !(a == i) && !(a + 1 == i && b == 2)) lv)) (fun ls hl => k L cA D p e s m args below meth c H locs ls C hP hD hS hl)
theorem J_lstore_n {n : Fin 4} {i : Nat} {x : Int64} {lv' : List (Nat × Value)} (d : decode y.2.1 pc = .ok (.lstore_n n, 1)) (hi : (n : Nat) = i) (hn : i + 1 < y.2.2.1) (h : (i, Value.long x) :: lv.filter (fun q => !(q.1 == i) && (!(q.1 == i + 1) && !(q.1 + 1 == i && q.2.category == 2))) = lv') (k : J l y I v u (pc + 1) lv' st Q) : J l y I v u pc lv (.long x :: st) Q := by
  subst h
  exact fun L cA D p e s m args below meth c H locs ls C hP hD hS hl => lv_lstore_n (lv' := (((i, Value.long x) :: lv.filter (fun q => !(q.1 == i) && (!(q.1 == i + 1) && !(q.1 + 1 == i && q.2.category == 2)))).map (cvp L))) C.1 C.2.1 d hi hl hn (congrArg (List.cons _) (cvp_filter L (fun a b => !(a == i) && (!(a == i + 1) && !(a + 1 == i && b == 2))) lv)) (fun ls hl => k L cA D p e s m args below meth c H locs ls C hP hD hS hl)
theorem J_lstore {i : Nat} {x : Int64} {lv' : List (Nat × Value)} (d : decode y.2.1 pc = .ok (.lstore i, 2)) (hn : i + 1 < y.2.2.1) (h : (i, Value.long x) :: lv.filter (fun q => !(q.1 == i) && (!(q.1 == i + 1) && !(q.1 + 1 == i && q.2.category == 2))) = lv') (k : J l y I v u (pc + 2) lv' st Q) : J l y I v u pc lv (.long x :: st) Q := by
  subst h
  exact fun L cA D p e s m args below meth c H locs ls C hP hD hS hl => lv_lstore (lv' := (((i, Value.long x) :: lv.filter (fun q => !(q.1 == i) && (!(q.1 == i + 1) && !(q.1 + 1 == i && q.2.category == 2)))).map (cvp L))) C.1 C.2.1 d hl hn (congrArg (List.cons _) (cvp_filter L (fun a b => !(a == i) && (!(a == i + 1) && !(a + 1 == i && b == 2))) lv)) (fun ls hl => k L cA D p e s m args below meth c H locs ls C hP hD hS hl)
theorem J_iinc {i q : Nat} {n : Int} {x z : Int32} {lv' : List (Nat × Value)} (d : decode y.2.1 pc = .ok (.iinc i n, 3)) (hq : lv[q]? = some (i, .int x)) (hz : x + Int32.ofInt n = z) (hn : i < y.2.2.1) (h : (i, Value.int z) :: lv.filter (fun q => !(q.1 == i) && !(q.1 + 1 == i && q.2.category == 2)) = lv') (k : J l y I v u (pc + 3) lv' st Q) : J l y I v u pc lv st Q := by
  subst h
  exact fun L cA D p e s m args below meth c H locs ls C hP hD hS hl => lv_iinc (k := q) (v := z) (lv' := (((i, Value.int z) :: lv.filter (fun q => !(q.1 == i) && !(q.1 + 1 == i && q.2.category == 2))).map (cvp L))) C.1 C.2.1 d hl (by rw [List.getElem?_map, hq]; rfl) hz hn (congrArg (List.cons _) (cvp_filter L (fun a b => !(a == i) && !(a + 1 == i && b == 2)) lv)) (fun ls hl => k L cA D p e s m args below meth c H locs ls C hP hD hS hl)
theorem J_lv {lv' : List (Nat × Value)} (ks : List Nat) (h : lv_pick lv ks = lv') (k : J l y I v u pc lv' st Q) : J l y I v u pc lv st Q := by
  subst h
  refine fun L cA D p e s m args below meth c H locs ls C hP hD hS hl => k L cA D p e s m args below meth c H locs ls C hP hD hS (lv_sub hl ks ?_)
  unfold lv_pick
  rw [List.map_filterMap]
  congr 1
  funext i
  rw [List.getElem?_map]
theorem J_icmp_eq {a b : Int32} {off : Int} {tgt : Nat} (d : decode y.2.1 pc = .ok (.if_icmp .eq off, 3)) (ht : (pc : Int) + off = (tgt : Int)) (kt : a = b → J l y I v u tgt lv st Q) (kf : ¬ (a = b) → J l y I v u (pc + 3) lv st Q) : J l y I v u pc lv (.int b :: .int a :: st) Q :=
  fun L cA D p e s m args below meth c H locs ls C hP hD hS hl => lv_icmp_eq C.1 C.2.1 d ht (fun h => kt h L cA D p e s m args below meth c H locs ls C hP hD hS hl) (fun h => kf h L cA D p e s m args below meth c H locs ls C hP hD hS hl)
theorem J_if_eq {a : Int32} {off : Int} {tgt : Nat} (d : decode y.2.1 pc = .ok (.ifCond .eq off, 3)) (ht : (pc : Int) + off = (tgt : Int)) (kt : a = 0 → J l y I v u tgt lv st Q) (kf : ¬ (a = 0) → J l y I v u (pc + 3) lv st Q) : J l y I v u pc lv (.int a :: st) Q :=
  fun L cA D p e s m args below meth c H locs ls C hP hD hS hl => lv_if_eq C.1 C.2.1 d ht (fun h => kt h L cA D p e s m args below meth c H locs ls C hP hD hS hl) (fun h => kf h L cA D p e s m args below meth c H locs ls C hP hD hS hl)
theorem J_icmp_ne {a b : Int32} {off : Int} {tgt : Nat} (d : decode y.2.1 pc = .ok (.if_icmp .ne off, 3)) (ht : (pc : Int) + off = (tgt : Int)) (kt : ¬ a = b → J l y I v u tgt lv st Q) (kf : a = b → J l y I v u (pc + 3) lv st Q) : J l y I v u pc lv (.int b :: .int a :: st) Q :=
  fun L cA D p e s m args below meth c H locs ls C hP hD hS hl => lv_icmp_ne C.1 C.2.1 d ht (fun h => kt h L cA D p e s m args below meth c H locs ls C hP hD hS hl) (fun h => kf h L cA D p e s m args below meth c H locs ls C hP hD hS hl)
theorem J_if_ne {a : Int32} {off : Int} {tgt : Nat} (d : decode y.2.1 pc = .ok (.ifCond .ne off, 3)) (ht : (pc : Int) + off = (tgt : Int)) (kt : ¬ a = 0 → J l y I v u tgt lv st Q) (kf : a = 0 → J l y I v u (pc + 3) lv st Q) : J l y I v u pc lv (.int a :: st) Q :=
  fun L cA D p e s m args below meth c H locs ls C hP hD hS hl => lv_if_ne C.1 C.2.1 d ht (fun h => kt h L cA D p e s m args below meth c H locs ls C hP hD hS hl) (fun h => kf h L cA D p e s m args below meth c H locs ls C hP hD hS hl)
theorem J_icmp_lt {a b : Int32} {off : Int} {tgt : Nat} (d : decode y.2.1 pc = .ok (.if_icmp .lt off, 3)) (ht : (pc : Int) + off = (tgt : Int)) (kt : a < b → J l y I v u tgt lv st Q) (kf : ¬ (a < b) → J l y I v u (pc + 3) lv st Q) : J l y I v u pc lv (.int b :: .int a :: st) Q :=
  fun L cA D p e s m args below meth c H locs ls C hP hD hS hl => lv_icmp_lt C.1 C.2.1 d ht (fun h => kt h L cA D p e s m args below meth c H locs ls C hP hD hS hl) (fun h => kf h L cA D p e s m args below meth c H locs ls C hP hD hS hl)
theorem J_if_lt {a : Int32} {off : Int} {tgt : Nat} (d : decode y.2.1 pc = .ok (.ifCond .lt off, 3)) (ht : (pc : Int) + off = (tgt : Int)) (kt : a < 0 → J l y I v u tgt lv st Q) (kf : ¬ (a < 0) → J l y I v u (pc + 3) lv st Q) : J l y I v u pc lv (.int a :: st) Q :=
  fun L cA D p e s m args below meth c H locs ls C hP hD hS hl => lv_if_lt C.1 C.2.1 d ht (fun h => kt h L cA D p e s m args below meth c H locs ls C hP hD hS hl) (fun h => kf h L cA D p e s m args below meth c H locs ls C hP hD hS hl)
theorem J_icmp_ge {a b : Int32} {off : Int} {tgt : Nat} (d : decode y.2.1 pc = .ok (.if_icmp .ge off, 3)) (ht : (pc : Int) + off = (tgt : Int)) (kt : b ≤ a → J l y I v u tgt lv st Q) (kf : ¬ (b ≤ a) → J l y I v u (pc + 3) lv st Q) : J l y I v u pc lv (.int b :: .int a :: st) Q :=
  fun L cA D p e s m args below meth c H locs ls C hP hD hS hl => lv_icmp_ge C.1 C.2.1 d ht (fun h => kt h L cA D p e s m args below meth c H locs ls C hP hD hS hl) (fun h => kf h L cA D p e s m args below meth c H locs ls C hP hD hS hl)
theorem J_if_ge {a : Int32} {off : Int} {tgt : Nat} (d : decode y.2.1 pc = .ok (.ifCond .ge off, 3)) (ht : (pc : Int) + off = (tgt : Int)) (kt : 0 ≤ a → J l y I v u tgt lv st Q) (kf : ¬ (0 ≤ a) → J l y I v u (pc + 3) lv st Q) : J l y I v u pc lv (.int a :: st) Q :=
  fun L cA D p e s m args below meth c H locs ls C hP hD hS hl => lv_if_ge C.1 C.2.1 d ht (fun h => kt h L cA D p e s m args below meth c H locs ls C hP hD hS hl) (fun h => kf h L cA D p e s m args below meth c H locs ls C hP hD hS hl)
theorem J_icmp_gt {a b : Int32} {off : Int} {tgt : Nat} (d : decode y.2.1 pc = .ok (.if_icmp .gt off, 3)) (ht : (pc : Int) + off = (tgt : Int)) (kt : b < a → J l y I v u tgt lv st Q) (kf : ¬ (b < a) → J l y I v u (pc + 3) lv st Q) : J l y I v u pc lv (.int b :: .int a :: st) Q :=
  fun L cA D p e s m args below meth c H locs ls C hP hD hS hl => lv_icmp_gt C.1 C.2.1 d ht (fun h => kt h L cA D p e s m args below meth c H locs ls C hP hD hS hl) (fun h => kf h L cA D p e s m args below meth c H locs ls C hP hD hS hl)
theorem J_if_gt {a : Int32} {off : Int} {tgt : Nat} (d : decode y.2.1 pc = .ok (.ifCond .gt off, 3)) (ht : (pc : Int) + off = (tgt : Int)) (kt : 0 < a → J l y I v u tgt lv st Q) (kf : ¬ (0 < a) → J l y I v u (pc + 3) lv st Q) : J l y I v u pc lv (.int a :: st) Q :=
  fun L cA D p e s m args below meth c H locs ls C hP hD hS hl => lv_if_gt C.1 C.2.1 d ht (fun h => kt h L cA D p e s m args below meth c H locs ls C hP hD hS hl) (fun h => kf h L cA D p e s m args below meth c H locs ls C hP hD hS hl)
theorem J_icmp_le {a b : Int32} {off : Int} {tgt : Nat} (d : decode y.2.1 pc = .ok (.if_icmp .le off, 3)) (ht : (pc : Int) + off = (tgt : Int)) (kt : a ≤ b → J l y I v u tgt lv st Q) (kf : ¬ (a ≤ b) → J l y I v u (pc + 3) lv st Q) : J l y I v u pc lv (.int b :: .int a :: st) Q :=
  fun L cA D p e s m args below meth c H locs ls C hP hD hS hl => lv_icmp_le C.1 C.2.1 d ht (fun h => kt h L cA D p e s m args below meth c H locs ls C hP hD hS hl) (fun h => kf h L cA D p e s m args below meth c H locs ls C hP hD hS hl)
theorem J_if_le {a : Int32} {off : Int} {tgt : Nat} (d : decode y.2.1 pc = .ok (.ifCond .le off, 3)) (ht : (pc : Int) + off = (tgt : Int)) (kt : a ≤ 0 → J l y I v u tgt lv st Q) (kf : ¬ (a ≤ 0) → J l y I v u (pc + 3) lv st Q) : J l y I v u pc lv (.int a :: st) Q :=
  fun L cA D p e s m args below meth c H locs ls C hP hD hS hl => lv_if_le C.1 C.2.1 d ht (fun h => kt h L cA D p e s m args below meth c H locs ls C hP hD hS hl) (fun h => kf h L cA D p e s m args below meth c H locs ls C hP hD hS hl)
theorem J_goto {off : Int} {tgt : Nat} (d : decode y.2.1 pc = .ok (.goto off, 3)) (ht : (pc : Int) + off = (tgt : Int)) (k : J l y I v u tgt lv st Q) : J l y I v u pc lv st Q :=
  fun L cA D p e s m args below meth c H locs ls C hP hD hS hl => lv_goto C.1 C.2.1 d ht (k L cA D p e s m args below meth c H locs ls C hP hD hS hl)
theorem J_tableOut {dflt lo hi : Int} {offs : Array Int} {len : Nat} {x : Int32} {tgt : Nat} (d : decode y.2.1 pc = .ok (.tableswitch dflt lo hi offs, len)) (h : x.toInt < lo ∨ hi < x.toInt) (ht : (pc : Int) + dflt = (tgt : Int)) (k : J l y I v u tgt lv st Q) : J l y I v u pc lv (.int x :: st) Q :=
  fun L cA D p e s m args below meth c H locs ls C hP hD hS hl => lv_tableOut C.1 C.2.1 d h ht (k L cA D p e s m args below meth c H locs ls C hP hD hS hl)
theorem J_tableIn {dflt lo hi : Int} {offs : Array Int} {len : Nat} {x : Int32} {off : Int} {tgt : Nat} (d : decode y.2.1 pc = .ok (.tableswitch dflt lo hi offs, len)) (h1 : ¬ x.toInt < lo) (h2 : ¬ hi < x.toInt) (ho : offs[(x.toInt - lo).toNat]? = some off) (ht : (pc : Int) + off = (tgt : Int)) (k : J l y I v u tgt lv st Q) : J l y I v u pc lv (.int x :: st) Q :=
  fun L cA D p e s m args below meth c H locs ls C hP hD hS hl => lv_tableIn C.1 C.2.1 d h1 h2 ho ht (k L cA D p e s m args below meth c H locs ls C hP hD hS hl)
theorem J_ldc {idx : Nat} {x : Int32} (d : decode y.2.1 pc = .ok (.ldc idx, 2)) (hw : Cond.constant y.1.cls idx x ∈ gt) (k : J l y I v u (pc + 2) lv (.int x :: st) Q) : J l y I v u pc lv st Q :=
  fun L cA D p e s m args below meth c H locs ls C hP hD hS hl => lv_ldc C.1 C.2.1 C.2.2.2.2.1 (C.2.2.2.2.2.2.1 _ hw) d (k L cA D p e s m args below meth c H locs ls C hP hD hS hl)
theorem J_ldc2 {idx : Nat} {x : Int64} (d : decode y.2.1 pc = .ok (.ldc2_w idx, 3)) (hw : Cond.constantLong y.1.cls idx x ∈ gt) (k : J l y I v u (pc + 3) lv (.long x :: st) Q) : J l y I v u pc lv st Q :=
  fun L cA D p e s m args below meth c H locs ls C hP hD hS hl => lv_ldc2 C.1 C.2.1 C.2.2.2.2.1 (C.2.2.2.2.2.2.1 _ hw) d (k L cA D p e s m args below meth c H locs ls C hP hD hS hl)
theorem J_topi {a : Int32} (k : ∀ z : Int32, z = a → J l y I v u pc lv (.int z :: st) Q) : J l y I v u pc lv (.int a :: st) Q := k a rfl
theorem J_pc {pc2 : Nat} (h : pc = pc2) (k : J l y I v u pc2 lv st Q) : J l y I v u pc lv st Q := by subst h; exact k
theorem J_topl {a : Int64} (k : ∀ z : Int64, z = a → J l y I v u pc lv (.long z :: st) Q) : J l y I v u pc lv (.long a :: st) Q := k a rfl
theorem J_vn (k : ∀ w : fr_V, w = v → J l y I w u pc lv st Q) : J l y I v u pc lv st Q := k v rfl
theorem J_un (k : ∀ w : fr_U, w = u → J l y I v w pc lv st Q) : J l y I v u pc lv st Q := k u rfl
theorem J_irem {a b : Int32} (d : decode y.2.1 pc = .ok (.irem, 1)) (h : ¬ b = 0) (k : J l y I v u (pc + 1) lv (.int (a - a / b * b) :: st) Q) : J l y I v u pc lv (.int b :: .int a :: st) Q :=
  fun L cA D p e s m args below meth c H locs ls C hP hD hS hl => lv_irem C.1 C.2.1 d h (k L cA D p e s m args below meth c H locs ls C hP hD hS hl)
end FRJ
end
section
theorem fsl_get {L : Nat → Nat} {k ci j : Nat} {f : Nat → Int32} (h : j < nfd ci) : (fsl L k ci f)[j]? = some (fv L k ci j (f j)) := by
  simp [fsl, h]
theorem fsl_set {L : Nat → Nat} {k ci j : Nat} {f : Nat → Int32} {x : Int32} (h : j < nfd ci) : (fsl L k ci f).set j (fv L k ci j x) = fsl L k ci (upd f j x) := by
  apply List.ext_getElem?
  intro i
  by_cases hi : j = i
  · subst hi
    rw [List.getElem?_set_self (by simpa [fsl] using h), fsl_get h]
    simp [upd]
  · rw [List.getElem?_set_ne hi]
    by_cases hl : i < nfd ci
    · rw [fsl_get hl, fsl_get hl]
      have : upd f j x i = f i := by unfold upd; rw [if_neg (fun e => hi e.symm)]
      rw [this]
    · rw [List.getElem?_eq_none (by simpa [fsl] using hl), List.getElem?_eq_none (by simpa [fsl] using hl)]
theorem up2_self (v : fr_V) (k i : Nat) (x : Int32) : up2 v k i x k = upd (v k) i x := by simp [up2]
theorem up2_ne {v : fr_V} {k i a : Nat} {x : Int32} (h : a ≠ k) : up2 v k i x a = v a := by simp [up2, h]
theorem up3_self (v : fr_U) (k i : Nat) (x : Int64) : up3 v k i x k = vp_updL (v k) i x := by simp [up3]
theorem up3_ne {v : fr_U} {k i a : Nat} {x : Int64} (h : a ≠ k) : up3 v k i x a = v a := by simp [up3, h]
theorem ent_o {L : Nat → Nat} {cA : Nat → ClassId} {k ci : Nat} {f : Nat → Int32} {g : Nat → Int64} (h : (sh k).1 = ci) (hc : ci < 20) : ent L cA k f g = .inr (ci, fsl L k ci f) := by
  subst h
  unfold ent
  rw [if_neg (by omega), if_neg (by omega), if_neg (by omega), if_neg (by omega), if_neg (by omega), if_neg (by omega)]
theorem ent_i {L : Nat → Nat} {cA : Nat → ClassId} {k n : Nat} {f : Nat → Int32} {g : Nat → Int64} (h : sh k = (20, n)) : ent L cA k f g = .inl (cA 0, n, .inl f) := by simp [ent, h]
theorem ent_z {L : Nat → Nat} {cA : Nat → ClassId} {k n : Nat} {f : Nat → Int32} {g : Nat → Int64} (h : sh k = (21, n)) : ent L cA k f g = .inl (cA 1, n, .inl f) := by simp [ent, h]
theorem ent_l {L : Nat → Nat} {cA : Nat → ClassId} {k n : Nat} {f : Nat → Int32} {g : Nat → Int64} (h : sh k = (22, n)) : ent L cA k f g = .inl (cA 2, n, .inr (.inl g)) := by simp [ent, h]
/-- a field's link: the pool's place idx of the code of 'own' names the field j of the kind ci -/
def FL (own : String) (idx ci j : Nat) : Prop := ∃ q : vw_C, fr_cls[ci]? = some q ∧ j < q.2.2 ∧ Cond.fieldLink own idx (q.2.1 j).1 (q.2.1 j).2.1 (q.2.1 j).2.2.1 ∈ gt
theorem FL.of {own : String} {idx ci j : Nat} {q : vw_C} (h : fr_cls[ci]? = some q) (hj : j < q.2.2) (hw : Cond.fieldLink own idx (q.2.1 j).1 (q.2.1 j).2.1 (q.2.1 j).2.2.1 ∈ lw_tbl) : FL own idx ci j := ⟨q, h, hj, gt_mem hw rfl⟩
section FRH
variable {l : Launch} {y : fr_M} {I : List Nat} {v : fr_V} {u : fr_U} {Q : Option Value → fr_V → fr_U → Prop} {pc : Nat} {lv : List (Nat × Value)} {st : List Value}
theorem J_getf {idx ci j k : Nat} {x : Value} (d : decode y.2.1 pc = .ok (.getfield idx, 3)) (hf : FL y.1.cls idx ci j) (hk : k ∈ I) (hs : (sh k).1 = ci) (hx : ∀ L : Nat → Nat, fv L k ci j (v k j) = cv L x) (kk : J l y I v u (pc + 3) lv (x :: st) Q) : J l y I v u pc lv (.ref k :: st) Q := by
  intro L cA D p e s m args below meth c H locs ls C hP hD hS hl
  obtain ⟨q, hc, hj, hw⟩ := hf
  have hci : ci < 12 := (List.getElem?_eq_some_iff.mp hc).1
  have hn : nfd ci = q.2.2 := by unfold nfd; rw [hc]
  obtain ⟨q0, -, hq0⟩ := mw_get (L := L) (cA := cA) (v := v) (u := u) hk
  rw [ent_o hs (by omega)] at hq0
  exact va_get (C := q.1) (T := q.2.1) (N := q.2.2) C.1 C.2.1 C.2.2.2.2.2.2.1 (fr_in hc) C.2.2.2.2.1 C.2.2.2.2.2.2.2.2 hP q0 hq0 hc j hj (C.2.2.2.2.2.2.1 _ hw) (fun _ h9 => h9) (by rw [fsl_get (by rw [hn]; exact hj), hx L]) d (kk L cA D p e s m args below meth c H locs ls C hP hD hS hl)
/-- a number -/
theorem J_geti {idx ci j k : Nat} (d : decode y.2.1 pc = .ok (.getfield idx, 3)) (hf : FL y.1.cls idx ci j) (hk : k ∈ I) (hs : (sh k).1 = ci) (h0 : fk ci j = 0) (kk : J l y I v u (pc + 3) lv (.int (v k j) :: st) Q) : J l y I v u pc lv (.ref k :: st) Q :=
  J_getf (x := .int (v k j)) d hf hk hs (fun L => by simp [fv, h0, cv]) kk
/-- a fixed cell -/
theorem J_getr {idx ci j k t : Nat} (d : decode y.2.1 pc = .ok (.getfield idx, 3)) (hf : FL y.1.cls idx ci j) (hk : k ∈ I) (hs : (sh k).1 = ci) (h0 : fk ci j = 1) (ht : sref k j = t) (kk : J l y I v u (pc + 3) lv (.ref t :: st) Q) : J l y I v u pc lv (.ref k :: st) Q :=
  J_getf (x := .ref t) d hf hk hs (fun L => by simp [fv, h0, cv, ht]) kk
/-- a cell that may change -/
theorem J_getd {idx ci j k t : Nat} (d : decode y.2.1 pc = .ok (.getfield idx, 3)) (hf : FL y.1.cls idx ci j) (hk : k ∈ I) (hs : (sh k).1 = ci) (h0 : fk ci j = 2) (ht : ¬ v k j < 0) (ht2 : (v k j).toNatClampNeg = t) (kk : J l y I v u (pc + 3) lv (.ref t :: st) Q) : J l y I v u pc lv (.ref k :: st) Q :=
  J_getf (x := .ref t) d hf hk hs (fun L => by simp [fv, h0, cv, rq, ht, ht2, va_rf]) kk
theorem J_getn {idx ci j k : Nat} (d : decode y.2.1 pc = .ok (.getfield idx, 3)) (hf : FL y.1.cls idx ci j) (hk : k ∈ I) (hs : (sh k).1 = ci) (h0 : fk ci j = 2) (ht : v k j < 0) (kk : J l y I v u (pc + 3) lv (.null :: st) Q) : J l y I v u pc lv (.ref k :: st) Q :=
  J_getf (x := .null) d hf hk hs (fun L => by simp [fv, h0, cv, rq, ht, va_rf]) kk
theorem J_putf {idx ci j k : Nat} {x : Value} {z : Int32} (d : decode y.2.1 pc = .ok (.putfield idx, 3)) (hf : FL y.1.cls idx ci j) (hk : k ∈ I) (hs : (sh k).1 = ci) (hx : ∀ L : Nat → Nat, cv L x = fv L k ci j z) (hfin : ∀ q : vw_C, fr_cls[ci]? = some q → (q.2.1 j).2.2.2 = false) (hn : ∀ L : Nat → Nat, narrow (fr_ty ci j) (cv L x) = cv L x) (hfit : ∀ L : Nat → Nat, fits (fr_ty ci j) (cv L x) = true) (kk : J l y I (up2 v k j z) u (pc + 3) lv st Q) : J l y I v u pc lv (x :: .ref k :: st) Q := by
  intro L cA D p e s m args below meth c H locs ls C hP hD hS hl
  obtain ⟨q, hc, hj, hw⟩ := hf
  have hci : ci < 12 := (List.getElem?_eq_some_iff.mp hc).1
  have hnf : nfd ci = q.2.2 := by unfold nfd; rw [hc]
  obtain ⟨q0, hi0, hq0⟩ := mw_get (L := L) (cA := cA) (v := v) (u := u) hk
  rw [ent_o hs (by omega)] at hq0
  refine va_put (C := q.1) (T := q.2.1) (N := q.2.2) (ty := fr_ty ci j) C.1 C.2.1 C.2.2.2.2.2.2.1 (fr_in hc) (fr_ty ci) (fr_tn hc).1 (fr_tn hc).2 C.2.2.2.2.1 C.2.2.2.2.2.2.2.2 hP hD hS q0 hq0 hc j hj (C.2.2.2.2.2.2.1 _ hw) (fun _ h9 => h9) (hfin q hc) ((fr_tn hc).1 j hj) (hn L) (hfit L) (by simp [fsl, hnf, hj]) d (fun H1 locs1 hP1 hD1 hS1 => ?_)
  have hset : (mw L cA I v u).set q0 (L k, .inr (ci, (fsl L k ci (v k)).set j (cv L x))) = mw L cA I (up2 v k j z) u :=
    mw_set hD hi0 (by rw [ent_o hs (by omega), up2_self, hx L, fsl_set (by rw [hnf]; exact hj)]) (fun a ha => up2_ne ha) (fun a ha => rfl)
  rw [hset] at hP1 hD1
  exact kk L cA D p e s m args below meth c H1 locs1 ls C hP1 hD1 hS1 hl
theorem J_puti {idx ci j k : Nat} {x : Int32} (d : decode y.2.1 pc = .ok (.putfield idx, 3)) (hf : FL y.1.cls idx ci j) (hk : k ∈ I) (hs : (sh k).1 = ci) (h0 : fk ci j = 0) (hfin : ∀ q : vw_C, fr_cls[ci]? = some q → (q.2.1 j).2.2.2 = false) (hty : fr_ty ci j = .int) (kk : J l y I (up2 v k j x) u (pc + 3) lv st Q) : J l y I v u pc lv (.int x :: .ref k :: st) Q :=
  J_putf (x := .int x) (z := x) d hf hk hs (fun L => by simp [fv, h0, cv]) hfin (fun L => by rw [hty]; rfl) (fun L => by rw [hty]; rfl) kk
theorem J_iald {k n : Nat} {i : Int32} (d : decode y.2.1 pc = .ok (.iaload, 1)) (hk : k ∈ I) (hs : sh k = (20, n)) (hin : vp_in i n) (kk : J l y I v u (pc + 1) lv (.int (v k i.toNatClampNeg) :: st) Q) : J l y I v u pc lv (.int i :: .ref k :: st) Q := by
  intro L cA D p e s m args below meth c H locs ls C hP hD hS hl
  obtain ⟨q0, -, hq0⟩ := mw_get (L := L) (cA := cA) (v := v) (u := u) hk
  rw [ent_i hs] at hq0
  exact va_iald C.1 C.2.1 C.2.2.2.2.2.2.2.2 hP q0 0 hq0 rfl hin d (kk L cA D p e s m args below meth c H locs ls C hP hD hS hl)
theorem J_zald {k n : Nat} {i : Int32} (d : decode y.2.1 pc = .ok (.baload, 1)) (hk : k ∈ I) (hs : sh k = (21, n)) (hin : vp_in i n) (kk : J l y I v u (pc + 1) lv (.int (v k i.toNatClampNeg) :: st) Q) : J l y I v u pc lv (.int i :: .ref k :: st) Q := by
  intro L cA D p e s m args below meth c H locs ls C hP hD hS hl
  obtain ⟨q0, -, hq0⟩ := mw_get (L := L) (cA := cA) (v := v) (u := u) hk
  rw [ent_z hs] at hq0
  exact va_zald C.1 C.2.1 C.2.2.2.2.2.2.2.2 hP q0 1 hq0 rfl hin d (kk L cA D p e s m args below meth c H locs ls C hP hD hS hl)
theorem J_lald {k n : Nat} {i : Int32} (d : decode y.2.1 pc = .ok (.laload, 1)) (hk : k ∈ I) (hs : sh k = (22, n)) (hin : vp_in i n) (kk : J l y I v u (pc + 1) lv (.long (u k i.toNatClampNeg) :: st) Q) : J l y I v u pc lv (.int i :: .ref k :: st) Q := by
  intro L cA D p e s m args below meth c H locs ls C hP hD hS hl
  obtain ⟨q0, -, hq0⟩ := mw_get (L := L) (cA := cA) (v := v) (u := u) hk
  rw [ent_l hs] at hq0
  exact va_lald C.1 C.2.1 C.2.2.2.2.2.2.2.2 hP q0 2 hq0 rfl hin d (kk L cA D p e s m args below meth c H locs ls C hP hD hS hl)
theorem J_iast {k n : Nat} {i x : Int32} (d : decode y.2.1 pc = .ok (.iastore, 1)) (hk : k ∈ I) (hs : sh k = (20, n)) (hin : vp_in i n) (kk : J l y I (up2 v k i.toNatClampNeg x) u (pc + 1) lv st Q) : J l y I v u pc lv (.int x :: .int i :: .ref k :: st) Q := by
  intro L cA D p e s m args below meth c H locs ls C hP hD hS hl
  obtain ⟨q0, hi0, hq0⟩ := mw_get (L := L) (cA := cA) (v := v) (u := u) hk
  rw [ent_i hs] at hq0
  refine va_iast C.1 C.2.1 C.2.2.2.2.2.2.2.2 hP hD hS q0 0 hq0 rfl hin d (fun H1 locs1 hP1 hD1 hS1 => ?_)
  have hset : (mw L cA I v u).set q0 (L k, .inl (cA 0, n, .inl (upd (v k) i.toNatClampNeg x))) = mw L cA I (up2 v k i.toNatClampNeg x) u :=
    mw_set hD hi0 (by rw [ent_i hs, up2_self]) (fun a ha => up2_ne ha) (fun a ha => rfl)
  rw [hset] at hP1 hD1
  exact kk L cA D p e s m args below meth c H1 locs1 ls C hP1 hD1 hS1 hl
theorem J_zast {k n : Nat} {i x : Int32} (d : decode y.2.1 pc = .ok (.bastore, 1)) (hk : k ∈ I) (hs : sh k = (21, n)) (hin : vp_in i n) (hx : vp_nar .boolean x = x) (kk : J l y I (up2 v k i.toNatClampNeg x) u (pc + 1) lv st Q) : J l y I v u pc lv (.int x :: .int i :: .ref k :: st) Q := by
  intro L cA D p e s m args below meth c H locs ls C hP hD hS hl
  obtain ⟨q0, hi0, hq0⟩ := mw_get (L := L) (cA := cA) (v := v) (u := u) hk
  rw [ent_z hs] at hq0
  refine va_zast C.1 C.2.1 C.2.2.2.2.2.2.2.2 hP hD hS q0 1 hq0 rfl hin d (fun H1 locs1 hP1 hD1 hS1 => ?_)
  have hset : (mw L cA I v u).set q0 (L k, .inl (cA 1, n, .inl (upd (v k) i.toNatClampNeg (vp_nar .boolean x)))) = mw L cA I (up2 v k i.toNatClampNeg x) u :=
    mw_set hD hi0 (by rw [ent_z hs, up2_self, hx]) (fun a ha => up2_ne ha) (fun a ha => rfl)
  rw [hset] at hP1 hD1
  exact kk L cA D p e s m args below meth c H1 locs1 ls C hP1 hD1 hS1 hl
theorem J_last {k n : Nat} {i : Int32} {x : Int64} (d : decode y.2.1 pc = .ok (.lastore, 1)) (hk : k ∈ I) (hs : sh k = (22, n)) (hin : vp_in i n) (kk : J l y I v (up3 u k i.toNatClampNeg x) (pc + 1) lv st Q) : J l y I v u pc lv (.long x :: .int i :: .ref k :: st) Q := by
  intro L cA D p e s m args below meth c H locs ls C hP hD hS hl
  obtain ⟨q0, hi0, hq0⟩ := mw_get (L := L) (cA := cA) (v := v) (u := u) hk
  rw [ent_l hs] at hq0
  refine va_last C.1 C.2.1 C.2.2.2.2.2.2.2.2 hP hD hS q0 2 hq0 rfl hin d (fun H1 locs1 hP1 hD1 hS1 => ?_)
  have hset : (mw L cA I v u).set q0 (L k, .inl (cA 2, n, .inr (.inl (vp_updL (u k) i.toNatClampNeg x)))) = mw L cA I v (up3 u k i.toNatClampNeg x) :=
    mw_set hD hi0 (by rw [ent_l hs, up3_self]) (fun a ha => rfl) (fun a ha => up3_ne ha)
  rw [hset] at hP1 hD1
  exact kk L cA D p e s m args below meth c H1 locs1 ls C hP1 hD1 hS1 hl
theorem J_alen {k n : Nat} {x : Int32} (d : decode y.2.1 pc = .ok (.arraylength, 1)) (hk : k ∈ I) (hs : sh k = (20, n)) (hx : Int32.ofNat n = x) (kk : J l y I v u (pc + 1) lv (.int x :: st) Q) : J l y I v u pc lv (.ref k :: st) Q := by
  intro L cA D p e s m args below meth c H locs ls C hP hD hS hl
  obtain ⟨q0, -, hq0⟩ := mw_get (L := L) (cA := cA) (v := v) (u := u) hk
  rw [ent_i hs] at hq0
  exact va_alen C.1 C.2.1 C.2.2.2.2.2.2.2.2 hP q0 0 hq0 rfl hx d (kk L cA D p e s m args below meth c H locs ls C hP hD hS hl)
theorem J_iret {x : Int32} (d : decode y.2.1 pc = .ok (.ireturn, 1)) (hr : y.2.2.2.1 = some .int) (hq : Q (some (.int x)) v u) : J l y I v u pc lv [.int x] Q := by
  intro L cA D p e s m args below meth c H locs ls C hP hD hS hl
  exact W.iret (v := x) C.1 C.2.1 (C.2.2.1.trans hr) (fun t ht hW => ⟨⟨some (.int x), v, u, rfl, hq, by rw [ht]; exact hP, va_K.moved hW.alike C.2.2.2.2.2.2.2.2⟩, hS.F ht⟩) hS.2.2 d C.2.2.2.2.2.1
theorem J_zret {x : Int32} (d : decode y.2.1 pc = .ok (.ireturn, 1)) (hr : y.2.2.2.1 = some .boolean) (hx : narrow .boolean (.int x) = .int x) (hq : Q (some (.int x)) v u) : J l y I v u pc lv [.int x] Q := by
  intro L cA D p e s m args below meth c H locs ls C hP hD hS hl
  exact W.zret (v := x) C.1 C.2.1 (C.2.2.1.trans hr) hx (fun t ht hW => ⟨⟨some (.int x), v, u, rfl, hq, by rw [ht]; exact hP, va_K.moved hW.alike C.2.2.2.2.2.2.2.2⟩, hS.F ht⟩) hS.2.2 d C.2.2.2.2.2.1
theorem J_lret {x : Int64} (d : decode y.2.1 pc = .ok (.lreturn, 1)) (hr : y.2.2.2.1 = some .long) (hq : Q (some (.long x)) v u) : J l y I v u pc lv [.long x] Q := by
  intro L cA D p e s m args below meth c H locs ls C hP hD hS hl
  exact W.lret (v := x) C.1 C.2.1 (C.2.2.1.trans hr) (fun t ht hW => ⟨⟨some (.long x), v, u, rfl, hq, by rw [ht]; exact hP, va_K.moved hW.alike C.2.2.2.2.2.2.2.2⟩, hS.F ht⟩) hS.2.2 d C.2.2.2.2.2.1
theorem J_vret (d : decode y.2.1 pc = .ok (.return_, 1)) (hr : y.2.2.2.1 = none) (hq : Q none v u) : J l y I v u pc lv [] Q := by
  intro L cA D p e s m args below meth c H locs ls C hP hD hS hl
  exact W.vret C.1 C.2.1 (C.2.2.1.trans hr) (fun t ht hW => ⟨⟨none, v, u, rfl, hq, by rw [ht]; exact hP, va_K.moved hW.alike C.2.2.2.2.2.2.2.2⟩, hS.F ht⟩) hS.2.2 d C.2.2.2.2.2.1
theorem J_aret {x : Value} (d : decode y.2.1 pc = .ok (.areturn, 1)) {C9 : String} (hr : y.2.2.2.1 = some (.object C9)) (hx : x = .null ∨ ∃ a, x = .ref a) (hq : Q (some x) v u) : J l y I v u pc lv [x] Q := by
  intro L cA D p e s m args below meth c H locs ls C hP hD hS hl
  exact W.aret (v := cv L x) C.1 C.2.1 (C.2.2.1.trans hr) (Or.inl ⟨_, rfl⟩) (hx.elim (fun h => Or.inl (by rw [h]; rfl)) (fun ⟨a, h⟩ => Or.inr ⟨L a, by rw [h]; rfl⟩)) (fun t ht hW => ⟨⟨some x, v, u, rfl, hq, by rw [ht]; exact hP, va_K.moved hW.alike C.2.2.2.2.2.2.2.2⟩, hS.F ht⟩) hS.2.2 d C.2.2.2.2.2.1
/-- what the tables say of a method that is called: n its number of arguments -/
def MOK (z : fr_M) (n : Nat) : Prop := Cond.code z.1 z.2.1 z.2.2.1 z.2.2.2.1 ∈ gt ∧ Cond.initialized z.1.cls ∈ gt ∧ (z.1.cls ≠ "java/lang/invoke/MethodHandle" ∧ z.1.cls ≠ "java/lang/invoke/VarHandle" ∧ (parseMethodDescriptor z.1.desc).map (fun d => d.parameters.length) = some n)
theorem fr_good {z : fr_M} {n : Nat} (h : MOK z n) : GoodIn gt (fr_ws z) := fun w hw => by
  rcases List.mem_cons.mp hw with rfl | hw
  · exact ⟨h.1, gt_good h.1⟩
  · exact ⟨hw, gt_good hw⟩
theorem fr_blind {L : Nat → Nat} {cA : Nat → ClassId} {D : va_G} {av : List Value} : FrameBlind (va_Pc av (fr_P L cA D I v u)) := by
  intro a U g mk q
  obtain ⟨q0, qP, qK, qD, qX⟩ := q
  exact ⟨q0, qP, va_K.moved (u := U) (U := U.calling g mk a) (Vm.Alike.refl U.vm) qK, qD, fr_X.moved (u := U) (U := U.calling g mk a) (Vm.Alike.refl U.vm) qX⟩
theorem fr_pre {L : Nat → Nat} {cA : Nat → ClassId} {D : va_G} {av : List Value} {s : State} {H : Heap} {locs : List Loc} (hP : va_P D fr_cls (mw L cA I v u) H) (hD : va_D (Aw L I) (mw L cA I v u)) (hS : va_S (Aw L I) s.heap H locs) (hK : va_K D fr_cls (fr_tys cA) s) (hX : fr_X L (Aw L I) s s.heap) : ∀ U : State, U.heap = H → s.WarmedH U.vm → va_Pc av (fr_P L cA D I v u) av.toArray U := by
  intro U hU hW
  refine ⟨rfl, by rw [hU]; exact hP, va_K.moved hW.alike hK, hD, ?_⟩
  rw [hU]
  exact fr_X.moved hW.alike (hX.kept hS.2.1)
theorem J_back {z : fr_M} {L : Nat → Nat} {cA : Nat → ClassId} {D : va_G} {p : Program} {e : Env} {s : State} {m : MethodId} {args : Array Value} {below : List Frame} {meth : Method} {c : Code} {H : Heap} {locs : List Loc} {ls : Array Slot} {a9 : Array Value} {st0 rest : List Value} {Qz : Option Value → fr_V → fr_U → Prop}
    (hr : va_Run p l e (fr_rm y) s m args below meth c H locs 0 0 0 0 (F0 m pc ls st0) (rest.map (cv L)) (fr_Q L cA D I Qz a9) (Aw L I)) (C : fr_C L cA D I y p s m args meth c) (hD : va_D (Aw L I) (mw L cA I v u)) (hS : va_S (Aw L I) s.heap H locs) (hl : lv_has ls y.2.2.1 (lv.map (cvp L)))
    (k : ∀ r v' u', Qz r v' u' → J l y I v' u' (pc + 3) lv (r.toList ++ rest) Q) : W p l e (fr_rm y) s m args below meth c H locs 0 0 (MQ below (fr_Q L cA D I Q) args s 0 0 (Aw L I)) (F0 m pc ls st0) := by
  intro T hT X
  obtain ⟨r9, st₀, t, T', L9, h0, X', hL9, e1, e2, ⟨⟨r, v', u', hv, hq, hP', hK'⟩, hz, hk⟩, stp⟩ := hr T hT X
  have hv2 : r9 = r.map (cv L) := Outcome.returned.inj hv
  subst hv2
  rw [h0] at hz hk
  have hS1 : va_S (Aw L I) s.heap T'.heap (locs ++ L9) := ⟨Nat.le_trans hS.1 (by rw [e1]; exact hz), fun q h1 h2 => by rw [e1, hk q (Nat.lt_of_lt_of_le h1 hS.1) h2]; exact hS.2.1 q h1 h2, fun q hq => by
      rcases List.mem_append.mp hq with h | h
      · exact hS.2.2 q h
      · exact hL9 q h⟩
  have hW := k r v' u' hq L cA D p e s m args below meth c T'.heap (locs ++ L9) ls C (by rw [e1]; exact hP') (mw_D hD) hS1 hl
  obtain ⟨t2, a1, b1⟩ := hW T' rfl X'
  refine ⟨t2, stp t2 ?_, b1⟩
  have he : (r.toList ++ rest).map (cv L) = (r.map (cv L)).toList ++ rest.map (cv L) := by cases r <;> simp
  rw [he] at a1
  exact a1
theorem J_callV {z : fr_M} {idx o ci n : Nat} {As rest : List Value} {Qz : Option Value → fr_V → fr_U → Prop} (d : decode y.2.1 pc = .ok (.invokevirtual idx, 3)) (hw : Cond.methodLink y.1.cls idx z.1 ∈ gt) (hz : MOK z n) (hv : Cond.instanceMethod z.1 ∈ gt ∧ Cond.selects z.1.cls z.1 z.1 ∈ gt) (hR : z.2.2.2.2.1 + 1 ≤ y.2.2.2.2.1 ∧ 8 + (z.2.2.1 + 11) + z.2.2.2.2.2 ≤ y.2.2.2.2.2)
    (ho : o ∈ I) (hs : (sh o).1 = ci) (hc : (fr_cls[ci]?).map (fun q => q.1) = some z.1.cls) (hst : st = As.reverse ++ .ref o :: rest) (hn : As.length = n) (hsum : (rest.map fun x => x.category).sum ≤ 8) (hC : Con l z I v u (.ref o :: As) Qz)
    (k : ∀ r v' u', Qz r v' u' → J l y I v' u' (pc + 3) lv (r.toList ++ rest) Q) : J l y I v u pc lv st Q := by
  intro L cA D p e s m args below meth c H locs ls C hP hD hS hl
  subst hst
  obtain ⟨q, hcq, hq1⟩ : ∃ q : vw_C, fr_cls[ci]? = some q ∧ q.1 = z.1.cls := by
    cases h : fr_cls[ci]? with
    | none => rw [h] at hc; cases hc
    | some q => rw [h] at hc; exact ⟨q, rfl, Option.some.inj hc⟩
  have hci : ci < 12 := (List.getElem?_eq_some_iff.mp hcq).1
  obtain ⟨q0, -, hq0⟩ := mw_get (L := L) (cA := cA) (v := v) (u := u) ho
  rw [ent_o hs (by omega)] at hq0
  have hT := C.2.2.2.2.2.2.1
  have cb : CallB (fr_rm y) s args y.1.cls idx z.1 z.2.1 z.2.2.1 z.2.2.2.1 (fr_ws z) (fr_rm z) 0 0 n := callB_of n hT (fr_good hz) rfl rfl rfl (hT _ hz.2.1) (hT _ hw) hz.2.2 hR
  have hrun := va_runV (l := l) (e := e) (below := below) (meth := meth) (H := H) (locs := locs) (cells := 0) (slots := 0) (b := L o) (As := As.map (cv L)) (rest := rest.map (cv L)) (g := F0 m pc ls ((As.reverse ++ .ref o :: rest).map (cv L))) ⟨C.1, C.2.1, C.2.2.2.1, C.2.2.2.2.1, hT⟩ (hC L cA D) (C := z.1.cls) ⟨cb, hT _ hv.1, hT _ hv.2⟩
    ⟨fr_blind, by have hrc := va_recv C.2.2.2.2.2.2.2.2 hP hcq hq0; rw [hq1] at hrc; exact hrc, fr_pre (av := (Value.ref o :: As).map (cv L)) hP hD hS C.2.2.2.2.2.2.2.2 C.2.2.2.2.2.2.2.1⟩ rfl (by rw [List.length_map]; exact hn) hl.1 (by simp [cv, List.map_reverse]) (lv_room (by rw [cv_sum]; exact hsum)) d ⟨Nat.le_refl _, Nat.le_refl _⟩
  exact J_back (z := z) (v := v) (u := u) hrun C hD hS hl k
theorem J_callS {z : fr_M} {idx n : Nat} {As rest : List Value} {Qz : Option Value → fr_V → fr_U → Prop} (d : decode y.2.1 pc = .ok (.invokestatic idx, 3)) (hw : Cond.methodLink y.1.cls idx z.1 ∈ gt) (hz : MOK z n) (hv : Cond.static z.1 ∈ gt) (hR : z.2.2.2.2.1 + 1 ≤ y.2.2.2.2.1 ∧ 8 + (z.2.2.1 + 11) + z.2.2.2.2.2 ≤ y.2.2.2.2.2)
    (hst : st = As.reverse ++ rest) (hn : As.length = n) (hsum : (rest.map fun x => x.category).sum ≤ 8) (hC : Con l z I v u As Qz)
    (k : ∀ r v' u', Qz r v' u' → J l y I v' u' (pc + 3) lv (r.toList ++ rest) Q) : J l y I v u pc lv st Q := by
  intro L cA D p e s m args below meth c H locs ls C hP hD hS hl
  subst hst
  have hT := C.2.2.2.2.2.2.1
  have cb : CallB (fr_rm y) s args y.1.cls idx z.1 z.2.1 z.2.2.1 z.2.2.2.1 (fr_ws z) (fr_rm z) 0 0 n := callB_of n hT (fr_good hz) rfl rfl rfl (hT _ hz.2.1) (hT _ hw) hz.2.2 hR
  have hrun := va_runS (l := l) (e := e) (below := below) (meth := meth) (H := H) (locs := locs) (cells := 0) (slots := 0) (As := As.map (cv L)) (rest := rest.map (cv L)) (g := F0 m pc ls ((As.reverse ++ rest).map (cv L))) ⟨C.1, C.2.1, C.2.2.2.1, C.2.2.2.2.1, hT⟩ (hC L cA D) ⟨cb, hT _ hv⟩
    ⟨fr_blind, fr_pre (av := As.map (cv L)) hP hD hS C.2.2.2.2.2.2.2.2 C.2.2.2.2.2.2.2.1⟩ rfl (by rw [List.length_map]; exact hn) hl.1 (by simp [List.map_reverse]) (lv_room (by rw [cv_sum]; exact hsum)) d ⟨Nat.le_refl _, Nat.le_refl _⟩
  exact J_back (z := z) (v := v) (u := u) hrun C hD hS hl k
end FRH
end
section
def QI (v : fr_V) (u : fr_U) (P : Int32 → Prop) : Option Value → fr_V → fr_U → Prop := fun r v' u' => ∃ x : Int32, r = some (.int x) ∧ v' = v ∧ u' = u ∧ P x
def QL (v : fr_V) (u : fr_U) (P : Int64 → Prop) : Option Value → fr_V → fr_U → Prop := fun r v' u' => ∃ x : Int64, r = some (.long x) ∧ v' = v ∧ u' = u ∧ P x
def QN (u : fr_U) (P : fr_V → Prop) : Option Value → fr_V → fr_U → Prop := fun r v' u' => r = none ∧ u' = u ∧ P v'
def QX (u : fr_U) (P : Int32 → fr_V → Prop) : Option Value → fr_V → fr_U → Prop := fun r v' u' => ∃ x : Int32, r = some (.int x) ∧ u' = u ∧ P x v'
def QY (u : fr_U) (P : Int64 → fr_V → Prop) : Option Value → fr_V → fr_U → Prop := fun r v' u' => ∃ x : Int64, r = some (.long x) ∧ u' = u ∧ P x v'
section FRC
variable {l : Launch} {y : fr_M} {I : List Nat} {v : fr_V} {u : fr_U} {Q : Option Value → fr_V → fr_U → Prop} {pc : Nat} {lv : List (Nat × Value)} {st : List Value}
variable {z : fr_M} {idx o ci n : Nat} {As rest : List Value}
theorem J_putz {idx ci j k : Nat} {x : Int32} (d : decode y.2.1 pc = .ok (.putfield idx, 3)) (hf : FL y.1.cls idx ci j) (hk : k ∈ I) (hs : (sh k).1 = ci) (h0 : fk ci j = 0) (hfin : ∀ q : vw_C, fr_cls[ci]? = some q → (q.2.1 j).2.2.2 = false) (hty : fr_ty ci j = .boolean) (hx : narrow .boolean (.int x) = .int x ∧ fits .boolean (.int x) = true) (kk : J l y I (up2 v k j x) u (pc + 3) lv st Q) : J l y I v u pc lv (.int x :: .ref k :: st) Q :=
  J_putf (x := .int x) (z := x) d hf hk hs (fun L => by simp [fv, h0, cv]) hfin (fun L => by rw [hty]; exact hx.1) (fun L => by rw [hty]; exact hx.2) kk
theorem J_cVI {P : Int32 → Prop} (d : decode y.2.1 pc = .ok (.invokevirtual idx, 3)) (hw : Cond.methodLink y.1.cls idx z.1 ∈ gt) (hz : MOK z n) (hv : Cond.instanceMethod z.1 ∈ gt ∧ Cond.selects z.1.cls z.1 z.1 ∈ gt) (hR : z.2.2.2.2.1 + 1 ≤ y.2.2.2.2.1 ∧ 8 + (z.2.2.1 + 11) + z.2.2.2.2.2 ≤ y.2.2.2.2.2) (ho : o ∈ I) (hs : (sh o).1 = ci) (hc : (fr_cls[ci]?).map (fun q => q.1) = some z.1.cls) (hst : st = As.reverse ++ .ref o :: rest) (hn : As.length = n) (hsum : (rest.map fun x => x.category).sum ≤ 8) (hC : Con l z I v u (.ref o :: As) (QI v u P)) (k : ∀ x : Int32, P x → J l y I v u (pc + 3) lv (.int x :: rest) Q) : J l y I v u pc lv st Q := by
  refine J_callV d hw hz hv hR ho hs hc hst hn hsum hC (fun r v' u' hq => ?_)
  obtain ⟨x, rfl, rfl, rfl, hp⟩ := hq
  exact k x hp
theorem J_cVL {P : Int64 → Prop} (d : decode y.2.1 pc = .ok (.invokevirtual idx, 3)) (hw : Cond.methodLink y.1.cls idx z.1 ∈ gt) (hz : MOK z n) (hv : Cond.instanceMethod z.1 ∈ gt ∧ Cond.selects z.1.cls z.1 z.1 ∈ gt) (hR : z.2.2.2.2.1 + 1 ≤ y.2.2.2.2.1 ∧ 8 + (z.2.2.1 + 11) + z.2.2.2.2.2 ≤ y.2.2.2.2.2) (ho : o ∈ I) (hs : (sh o).1 = ci) (hc : (fr_cls[ci]?).map (fun q => q.1) = some z.1.cls) (hst : st = As.reverse ++ .ref o :: rest) (hn : As.length = n) (hsum : (rest.map fun x => x.category).sum ≤ 8) (hC : Con l z I v u (.ref o :: As) (QL v u P)) (k : ∀ x : Int64, P x → J l y I v u (pc + 3) lv (.long x :: rest) Q) : J l y I v u pc lv st Q := by
  refine J_callV d hw hz hv hR ho hs hc hst hn hsum hC (fun r v' u' hq => ?_)
  obtain ⟨x, rfl, rfl, rfl, hp⟩ := hq
  exact k x hp
theorem J_cVN {P : fr_V → Prop} (d : decode y.2.1 pc = .ok (.invokevirtual idx, 3)) (hw : Cond.methodLink y.1.cls idx z.1 ∈ gt) (hz : MOK z n) (hv : Cond.instanceMethod z.1 ∈ gt ∧ Cond.selects z.1.cls z.1 z.1 ∈ gt) (hR : z.2.2.2.2.1 + 1 ≤ y.2.2.2.2.1 ∧ 8 + (z.2.2.1 + 11) + z.2.2.2.2.2 ≤ y.2.2.2.2.2) (ho : o ∈ I) (hs : (sh o).1 = ci) (hc : (fr_cls[ci]?).map (fun q => q.1) = some z.1.cls) (hst : st = As.reverse ++ .ref o :: rest) (hn : As.length = n) (hsum : (rest.map fun x => x.category).sum ≤ 8) (hC : Con l z I v u (.ref o :: As) (QN u P)) (k : ∀ v' : fr_V, P v' → J l y I v' u (pc + 3) lv rest Q) : J l y I v u pc lv st Q := by
  refine J_callV d hw hz hv hR ho hs hc hst hn hsum hC (fun r v' u' hq => ?_)
  obtain ⟨rfl, rfl, hp⟩ := hq
  exact k v' hp
theorem J_cVX {P : Int32 → fr_V → Prop} (d : decode y.2.1 pc = .ok (.invokevirtual idx, 3)) (hw : Cond.methodLink y.1.cls idx z.1 ∈ gt) (hz : MOK z n) (hv : Cond.instanceMethod z.1 ∈ gt ∧ Cond.selects z.1.cls z.1 z.1 ∈ gt) (hR : z.2.2.2.2.1 + 1 ≤ y.2.2.2.2.1 ∧ 8 + (z.2.2.1 + 11) + z.2.2.2.2.2 ≤ y.2.2.2.2.2) (ho : o ∈ I) (hs : (sh o).1 = ci) (hc : (fr_cls[ci]?).map (fun q => q.1) = some z.1.cls) (hst : st = As.reverse ++ .ref o :: rest) (hn : As.length = n) (hsum : (rest.map fun x => x.category).sum ≤ 8) (hC : Con l z I v u (.ref o :: As) (QX u P)) (k : ∀ (x : Int32) (v' : fr_V), P x v' → J l y I v' u (pc + 3) lv (.int x :: rest) Q) : J l y I v u pc lv st Q := by
  refine J_callV d hw hz hv hR ho hs hc hst hn hsum hC (fun r v' u' hq => ?_)
  obtain ⟨x, rfl, rfl, hp⟩ := hq
  exact k x v' hp
theorem J_cSI {P : Int32 → Prop} (d : decode y.2.1 pc = .ok (.invokestatic idx, 3)) (hw : Cond.methodLink y.1.cls idx z.1 ∈ gt) (hz : MOK z n) (hv : Cond.static z.1 ∈ gt) (hR : z.2.2.2.2.1 + 1 ≤ y.2.2.2.2.1 ∧ 8 + (z.2.2.1 + 11) + z.2.2.2.2.2 ≤ y.2.2.2.2.2) (hst : st = As.reverse ++ rest) (hn : As.length = n) (hsum : (rest.map fun x => x.category).sum ≤ 8) (hC : Con l z I v u As (QI v u P)) (k : ∀ x : Int32, P x → J l y I v u (pc + 3) lv (.int x :: rest) Q) : J l y I v u pc lv st Q := by
  refine J_callS d hw hz hv hR hst hn hsum hC (fun r v' u' hq => ?_)
  obtain ⟨x, rfl, rfl, rfl, hp⟩ := hq
  exact k x hp
theorem J_cSL {P : Int64 → Prop} (d : decode y.2.1 pc = .ok (.invokestatic idx, 3)) (hw : Cond.methodLink y.1.cls idx z.1 ∈ gt) (hz : MOK z n) (hv : Cond.static z.1 ∈ gt) (hR : z.2.2.2.2.1 + 1 ≤ y.2.2.2.2.1 ∧ 8 + (z.2.2.1 + 11) + z.2.2.2.2.2 ≤ y.2.2.2.2.2) (hst : st = As.reverse ++ rest) (hn : As.length = n) (hsum : (rest.map fun x => x.category).sum ≤ 8) (hC : Con l z I v u As (QL v u P)) (k : ∀ x : Int64, P x → J l y I v u (pc + 3) lv (.long x :: rest) Q) : J l y I v u pc lv st Q := by
  refine J_callS d hw hz hv hR hst hn hsum hC (fun r v' u' hq => ?_)
  obtain ⟨x, rfl, rfl, rfl, hp⟩ := hq
  exact k x hp
theorem J_cSN {P : fr_V → Prop} (d : decode y.2.1 pc = .ok (.invokestatic idx, 3)) (hw : Cond.methodLink y.1.cls idx z.1 ∈ gt) (hz : MOK z n) (hv : Cond.static z.1 ∈ gt) (hR : z.2.2.2.2.1 + 1 ≤ y.2.2.2.2.1 ∧ 8 + (z.2.2.1 + 11) + z.2.2.2.2.2 ≤ y.2.2.2.2.2) (hst : st = As.reverse ++ rest) (hn : As.length = n) (hsum : (rest.map fun x => x.category).sum ≤ 8) (hC : Con l z I v u As (QN u P)) (k : ∀ v' : fr_V, P v' → J l y I v' u (pc + 3) lv rest Q) : J l y I v u pc lv st Q := by
  refine J_callS d hw hz hv hR hst hn hsum hC (fun r v' u' hq => ?_)
  obtain ⟨rfl, rfl, hp⟩ := hq
  exact k v' hp
theorem J_cSX {P : Int32 → fr_V → Prop} (d : decode y.2.1 pc = .ok (.invokestatic idx, 3)) (hw : Cond.methodLink y.1.cls idx z.1 ∈ gt) (hz : MOK z n) (hv : Cond.static z.1 ∈ gt) (hR : z.2.2.2.2.1 + 1 ≤ y.2.2.2.2.1 ∧ 8 + (z.2.2.1 + 11) + z.2.2.2.2.2 ≤ y.2.2.2.2.2) (hst : st = As.reverse ++ rest) (hn : As.length = n) (hsum : (rest.map fun x => x.category).sum ≤ 8) (hC : Con l z I v u As (QX u P)) (k : ∀ (x : Int32) (v' : fr_V), P x v' → J l y I v' u (pc + 3) lv (.int x :: rest) Q) : J l y I v u pc lv st Q := by
  refine J_callS d hw hz hv hR hst hn hsum hC (fun r v' u' hq => ?_)
  obtain ⟨x, rfl, rfl, hp⟩ := hq
  exact k x v' hp
end FRC
end
section
section FRE
variable {l : Launch} {y : fr_M} {I : List Nat} {v : fr_V} {u : fr_U} {Q : Option Value → fr_V → fr_U → Prop} {pc : Nat} {lv : List (Nat × Value)} {st : List Value}
variable {z : fr_M} {idx o ci n : Nat} {As rest : List Value}
theorem J_gete {idx ci j k : Nat} {x : Int32} (d : decode y.2.1 pc = .ok (.getfield idx, 3)) (hf : FL y.1.cls idx ci j) (hk : k ∈ I) (hs : (sh k).1 = ci) (h0 : fk ci j = 0) (hx : v k j = x) (kk : J l y I v u (pc + 3) lv (.int x :: st) Q) : J l y I v u pc lv (.ref k :: st) Q := by
  subst hx; exact J_geti d hf hk hs h0 kk
theorem J_iale {k n : Nat} {i x : Int32} (d : decode y.2.1 pc = .ok (.iaload, 1)) (hk : k ∈ I) (hs : sh k = (20, n)) (hin : vp_in i n) (hx : v k i.toNatClampNeg = x) (kk : J l y I v u (pc + 1) lv (.int x :: st) Q) : J l y I v u pc lv (.int i :: .ref k :: st) Q := by
  subst hx; exact J_iald d hk hs hin kk
theorem J_zale {k n : Nat} {i x : Int32} (d : decode y.2.1 pc = .ok (.baload, 1)) (hk : k ∈ I) (hs : sh k = (21, n)) (hin : vp_in i n) (hx : v k i.toNatClampNeg = x) (kk : J l y I v u (pc + 1) lv (.int x :: st) Q) : J l y I v u pc lv (.int i :: .ref k :: st) Q := by
  subst hx; exact J_zald d hk hs hin kk
theorem J_ve {w : fr_V} (h : v = w) (k : J l y I w u pc lv st Q) : J l y I v u pc lv st Q := by subst h; exact k
theorem J_te {a b : Int32} (h : a = b) (k : J l y I v u pc lv (.int b :: st) Q) : J l y I v u pc lv (.int a :: st) Q := by subst h; exact k
theorem J_eVI {x : Int32} (d : decode y.2.1 pc = .ok (.invokevirtual idx, 3)) (hw : Cond.methodLink y.1.cls idx z.1 ∈ gt) (hz : MOK z n) (hv : Cond.instanceMethod z.1 ∈ gt ∧ Cond.selects z.1.cls z.1 z.1 ∈ gt) (hR : z.2.2.2.2.1 + 1 ≤ y.2.2.2.2.1 ∧ 8 + (z.2.2.1 + 11) + z.2.2.2.2.2 ≤ y.2.2.2.2.2) (ho : o ∈ I) (hs : (sh o).1 = ci) (hc : (fr_cls[ci]?).map (fun q => q.1) = some z.1.cls) (hst : st = As.reverse ++ .ref o :: rest) (hn : As.length = n) (hsum : (rest.map fun x => x.category).sum ≤ 8) (hC : Con l z I v u (.ref o :: As) (QI v u (fun a => a = x))) (k : J l y I v u (pc + 3) lv (.int x :: rest) Q) : J l y I v u pc lv st Q := J_cVI d hw hz hv hR ho hs hc hst hn hsum hC (fun a h => by subst h; exact k)
theorem J_eVL {x : Int64} (d : decode y.2.1 pc = .ok (.invokevirtual idx, 3)) (hw : Cond.methodLink y.1.cls idx z.1 ∈ gt) (hz : MOK z n) (hv : Cond.instanceMethod z.1 ∈ gt ∧ Cond.selects z.1.cls z.1 z.1 ∈ gt) (hR : z.2.2.2.2.1 + 1 ≤ y.2.2.2.2.1 ∧ 8 + (z.2.2.1 + 11) + z.2.2.2.2.2 ≤ y.2.2.2.2.2) (ho : o ∈ I) (hs : (sh o).1 = ci) (hc : (fr_cls[ci]?).map (fun q => q.1) = some z.1.cls) (hst : st = As.reverse ++ .ref o :: rest) (hn : As.length = n) (hsum : (rest.map fun x => x.category).sum ≤ 8) (hC : Con l z I v u (.ref o :: As) (QL v u (fun a => a = x))) (k : J l y I v u (pc + 3) lv (.long x :: rest) Q) : J l y I v u pc lv st Q := J_cVL d hw hz hv hR ho hs hc hst hn hsum hC (fun a h => by subst h; exact k)
theorem J_eVN {w : fr_V} (d : decode y.2.1 pc = .ok (.invokevirtual idx, 3)) (hw : Cond.methodLink y.1.cls idx z.1 ∈ gt) (hz : MOK z n) (hv : Cond.instanceMethod z.1 ∈ gt ∧ Cond.selects z.1.cls z.1 z.1 ∈ gt) (hR : z.2.2.2.2.1 + 1 ≤ y.2.2.2.2.1 ∧ 8 + (z.2.2.1 + 11) + z.2.2.2.2.2 ≤ y.2.2.2.2.2) (ho : o ∈ I) (hs : (sh o).1 = ci) (hc : (fr_cls[ci]?).map (fun q => q.1) = some z.1.cls) (hst : st = As.reverse ++ .ref o :: rest) (hn : As.length = n) (hsum : (rest.map fun x => x.category).sum ≤ 8) (hC : Con l z I v u (.ref o :: As) (QN u (fun a => a = w))) (k : J l y I w u (pc + 3) lv rest Q) : J l y I v u pc lv st Q := J_cVN d hw hz hv hR ho hs hc hst hn hsum hC (fun a h => by subst h; exact k)
theorem J_eVX {x : Int32} {w : fr_V} (d : decode y.2.1 pc = .ok (.invokevirtual idx, 3)) (hw : Cond.methodLink y.1.cls idx z.1 ∈ gt) (hz : MOK z n) (hv : Cond.instanceMethod z.1 ∈ gt ∧ Cond.selects z.1.cls z.1 z.1 ∈ gt) (hR : z.2.2.2.2.1 + 1 ≤ y.2.2.2.2.1 ∧ 8 + (z.2.2.1 + 11) + z.2.2.2.2.2 ≤ y.2.2.2.2.2) (ho : o ∈ I) (hs : (sh o).1 = ci) (hc : (fr_cls[ci]?).map (fun q => q.1) = some z.1.cls) (hst : st = As.reverse ++ .ref o :: rest) (hn : As.length = n) (hsum : (rest.map fun x => x.category).sum ≤ 8) (hC : Con l z I v u (.ref o :: As) (QX u (fun a b => a = x ∧ b = w))) (k : J l y I w u (pc + 3) lv (.int x :: rest) Q) : J l y I v u pc lv st Q := J_cVX d hw hz hv hR ho hs hc hst hn hsum hC (fun a c h => by obtain ⟨h1, h2⟩ := h; subst h1; subst h2; exact k)
theorem J_eSI {x : Int32} (d : decode y.2.1 pc = .ok (.invokestatic idx, 3)) (hw : Cond.methodLink y.1.cls idx z.1 ∈ gt) (hz : MOK z n) (hv : Cond.static z.1 ∈ gt) (hR : z.2.2.2.2.1 + 1 ≤ y.2.2.2.2.1 ∧ 8 + (z.2.2.1 + 11) + z.2.2.2.2.2 ≤ y.2.2.2.2.2) (hst : st = As.reverse ++ rest) (hn : As.length = n) (hsum : (rest.map fun x => x.category).sum ≤ 8) (hC : Con l z I v u As (QI v u (fun a => a = x))) (k : J l y I v u (pc + 3) lv (.int x :: rest) Q) : J l y I v u pc lv st Q := J_cSI d hw hz hv hR hst hn hsum hC (fun a h => by subst h; exact k)
theorem J_eSL {x : Int64} (d : decode y.2.1 pc = .ok (.invokestatic idx, 3)) (hw : Cond.methodLink y.1.cls idx z.1 ∈ gt) (hz : MOK z n) (hv : Cond.static z.1 ∈ gt) (hR : z.2.2.2.2.1 + 1 ≤ y.2.2.2.2.1 ∧ 8 + (z.2.2.1 + 11) + z.2.2.2.2.2 ≤ y.2.2.2.2.2) (hst : st = As.reverse ++ rest) (hn : As.length = n) (hsum : (rest.map fun x => x.category).sum ≤ 8) (hC : Con l z I v u As (QL v u (fun a => a = x))) (k : J l y I v u (pc + 3) lv (.long x :: rest) Q) : J l y I v u pc lv st Q := J_cSL d hw hz hv hR hst hn hsum hC (fun a h => by subst h; exact k)
theorem J_eSN {w : fr_V} (d : decode y.2.1 pc = .ok (.invokestatic idx, 3)) (hw : Cond.methodLink y.1.cls idx z.1 ∈ gt) (hz : MOK z n) (hv : Cond.static z.1 ∈ gt) (hR : z.2.2.2.2.1 + 1 ≤ y.2.2.2.2.1 ∧ 8 + (z.2.2.1 + 11) + z.2.2.2.2.2 ≤ y.2.2.2.2.2) (hst : st = As.reverse ++ rest) (hn : As.length = n) (hsum : (rest.map fun x => x.category).sum ≤ 8) (hC : Con l z I v u As (QN u (fun a => a = w))) (k : J l y I w u (pc + 3) lv rest Q) : J l y I v u pc lv st Q := J_cSN d hw hz hv hR hst hn hsum hC (fun a h => by subst h; exact k)
theorem J_eSX {x : Int32} {w : fr_V} (d : decode y.2.1 pc = .ok (.invokestatic idx, 3)) (hw : Cond.methodLink y.1.cls idx z.1 ∈ gt) (hz : MOK z n) (hv : Cond.static z.1 ∈ gt) (hR : z.2.2.2.2.1 + 1 ≤ y.2.2.2.2.1 ∧ 8 + (z.2.2.1 + 11) + z.2.2.2.2.2 ≤ y.2.2.2.2.2) (hst : st = As.reverse ++ rest) (hn : As.length = n) (hsum : (rest.map fun x => x.category).sum ≤ 8) (hC : Con l z I v u As (QX u (fun a b => a = x ∧ b = w))) (k : J l y I w u (pc + 3) lv (.int x :: rest) Q) : J l y I v u pc lv st Q := J_cSX d hw hz hv hR hst hn hsum hC (fun a c h => by obtain ⟨h1, h2⟩ := h; subst h1; subst h2; exact k)
end FRE
end
section
def fr_st : List Nat := [10, 20, 11, 21, 13, 23, 400, 401, 402, 403, 404, 405, 406, 407, 408, 409, 410, 411, 412, 413, 414, 415, 416, 417, 418, 419, 420, 421, 422, 423, 430, 431, 432, 433, 434, 435, 436, 437, 438, 439, 440, 441, 442, 443, 444, 445, 446, 447, 448, 449, 450, 451, 452, 453, 100, 102, 103, 104, 105, 108, 109, 110, 200, 201, 202, 203, 205, 210, 300, 302, 304, 305, 306, 307, 308, 310, 500, 501, 502, 600, 601, 900, 903, 906, 907, 910, 911, 912, 913, 950, 1000, 1010, 1100, 1101, 1106, 1107, 1109, 1110, 1111, 1112, 1113, 1114, 1116, 1118, 1119, 1120, 1121, 1122, 1123, 1131, 1132, 1133, 1134, 1135, 1136, 1137, 1138, 1141, 1142, 1145, 1146, 1147, 1148, 1152, 1154, 1155, 1156, 1157, 1158]
def fr_I (I : List Nat) : Prop := ∀ k ∈ fr_st, k ∈ I
theorem i10 {I : List Nat} (h : fr_I I) : 10 ∈ I := h 10 (by decide)
theorem i20 {I : List Nat} (h : fr_I I) : 20 ∈ I := h 20 (by decide)
theorem i11 {I : List Nat} (h : fr_I I) : 11 ∈ I := h 11 (by decide)
theorem i21 {I : List Nat} (h : fr_I I) : 21 ∈ I := h 21 (by decide)
theorem i13 {I : List Nat} (h : fr_I I) : 13 ∈ I := h 13 (by decide)
theorem i23 {I : List Nat} (h : fr_I I) : 23 ∈ I := h 23 (by decide)
theorem i400 {I : List Nat} (h : fr_I I) : 400 ∈ I := h 400 (by decide)
theorem i401 {I : List Nat} (h : fr_I I) : 401 ∈ I := h 401 (by decide)
theorem i402 {I : List Nat} (h : fr_I I) : 402 ∈ I := h 402 (by decide)
theorem i403 {I : List Nat} (h : fr_I I) : 403 ∈ I := h 403 (by decide)
theorem i404 {I : List Nat} (h : fr_I I) : 404 ∈ I := h 404 (by decide)
theorem i405 {I : List Nat} (h : fr_I I) : 405 ∈ I := h 405 (by decide)
theorem i406 {I : List Nat} (h : fr_I I) : 406 ∈ I := h 406 (by decide)
theorem i407 {I : List Nat} (h : fr_I I) : 407 ∈ I := h 407 (by decide)
theorem i408 {I : List Nat} (h : fr_I I) : 408 ∈ I := h 408 (by decide)
theorem i409 {I : List Nat} (h : fr_I I) : 409 ∈ I := h 409 (by decide)
theorem i410 {I : List Nat} (h : fr_I I) : 410 ∈ I := h 410 (by decide)
theorem i411 {I : List Nat} (h : fr_I I) : 411 ∈ I := h 411 (by decide)
theorem i412 {I : List Nat} (h : fr_I I) : 412 ∈ I := h 412 (by decide)
theorem i413 {I : List Nat} (h : fr_I I) : 413 ∈ I := h 413 (by decide)
theorem i414 {I : List Nat} (h : fr_I I) : 414 ∈ I := h 414 (by decide)
theorem i415 {I : List Nat} (h : fr_I I) : 415 ∈ I := h 415 (by decide)
theorem i416 {I : List Nat} (h : fr_I I) : 416 ∈ I := h 416 (by decide)
theorem i417 {I : List Nat} (h : fr_I I) : 417 ∈ I := h 417 (by decide)
theorem i418 {I : List Nat} (h : fr_I I) : 418 ∈ I := h 418 (by decide)
theorem i419 {I : List Nat} (h : fr_I I) : 419 ∈ I := h 419 (by decide)
theorem i420 {I : List Nat} (h : fr_I I) : 420 ∈ I := h 420 (by decide)
theorem i421 {I : List Nat} (h : fr_I I) : 421 ∈ I := h 421 (by decide)
theorem i422 {I : List Nat} (h : fr_I I) : 422 ∈ I := h 422 (by decide)
theorem i423 {I : List Nat} (h : fr_I I) : 423 ∈ I := h 423 (by decide)
theorem i430 {I : List Nat} (h : fr_I I) : 430 ∈ I := h 430 (by decide)
theorem i431 {I : List Nat} (h : fr_I I) : 431 ∈ I := h 431 (by decide)
theorem i432 {I : List Nat} (h : fr_I I) : 432 ∈ I := h 432 (by decide)
theorem i433 {I : List Nat} (h : fr_I I) : 433 ∈ I := h 433 (by decide)
theorem i434 {I : List Nat} (h : fr_I I) : 434 ∈ I := h 434 (by decide)
theorem i435 {I : List Nat} (h : fr_I I) : 435 ∈ I := h 435 (by decide)
theorem i436 {I : List Nat} (h : fr_I I) : 436 ∈ I := h 436 (by decide)
theorem i437 {I : List Nat} (h : fr_I I) : 437 ∈ I := h 437 (by decide)
theorem i438 {I : List Nat} (h : fr_I I) : 438 ∈ I := h 438 (by decide)
theorem i439 {I : List Nat} (h : fr_I I) : 439 ∈ I := h 439 (by decide)
theorem i440 {I : List Nat} (h : fr_I I) : 440 ∈ I := h 440 (by decide)
theorem i441 {I : List Nat} (h : fr_I I) : 441 ∈ I := h 441 (by decide)
theorem i442 {I : List Nat} (h : fr_I I) : 442 ∈ I := h 442 (by decide)
theorem i443 {I : List Nat} (h : fr_I I) : 443 ∈ I := h 443 (by decide)
theorem i444 {I : List Nat} (h : fr_I I) : 444 ∈ I := h 444 (by decide)
theorem i445 {I : List Nat} (h : fr_I I) : 445 ∈ I := h 445 (by decide)
theorem i446 {I : List Nat} (h : fr_I I) : 446 ∈ I := h 446 (by decide)
theorem i447 {I : List Nat} (h : fr_I I) : 447 ∈ I := h 447 (by decide)
theorem i448 {I : List Nat} (h : fr_I I) : 448 ∈ I := h 448 (by decide)
theorem i449 {I : List Nat} (h : fr_I I) : 449 ∈ I := h 449 (by decide)
theorem i450 {I : List Nat} (h : fr_I I) : 450 ∈ I := h 450 (by decide)
theorem i451 {I : List Nat} (h : fr_I I) : 451 ∈ I := h 451 (by decide)
theorem i452 {I : List Nat} (h : fr_I I) : 452 ∈ I := h 452 (by decide)
theorem i453 {I : List Nat} (h : fr_I I) : 453 ∈ I := h 453 (by decide)
theorem i100 {I : List Nat} (h : fr_I I) : 100 ∈ I := h 100 (by decide)
theorem i102 {I : List Nat} (h : fr_I I) : 102 ∈ I := h 102 (by decide)
theorem i103 {I : List Nat} (h : fr_I I) : 103 ∈ I := h 103 (by decide)
theorem i104 {I : List Nat} (h : fr_I I) : 104 ∈ I := h 104 (by decide)
theorem i105 {I : List Nat} (h : fr_I I) : 105 ∈ I := h 105 (by decide)
theorem i108 {I : List Nat} (h : fr_I I) : 108 ∈ I := h 108 (by decide)
theorem i109 {I : List Nat} (h : fr_I I) : 109 ∈ I := h 109 (by decide)
theorem i110 {I : List Nat} (h : fr_I I) : 110 ∈ I := h 110 (by decide)
theorem i200 {I : List Nat} (h : fr_I I) : 200 ∈ I := h 200 (by decide)
theorem i201 {I : List Nat} (h : fr_I I) : 201 ∈ I := h 201 (by decide)
theorem i202 {I : List Nat} (h : fr_I I) : 202 ∈ I := h 202 (by decide)
theorem i203 {I : List Nat} (h : fr_I I) : 203 ∈ I := h 203 (by decide)
theorem i205 {I : List Nat} (h : fr_I I) : 205 ∈ I := h 205 (by decide)
theorem i210 {I : List Nat} (h : fr_I I) : 210 ∈ I := h 210 (by decide)
theorem i300 {I : List Nat} (h : fr_I I) : 300 ∈ I := h 300 (by decide)
theorem i302 {I : List Nat} (h : fr_I I) : 302 ∈ I := h 302 (by decide)
theorem i304 {I : List Nat} (h : fr_I I) : 304 ∈ I := h 304 (by decide)
theorem i305 {I : List Nat} (h : fr_I I) : 305 ∈ I := h 305 (by decide)
theorem i306 {I : List Nat} (h : fr_I I) : 306 ∈ I := h 306 (by decide)
theorem i307 {I : List Nat} (h : fr_I I) : 307 ∈ I := h 307 (by decide)
theorem i308 {I : List Nat} (h : fr_I I) : 308 ∈ I := h 308 (by decide)
theorem i310 {I : List Nat} (h : fr_I I) : 310 ∈ I := h 310 (by decide)
theorem i500 {I : List Nat} (h : fr_I I) : 500 ∈ I := h 500 (by decide)
theorem i501 {I : List Nat} (h : fr_I I) : 501 ∈ I := h 501 (by decide)
theorem i502 {I : List Nat} (h : fr_I I) : 502 ∈ I := h 502 (by decide)
theorem i600 {I : List Nat} (h : fr_I I) : 600 ∈ I := h 600 (by decide)
theorem i601 {I : List Nat} (h : fr_I I) : 601 ∈ I := h 601 (by decide)
theorem i900 {I : List Nat} (h : fr_I I) : 900 ∈ I := h 900 (by decide)
theorem i903 {I : List Nat} (h : fr_I I) : 903 ∈ I := h 903 (by decide)
theorem i906 {I : List Nat} (h : fr_I I) : 906 ∈ I := h 906 (by decide)
theorem i907 {I : List Nat} (h : fr_I I) : 907 ∈ I := h 907 (by decide)
theorem i910 {I : List Nat} (h : fr_I I) : 910 ∈ I := h 910 (by decide)
theorem i911 {I : List Nat} (h : fr_I I) : 911 ∈ I := h 911 (by decide)
theorem i912 {I : List Nat} (h : fr_I I) : 912 ∈ I := h 912 (by decide)
theorem i913 {I : List Nat} (h : fr_I I) : 913 ∈ I := h 913 (by decide)
theorem i950 {I : List Nat} (h : fr_I I) : 950 ∈ I := h 950 (by decide)
theorem i1000 {I : List Nat} (h : fr_I I) : 1000 ∈ I := h 1000 (by decide)
theorem i1010 {I : List Nat} (h : fr_I I) : 1010 ∈ I := h 1010 (by decide)
theorem i1100 {I : List Nat} (h : fr_I I) : 1100 ∈ I := h 1100 (by decide)
theorem i1101 {I : List Nat} (h : fr_I I) : 1101 ∈ I := h 1101 (by decide)
theorem i1106 {I : List Nat} (h : fr_I I) : 1106 ∈ I := h 1106 (by decide)
theorem i1107 {I : List Nat} (h : fr_I I) : 1107 ∈ I := h 1107 (by decide)
theorem i1109 {I : List Nat} (h : fr_I I) : 1109 ∈ I := h 1109 (by decide)
theorem i1110 {I : List Nat} (h : fr_I I) : 1110 ∈ I := h 1110 (by decide)
theorem i1111 {I : List Nat} (h : fr_I I) : 1111 ∈ I := h 1111 (by decide)
theorem i1112 {I : List Nat} (h : fr_I I) : 1112 ∈ I := h 1112 (by decide)
theorem i1113 {I : List Nat} (h : fr_I I) : 1113 ∈ I := h 1113 (by decide)
theorem i1114 {I : List Nat} (h : fr_I I) : 1114 ∈ I := h 1114 (by decide)
theorem i1116 {I : List Nat} (h : fr_I I) : 1116 ∈ I := h 1116 (by decide)
theorem i1118 {I : List Nat} (h : fr_I I) : 1118 ∈ I := h 1118 (by decide)
theorem i1119 {I : List Nat} (h : fr_I I) : 1119 ∈ I := h 1119 (by decide)
theorem i1120 {I : List Nat} (h : fr_I I) : 1120 ∈ I := h 1120 (by decide)
theorem i1121 {I : List Nat} (h : fr_I I) : 1121 ∈ I := h 1121 (by decide)
theorem i1122 {I : List Nat} (h : fr_I I) : 1122 ∈ I := h 1122 (by decide)
theorem i1123 {I : List Nat} (h : fr_I I) : 1123 ∈ I := h 1123 (by decide)
theorem i1131 {I : List Nat} (h : fr_I I) : 1131 ∈ I := h 1131 (by decide)
theorem i1132 {I : List Nat} (h : fr_I I) : 1132 ∈ I := h 1132 (by decide)
theorem i1133 {I : List Nat} (h : fr_I I) : 1133 ∈ I := h 1133 (by decide)
theorem i1134 {I : List Nat} (h : fr_I I) : 1134 ∈ I := h 1134 (by decide)
theorem i1135 {I : List Nat} (h : fr_I I) : 1135 ∈ I := h 1135 (by decide)
theorem i1136 {I : List Nat} (h : fr_I I) : 1136 ∈ I := h 1136 (by decide)
theorem i1137 {I : List Nat} (h : fr_I I) : 1137 ∈ I := h 1137 (by decide)
theorem i1138 {I : List Nat} (h : fr_I I) : 1138 ∈ I := h 1138 (by decide)
theorem i1141 {I : List Nat} (h : fr_I I) : 1141 ∈ I := h 1141 (by decide)
theorem i1142 {I : List Nat} (h : fr_I I) : 1142 ∈ I := h 1142 (by decide)
theorem i1145 {I : List Nat} (h : fr_I I) : 1145 ∈ I := h 1145 (by decide)
theorem i1146 {I : List Nat} (h : fr_I I) : 1146 ∈ I := h 1146 (by decide)
theorem i1147 {I : List Nat} (h : fr_I I) : 1147 ∈ I := h 1147 (by decide)
theorem i1148 {I : List Nat} (h : fr_I I) : 1148 ∈ I := h 1148 (by decide)
theorem i1152 {I : List Nat} (h : fr_I I) : 1152 ∈ I := h 1152 (by decide)
theorem i1154 {I : List Nat} (h : fr_I I) : 1154 ∈ I := h 1154 (by decide)
theorem i1155 {I : List Nat} (h : fr_I I) : 1155 ∈ I := h 1155 (by decide)
theorem i1156 {I : List Nat} (h : fr_I I) : 1156 ∈ I := h 1156 (by decide)
theorem i1157 {I : List Nat} (h : fr_I I) : 1157 ∈ I := h 1157 (by decide)
theorem i1158 {I : List Nat} (h : fr_I I) : 1158 ∈ I := h 1158 (by decide)
abbrev mX11_thrown : fr_M := (yX11_thrown, cX11_thrown, 1, (some .int), 0, 0)
abbrev mX11_feed : fr_M := (yX11_feed, cX11_feed, 8, (some .int), 0, 0)
abbrev mX11_isIn : fr_M := (yX11_isIn, cX11_isIn, 3, (some .boolean), 0, 0)
abbrev mX11_isHalf : fr_M := (yX11_isHalf, cX11_isHalf, 1, (some .boolean), 0, 0)
abbrev mX11_wrong : fr_M := (yX11_wrong, cX11_wrong, 2, (some .boolean), 0, 0)
abbrev mX11_wordAt : fr_M := (yX11_wordAt, cX11_wordAt, 8, (some .int), 0, 0)
abbrev mX11_isSmall : fr_M := (yX11_isSmall, cX11_isSmall, 2, (some .boolean), 0, 0)
abbrev mX11_isDigit : fr_M := (yX11_isDigit, cX11_isDigit, 2, (some .boolean), 0, 0)
abbrev mX11_take : fr_M := (yX11_take, cX11_take, 1, none, 1, 27)
abbrev mX11_isWord : fr_M := (yX11_isWord, cX11_isWord, 2, (some .boolean), 0, 0)
abbrev mX11_isNumber : fr_M := (yX11_isNumber, cX11_isNumber, 3, (some .boolean), 1, 21)
abbrev mX11_plain : fr_M := (yX11_plain, cX11_plain, 2, none, 0, 0)
abbrev mX11_keep : fr_M := (yX11_keep, cX11_keep, 2, none, 0, 0)
abbrev mX11_span : fr_M := (yX11_span, cX11_span, 2, (some .boolean), 2, 47)
abbrev mX11_classRow : fr_M := (yX11_classRow, cX11_classRow, 2, (some .boolean), 2, 47)
abbrev mX11_whom : fr_M := (yX11_whom, cX11_whom, 6, (some .boolean), 3, 68)
abbrev mX11_ofWhom : fr_M := (yX11_ofWhom, cX11_ofWhom, 3, (some .boolean), 4, 93)
abbrev mX11_ofNumber : fr_M := (yX11_ofNumber, cX11_ofNumber, 4, (some .boolean), 2, 47)
abbrev mX11_acts : fr_M := (yX11_acts, cX11_acts, 4, (some .int), 5, 115)
abbrev mX11_fault : fr_M := (yX11_fault, cX11_fault, 2, (some .int), 0, 0)
abbrev mX11_halves : fr_M := (yX11_halves, cX11_halves, 2, (some .int), 1, 22)
abbrev mX11_life : fr_M := (yX11_life, cX11_life, 3, (some .int), 1, 22)
abbrev mX11_isLife : fr_M := (yX11_isLife, cX11_isLife, 2, (some .boolean), 0, 0)
abbrev mX11_ageIn : fr_M := (yX11_ageIn, cX11_ageIn, 3, (some .int), 0, 0)
abbrev mX11_actOf : fr_M := (yX11_actOf, cX11_actOf, 11, (some .int), 1, 22)
abbrev mX11_mayBe : fr_M := (yX11_mayBe, cX11_mayBe, 3, (some .boolean), 2, 52)
abbrev mX11_priceOf : fr_M := (yX11_priceOf, cX11_priceOf, 3, (some .int), 2, 52)
abbrev mX11_lumpOf : fr_M := (yX11_lumpOf, cX11_lumpOf, 3, (some .int), 2, 52)
abbrev mX11_asks : fr_M := (yX11_asks, cX11_asks, 3, (some .int), 3, 74)
abbrev mX11_isHolder : fr_M := (yX11_isHolder, cX11_isHolder, 1, (some .boolean), 0, 0)
abbrev mX11_rent : fr_M := (yX11_rent, cX11_rent, 5, (some .int), 3, 74)
abbrev mX11_isRent : fr_M := (yX11_isRent, cX11_isRent, 2, (some .boolean), 0, 0)
abbrev mX11_partsOf : fr_M := (yX11_partsOf, cX11_partsOf, 6, (some .int), 0, 0)
abbrev mX11_sell : fr_M := (yX11_sell, cX11_sell, 5, (some .boolean), 1, 25)
abbrev mX11_parts : fr_M := (yX11_parts, cX11_parts, 4, (some .int), 1, 25)
abbrev mX11_told : fr_M := (yX11_told, cX11_told, 4, (some .int), 0, 0)
abbrev mX11_note : fr_M := (yX11_note, cX11_note, 4, (some .int), 1, 23)
abbrev mX11_strike : fr_M := (yX11_strike, cX11_strike, 2, (some .int), 1, 23)
abbrev mX11_know : fr_M := (yX11_know, cX11_know, 3, none, 0, 0)
abbrev mX11_isFalse : fr_M := (yX11_isFalse, cX11_isFalse, 3, (some .boolean), 0, 0)
abbrev mX11_dead : fr_M := (yX11_dead, cX11_dead, 3, (some .int), 1, 22)
abbrev mX11_holds : fr_M := (yX11_holds, cX11_holds, 3, (some .int), 1, 22)
abbrev mX11_lives : fr_M := (yX11_lives, cX11_lives, 3, (some .boolean), 0, 0)
abbrev mX11_isDue : fr_M := (yX11_isDue, cX11_isDue, 3, (some .boolean), 1, 22)
abbrev mX11_isProved : fr_M := (yX11_isProved, cX11_isProved, 5, (some .boolean), 1, 22)
abbrev mX11_pays : fr_M := (yX11_pays, cX11_pays, 5, none, 2, 53)
abbrev mX11_shares : fr_M := (yX11_shares, cX11_shares, 9, none, 1, 25)
abbrev mX11_paid : fr_M := (yX11_paid, cX11_paid, 4, (some .int), 3, 77)
abbrev mX11_got : fr_M := (yX11_got, cX11_got, 3, (some .int), 3, 77)
abbrev mX11_owedOf : fr_M := (yX11_owedOf, cX11_owedOf, 4, (some .int), 2, 44)
abbrev mX11_owed : fr_M := (yX11_owed, cX11_owed, 3, (some .int), 3, 77)
abbrev mX11_state : fr_M := (yX11_state, cX11_state, 5, (some .int), 3, 77)
abbrev mX11_sold : fr_M := (yX11_sold, cX11_sold, 4, (some .boolean), 1, 22)
abbrev mX11_groupOf : fr_M := (yX11_groupOf, cX11_groupOf, 1, (some .int), 0, 0)
abbrev mX11_years : fr_M := (yX11_years, cX11_years, 7, none, 0, 0)
abbrev mX11_lived : fr_M := (yX11_lived, cX11_lived, 5, (some .int), 0, 0)
abbrev mX11_own : fr_M := (yX11_own, cX11_own, 5, (some .int), 1, 26)
abbrev mX11_lay : fr_M := (yX11_lay, cX11_lay, 4, none, 1, 26)
abbrev mX11_liveOf : fr_M := (yX11_liveOf, cX11_liveOf, 3, (some .int), 1, 20)
abbrev mX11_yearBack : fr_M := (yX11_yearBack, cX11_yearBack, 3, (some .int), 0, 0)
abbrev mX11_worthOf : fr_M := (yX11_worthOf, cX11_worthOf, 4, (some .int), 2, 42)
abbrev mX11_bothOf : fr_M := (yX11_bothOf, cX11_bothOf, 7, (some .int), 2, 42)
abbrev mX11_worthOn : fr_M := (yX11_worthOn, cX11_worthOn, 3, (some .int), 3, 68)
abbrev mX11_worth : fr_M := (yX11_worth, cX11_worth, 4, (some .int), 4, 90)
abbrev mX11_names : fr_M := (yX11_names, cX11_names, 12, (some .int), 3, 74)
abbrev mX11_named : fr_M := (yX11_named, cX11_named, 2, (some .int), 1, 21)
abbrev mX11_riskOf : fr_M := (yX11_riskOf, cX11_riskOf, 6, (some .long), 1, 22)
abbrev mX11_look : fr_M := (yX11_look, cX11_look, 9, (some .int), 2, 47)
abbrev mX11_fails : fr_M := (yX11_fails, cX11_fails, 2, (some .long), 0, 0)
abbrev mX11_risk : fr_M := (yX11_risk, cX11_risk, 2, (some .long), 2, 47)
abbrev mX11_living : fr_M := (yX11_living, cX11_living, 2, (some .int), 1, 22)
abbrev mX11_converts : fr_M := (yX11_converts, cX11_converts, 8, (some .int), 4, 90)
abbrev mX11_count : fr_M := (yX11_count, cX11_count, 2, (some .int), 0, 0)
theorem fl_X11_7 : FL RX11 7 11 0 := FL.of rfl (by decide) (tb5 _ (List.mem_of_getElem? (i := 113) (by decide +kernel)))
theorem fl_X11_13 : FL RX11 13 11 5 := FL.of rfl (by decide) (tb5 _ (List.mem_of_getElem? (i := 118) (by decide +kernel)))
theorem fl_X11_16 : FL RX11 16 11 6 := FL.of rfl (by decide) (tb5 _ (List.mem_of_getElem? (i := 119) (by decide +kernel)))
theorem fl_X11_19 : FL RX11 19 11 8 := FL.of rfl (by decide) (tb5 _ (List.mem_of_getElem? (i := 121) (by decide +kernel)))
theorem fl_X11_22 : FL RX11 22 11 9 := FL.of rfl (by decide) (tb5 _ (List.mem_of_getElem? (i := 122) (by decide +kernel)))
theorem fl_X11_25 : FL RX11 25 11 10 := FL.of rfl (by decide) (tb5 _ (List.mem_of_getElem? (i := 123) (by decide +kernel)))
theorem fl_X11_28 : FL RX11 28 11 11 := FL.of rfl (by decide) (tb5 _ (List.mem_of_getElem? (i := 124) (by decide +kernel)))
theorem fl_X11_31 : FL RX11 31 11 12 := FL.of rfl (by decide) (tb5 _ (List.mem_of_getElem? (i := 125) (by decide +kernel)))
theorem fl_X11_34 : FL RX11 34 11 13 := FL.of rfl (by decide) (tb5 _ (List.mem_of_getElem? (i := 126) (by decide +kernel)))
theorem fl_X11_37 : FL RX11 37 11 15 := FL.of rfl (by decide) (tb5 _ (List.mem_of_getElem? (i := 128) (by decide +kernel)))
theorem fl_X11_40 : FL RX11 40 11 17 := FL.of rfl (by decide) (tb5 _ (List.mem_of_getElem? (i := 130) (by decide +kernel)))
theorem fl_X11_43 : FL RX11 43 11 18 := FL.of rfl (by decide) (tb5 _ (List.mem_of_getElem? (i := 131) (by decide +kernel)))
theorem fl_X11_46 : FL RX11 46 11 19 := FL.of rfl (by decide) (tb5 _ (List.mem_of_getElem? (i := 132) (by decide +kernel)))
theorem fl_X11_49 : FL RX11 49 11 20 := FL.of rfl (by decide) (tb5 _ (List.mem_of_getElem? (i := 133) (by decide +kernel)))
theorem fl_X11_52 : FL RX11 52 11 21 := FL.of rfl (by decide) (tb5 _ (List.mem_of_getElem? (i := 134) (by decide +kernel)))
theorem fl_X11_55 : FL RX11 55 11 22 := FL.of rfl (by decide) (tb5 _ (List.mem_of_getElem? (i := 135) (by decide +kernel)))
theorem fl_X11_58 : FL RX11 58 11 24 := FL.of rfl (by decide) (tb5 _ (List.mem_of_getElem? (i := 137) (by decide +kernel)))
theorem fl_X11_62 : FL RX11 62 11 30 := FL.of rfl (by decide) (tb5 _ (List.mem_of_getElem? (i := 143) (by decide +kernel)))
theorem fl_X11_65 : FL RX11 65 11 31 := FL.of rfl (by decide) (tb5 _ (List.mem_of_getElem? (i := 144) (by decide +kernel)))
theorem fl_X11_68 : FL RX11 68 11 32 := FL.of rfl (by decide) (tb5 _ (List.mem_of_getElem? (i := 145) (by decide +kernel)))
theorem fl_X11_71 : FL RX11 71 11 33 := FL.of rfl (by decide) (tb5 _ (List.mem_of_getElem? (i := 146) (by decide +kernel)))
theorem fl_X11_74 : FL RX11 74 11 34 := FL.of rfl (by decide) (tb5 _ (List.mem_of_getElem? (i := 147) (by decide +kernel)))
theorem fl_X11_77 : FL RX11 77 11 35 := FL.of rfl (by decide) (tb5 _ (List.mem_of_getElem? (i := 148) (by decide +kernel)))
theorem fl_X11_80 : FL RX11 80 11 36 := FL.of rfl (by decide) (tb5 _ (List.mem_of_getElem? (i := 149) (by decide +kernel)))
theorem fl_X11_83 : FL RX11 83 11 37 := FL.of rfl (by decide) (tb5 _ (List.mem_of_getElem? (i := 150) (by decide +kernel)))
theorem fl_X11_86 : FL RX11 86 11 40 := FL.of rfl (by decide) (tb5 _ (List.mem_of_getElem? (i := 153) (by decide +kernel)))
theorem fl_X11_89 : FL RX11 89 11 41 := FL.of rfl (by decide) (tb5 _ (List.mem_of_getElem? (i := 154) (by decide +kernel)))
theorem fl_X11_93 : FL RX11 93 11 44 := FL.of rfl (by decide) (tb5 _ (List.mem_of_getElem? (i := 157) (by decide +kernel)))
theorem fl_X11_96 : FL RX11 96 11 45 := FL.of rfl (by decide) (tb5 _ (List.mem_of_getElem? (i := 158) (by decide +kernel)))
theorem fl_X11_99 : FL RX11 99 11 46 := FL.of rfl (by decide) (tb5 _ (List.mem_of_getElem? (i := 159) (by decide +kernel)))
theorem fl_X11_102 : FL RX11 102 11 47 := FL.of rfl (by decide) (tb5 _ (List.mem_of_getElem? (i := 160) (by decide +kernel)))
theorem fl_X11_105 : FL RX11 105 11 51 := FL.of rfl (by decide) (tb5 _ (List.mem_of_getElem? (i := 164) (by decide +kernel)))
theorem fl_X11_108 : FL RX11 108 11 53 := FL.of rfl (by decide) (tb5 _ (List.mem_of_getElem? (i := 166) (by decide +kernel)))
theorem fl_X11_111 : FL RX11 111 11 54 := FL.of rfl (by decide) (tb5 _ (List.mem_of_getElem? (i := 167) (by decide +kernel)))
theorem fl_X11_114 : FL RX11 114 11 55 := FL.of rfl (by decide) (tb5 _ (List.mem_of_getElem? (i := 168) (by decide +kernel)))
theorem fl_X11_117 : FL RX11 117 11 56 := FL.of rfl (by decide) (tb5 _ (List.mem_of_getElem? (i := 169) (by decide +kernel)))
theorem fl_X11_120 : FL RX11 120 11 57 := FL.of rfl (by decide) (tb5 _ (List.mem_of_getElem? (i := 170) (by decide +kernel)))
theorem fl_X11_129 : FL RX11 129 11 2 := FL.of rfl (by decide) (tb5 _ (List.mem_of_getElem? (i := 115) (by decide +kernel)))
theorem fl_X11_132 : FL RX11 132 11 1 := FL.of rfl (by decide) (tb5 _ (List.mem_of_getElem? (i := 114) (by decide +kernel)))
theorem fl_X11_135 : FL RX11 135 11 23 := FL.of rfl (by decide) (tb5 _ (List.mem_of_getElem? (i := 136) (by decide +kernel)))
theorem fl_X11_138 : FL RX11 138 11 29 := FL.of rfl (by decide) (tb5 _ (List.mem_of_getElem? (i := 142) (by decide +kernel)))
theorem fl_X11_141 : FL RX11 141 11 25 := FL.of rfl (by decide) (tb5 _ (List.mem_of_getElem? (i := 138) (by decide +kernel)))
theorem fl_X11_144 : FL RX11 144 11 26 := FL.of rfl (by decide) (tb5 _ (List.mem_of_getElem? (i := 139) (by decide +kernel)))
theorem fl_X11_147 : FL RX11 147 11 27 := FL.of rfl (by decide) (tb5 _ (List.mem_of_getElem? (i := 140) (by decide +kernel)))
theorem fl_X11_158 : FL RX11 158 11 28 := FL.of rfl (by decide) (tb5 _ (List.mem_of_getElem? (i := 141) (by decide +kernel)))
theorem fl_X11_167 : FL RX11 167 11 39 := FL.of rfl (by decide) (tb5 _ (List.mem_of_getElem? (i := 152) (by decide +kernel)))
theorem fl_X11_170 : FL RX11 170 11 38 := FL.of rfl (by decide) (tb5 _ (List.mem_of_getElem? (i := 151) (by decide +kernel)))
theorem fl_X11_177 : FL RX11 177 11 42 := FL.of rfl (by decide) (tb5 _ (List.mem_of_getElem? (i := 155) (by decide +kernel)))
theorem fl_X11_186 : FL RX11 186 11 43 := FL.of rfl (by decide) (tb5 _ (List.mem_of_getElem? (i := 156) (by decide +kernel)))
theorem fl_X11_208 : FL RX11 208 11 3 := FL.of rfl (by decide) (tb5 _ (List.mem_of_getElem? (i := 116) (by decide +kernel)))
theorem fl_X11_211 : FL RX11 211 11 4 := FL.of rfl (by decide) (tb5 _ (List.mem_of_getElem? (i := 117) (by decide +kernel)))
theorem fl_X11_233 : FL RX11 233 11 7 := FL.of rfl (by decide) (tb5 _ (List.mem_of_getElem? (i := 120) (by decide +kernel)))
theorem fl_X11_239 : FL RX11 239 11 14 := FL.of rfl (by decide) (tb5 _ (List.mem_of_getElem? (i := 127) (by decide +kernel)))
theorem fl_X11_252 : FL RX11 252 11 16 := FL.of rfl (by decide) (tb5 _ (List.mem_of_getElem? (i := 129) (by decide +kernel)))
theorem fl_X11_266 : FL RX11 266 11 48 := FL.of rfl (by decide) (tb5 _ (List.mem_of_getElem? (i := 161) (by decide +kernel)))
theorem fl_X11_286 : FL RX11 286 11 49 := FL.of rfl (by decide) (tb5 _ (List.mem_of_getElem? (i := 162) (by decide +kernel)))
theorem fl_X11_289 : FL RX11 289 11 50 := FL.of rfl (by decide) (tb5 _ (List.mem_of_getElem? (i := 163) (by decide +kernel)))
theorem fl_X11_322 : FL RX11 322 11 52 := FL.of rfl (by decide) (tb5 _ (List.mem_of_getElem? (i := 165) (by decide +kernel)))
theorem ml_X11_123 : Cond.methodLink RX11 123 yX11_plain ∈ gt := gt_mem (tb5 _ (List.mem_of_getElem? (i := 105) (by decide +kernel))) rfl
theorem ml_X11_126 : Cond.methodLink RX11 126 yX11_keep ∈ gt := gt_mem (tb5 _ (List.mem_of_getElem? (i := 109) (by decide +kernel))) rfl
theorem ml_X11_150 : Cond.methodLink RX11 150 yX11_isSmall ∈ gt := gt_mem (tb6 _ (List.mem_of_getElem? (i := 64) (by decide +kernel))) rfl
theorem ml_X11_154 : Cond.methodLink RX11 154 yX11_wordAt ∈ gt := gt_mem (tb6 _ (List.mem_of_getElem? (i := 68) (by decide +kernel))) rfl
theorem ml_X11_161 : Cond.methodLink RX11 161 yX11_isDigit ∈ gt := gt_mem (tb6 _ (List.mem_of_getElem? (i := 72) (by decide +kernel))) rfl
theorem ml_X11_164 : Cond.methodLink RX11 164 yX11_wrong ∈ gt := gt_mem (tb6 _ (List.mem_of_getElem? (i := 76) (by decide +kernel))) rfl
theorem ml_X11_173 : Cond.methodLink RX11 173 yX11_isNumber ∈ gt := gt_mem (tb6 _ (List.mem_of_getElem? (i := 84) (by decide +kernel))) rfl
theorem ml_X11_180 : Cond.methodLink RX11 180 yX11_take ∈ gt := gt_mem (tb6 _ (List.mem_of_getElem? (i := 60) (by decide +kernel))) rfl
theorem ml_X11_183 : Cond.methodLink RX11 183 yX11_isWord ∈ gt := gt_mem (tb6 _ (List.mem_of_getElem? (i := 96) (by decide +kernel))) rfl
theorem ml_X11_189 : Cond.methodLink RX11 189 yX11_span ∈ gt := gt_mem (tb6 _ (List.mem_of_getElem? (i := 92) (by decide +kernel))) rfl
theorem ml_X11_192 : Cond.methodLink RX11 192 yX11_classRow ∈ gt := gt_mem (tb6 _ (List.mem_of_getElem? (i := 100) (by decide +kernel))) rfl
theorem ml_X11_195 : Cond.methodLink RX11 195 yX11_whom ∈ gt := gt_mem (tb6 _ (List.mem_of_getElem? (i := 88) (by decide +kernel))) rfl
theorem ml_X11_198 : Cond.methodLink RX11 198 yX11_ofWhom ∈ gt := gt_mem (tb6 _ (List.mem_of_getElem? (i := 80) (by decide +kernel))) rfl
theorem ml_X11_201 : Cond.methodLink RX11 201 yX11_ofNumber ∈ gt := gt_mem (tb6 _ (List.mem_of_getElem? (i := 104) (by decide +kernel))) rfl
theorem ml_X11_204 : Cond.methodLink RX11 204 yX11_isIn ∈ gt := gt_mem (tb6 _ (List.mem_of_getElem? (i := 116) (by decide +kernel))) rfl
theorem ml_X11_214 : Cond.methodLink RX11 214 yX11_ageIn ∈ gt := gt_mem (tb6 _ (List.mem_of_getElem? (i := 139) (by decide +kernel))) rfl
theorem ml_X11_217 : Cond.methodLink RX11 217 yX11_actOf ∈ gt := gt_mem (tb6 _ (List.mem_of_getElem? (i := 135) (by decide +kernel))) rfl
theorem ml_X11_221 : Cond.methodLink RX11 221 yX11_isLife ∈ gt := gt_mem (tb6 _ (List.mem_of_getElem? (i := 127) (by decide +kernel))) rfl
theorem ml_X11_224 : Cond.methodLink RX11 224 yX11_mayBe ∈ gt := gt_mem (tb6 _ (List.mem_of_getElem? (i := 131) (by decide +kernel))) rfl
theorem ml_X11_227 : Cond.methodLink RX11 227 yX11_priceOf ∈ gt := gt_mem (tb6 _ (List.mem_of_getElem? (i := 143) (by decide +kernel))) rfl
theorem ml_X11_230 : Cond.methodLink RX11 230 yX11_lumpOf ∈ gt := gt_mem (tb6 _ (List.mem_of_getElem? (i := 147) (by decide +kernel))) rfl
theorem ml_X11_236 : Cond.methodLink RX11 236 yX11_isHolder ∈ gt := gt_mem (tb6 _ (List.mem_of_getElem? (i := 155) (by decide +kernel))) rfl
theorem ml_X11_242 : Cond.methodLink RX11 242 yX11_isRent ∈ gt := gt_mem (tb6 _ (List.mem_of_getElem? (i := 162) (by decide +kernel))) rfl
theorem ml_X11_245 : Cond.methodLink RX11 245 yX11_partsOf ∈ gt := gt_mem (tb6 _ (List.mem_of_getElem? (i := 166) (by decide +kernel))) rfl
theorem ml_X11_249 : Cond.methodLink RX11 249 yX11_isHalf ∈ gt := gt_mem (tb6 _ (List.mem_of_getElem? (i := 174) (by decide +kernel))) rfl
theorem ml_X11_255 : Cond.methodLink RX11 255 yX11_told ∈ gt := gt_mem (tb6 _ (List.mem_of_getElem? (i := 181) (by decide +kernel))) rfl
theorem ml_X11_257 : Cond.methodLink RX11 257 yX11_know ∈ gt := gt_mem (tb6 _ (List.mem_of_getElem? (i := 193) (by decide +kernel))) rfl
theorem ml_X11_261 : Cond.methodLink RX11 261 yX11_isFalse ∈ gt := gt_mem (tb6 _ (List.mem_of_getElem? (i := 201) (by decide +kernel))) rfl
theorem ml_X11_264 : Cond.methodLink RX11 264 yX11_lives ∈ gt := gt_mem (tb6 _ (List.mem_of_getElem? (i := 217) (by decide +kernel))) rfl
theorem ml_X11_269 : Cond.methodLink RX11 269 yX11_isDue ∈ gt := gt_mem (tb6 _ (List.mem_of_getElem? (i := 213) (by decide +kernel))) rfl
theorem ml_X11_272 : Cond.methodLink RX11 272 yX11_isProved ∈ gt := gt_mem (tb6 _ (List.mem_of_getElem? (i := 221) (by decide +kernel))) rfl
theorem ml_X11_275 : Cond.methodLink RX11 275 yX11_shares ∈ gt := gt_mem (tb6 _ (List.mem_of_getElem? (i := 225) (by decide +kernel))) rfl
theorem ml_X11_279 : Cond.methodLink RX11 279 yX11_pays ∈ gt := gt_mem (tb6 _ (List.mem_of_getElem? (i := 209) (by decide +kernel))) rfl
theorem ml_X11_282 : Cond.methodLink RX11 282 yX11_owedOf ∈ gt := gt_mem (tb6 _ (List.mem_of_getElem? (i := 237) (by decide +kernel))) rfl
theorem ml_X11_292 : Cond.methodLink RX11 292 yX11_years ∈ gt := gt_mem (tb7 _ (List.mem_of_getElem? (i := 13) (by decide +kernel))) rfl
theorem ml_X11_296 : Cond.methodLink RX11 296 yX11_lived ∈ gt := gt_mem (tb7 _ (List.mem_of_getElem? (i := 17) (by decide +kernel))) rfl
theorem ml_X11_299 : Cond.methodLink RX11 299 yX11_groupOf ∈ gt := gt_mem (tb7 _ (List.mem_of_getElem? (i := 41) (by decide +kernel))) rfl
theorem ml_X11_302 : Cond.methodLink RX11 302 yX11_liveOf ∈ gt := gt_mem (tb7 _ (List.mem_of_getElem? (i := 37) (by decide +kernel))) rfl
theorem ml_X11_305 : Cond.methodLink RX11 305 yX11_yearBack ∈ gt := gt_mem (tb7 _ (List.mem_of_getElem? (i := 44) (by decide +kernel))) rfl
theorem ml_X11_308 : Cond.methodLink RX11 308 yX11_worthOf ∈ gt := gt_mem (tb7 _ (List.mem_of_getElem? (i := 33) (by decide +kernel))) rfl
theorem ml_X11_311 : Cond.methodLink RX11 311 yX11_bothOf ∈ gt := gt_mem (tb7 _ (List.mem_of_getElem? (i := 48) (by decide +kernel))) rfl
theorem ml_X11_314 : Cond.methodLink RX11 314 yX11_lay ∈ gt := gt_mem (tb7 _ (List.mem_of_getElem? (i := 25) (by decide +kernel))) rfl
theorem ml_X11_317 : Cond.methodLink RX11 317 yX11_worthOn ∈ gt := gt_mem (tb7 _ (List.mem_of_getElem? (i := 29) (by decide +kernel))) rfl
theorem ml_X11_326 : Cond.methodLink RX11 326 yX11_riskOf ∈ gt := gt_mem (tb7 _ (List.mem_of_getElem? (i := 66) (by decide +kernel))) rfl
theorem ml_X11_330 : Cond.methodLink RX11 330 yX11_fails ∈ gt := gt_mem (tb7 _ (List.mem_of_getElem? (i := 74) (by decide +kernel))) rfl
theorem ml_X11_333 : Cond.methodLink RX11 333 yX11_living ∈ gt := gt_mem (tb7 _ (List.mem_of_getElem? (i := 82) (by decide +kernel))) rfl
theorem ok_X11_thrown : MOK mX11_thrown 0 := ⟨gt_mem (tb6 _ (List.mem_of_getElem? (i := 51) (by decide +kernel))) rfl, gt_mem (tb1 _ (List.mem_of_getElem? (i := 11) (by decide +kernel))) rfl, by decide +kernel⟩
theorem iv_X11_thrown : Cond.instanceMethod yX11_thrown ∈ gt ∧ Cond.selects RX11 yX11_thrown yX11_thrown ∈ gt := ⟨gt_mem (tb6 _ (List.mem_of_getElem? (i := 49) (by decide +kernel))) rfl, gt_mem (tb6 _ (List.mem_of_getElem? (i := 50) (by decide +kernel))) rfl⟩
theorem ok_X11_feed : MOK mX11_feed 5 := ⟨gt_mem (tb6 _ (List.mem_of_getElem? (i := 55) (by decide +kernel))) rfl, gt_mem (tb1 _ (List.mem_of_getElem? (i := 11) (by decide +kernel))) rfl, by decide +kernel⟩
theorem iv_X11_feed : Cond.instanceMethod yX11_feed ∈ gt ∧ Cond.selects RX11 yX11_feed yX11_feed ∈ gt := ⟨gt_mem (tb6 _ (List.mem_of_getElem? (i := 53) (by decide +kernel))) rfl, gt_mem (tb6 _ (List.mem_of_getElem? (i := 54) (by decide +kernel))) rfl⟩
theorem ok_X11_isIn : MOK mX11_isIn 3 := ⟨gt_mem (tb6 _ (List.mem_of_getElem? (i := 118) (by decide +kernel))) rfl, gt_mem (tb1 _ (List.mem_of_getElem? (i := 11) (by decide +kernel))) rfl, by decide +kernel⟩
theorem iv_X11_isIn : Cond.static yX11_isIn ∈ gt := gt_mem (tb6 _ (List.mem_of_getElem? (i := 117) (by decide +kernel))) rfl
theorem ok_X11_isHalf : MOK mX11_isHalf 1 := ⟨gt_mem (tb6 _ (List.mem_of_getElem? (i := 176) (by decide +kernel))) rfl, gt_mem (tb1 _ (List.mem_of_getElem? (i := 11) (by decide +kernel))) rfl, by decide +kernel⟩
theorem iv_X11_isHalf : Cond.static yX11_isHalf ∈ gt := gt_mem (tb6 _ (List.mem_of_getElem? (i := 175) (by decide +kernel))) rfl
theorem ok_X11_wrong : MOK mX11_wrong 1 := ⟨gt_mem (tb6 _ (List.mem_of_getElem? (i := 79) (by decide +kernel))) rfl, gt_mem (tb1 _ (List.mem_of_getElem? (i := 11) (by decide +kernel))) rfl, by decide +kernel⟩
theorem iv_X11_wrong : Cond.instanceMethod yX11_wrong ∈ gt ∧ Cond.selects RX11 yX11_wrong yX11_wrong ∈ gt := ⟨gt_mem (tb6 _ (List.mem_of_getElem? (i := 78) (by decide +kernel))) rfl, gt_mem (List.mem_append_left _ (List.mem_of_getElem? (i := 41) (by decide +kernel))) rfl⟩
theorem ok_X11_wordAt : MOK mX11_wordAt 2 := ⟨gt_mem (tb6 _ (List.mem_of_getElem? (i := 71) (by decide +kernel))) rfl, gt_mem (tb1 _ (List.mem_of_getElem? (i := 11) (by decide +kernel))) rfl, by decide +kernel⟩
theorem iv_X11_wordAt : Cond.instanceMethod yX11_wordAt ∈ gt ∧ Cond.selects RX11 yX11_wordAt yX11_wordAt ∈ gt := ⟨gt_mem (tb6 _ (List.mem_of_getElem? (i := 70) (by decide +kernel))) rfl, gt_mem (List.mem_append_left _ (List.mem_of_getElem? (i := 39) (by decide +kernel))) rfl⟩
theorem ok_X11_isSmall : MOK mX11_isSmall 1 := ⟨gt_mem (tb6 _ (List.mem_of_getElem? (i := 67) (by decide +kernel))) rfl, gt_mem (tb1 _ (List.mem_of_getElem? (i := 11) (by decide +kernel))) rfl, by decide +kernel⟩
theorem iv_X11_isSmall : Cond.instanceMethod yX11_isSmall ∈ gt ∧ Cond.selects RX11 yX11_isSmall yX11_isSmall ∈ gt := ⟨gt_mem (tb6 _ (List.mem_of_getElem? (i := 66) (by decide +kernel))) rfl, gt_mem (List.mem_append_left _ (List.mem_of_getElem? (i := 38) (by decide +kernel))) rfl⟩
theorem ok_X11_isDigit : MOK mX11_isDigit 1 := ⟨gt_mem (tb6 _ (List.mem_of_getElem? (i := 75) (by decide +kernel))) rfl, gt_mem (tb1 _ (List.mem_of_getElem? (i := 11) (by decide +kernel))) rfl, by decide +kernel⟩
theorem iv_X11_isDigit : Cond.instanceMethod yX11_isDigit ∈ gt ∧ Cond.selects RX11 yX11_isDigit yX11_isDigit ∈ gt := ⟨gt_mem (tb6 _ (List.mem_of_getElem? (i := 74) (by decide +kernel))) rfl, gt_mem (List.mem_append_left _ (List.mem_of_getElem? (i := 40) (by decide +kernel))) rfl⟩
theorem ok_X11_take : MOK mX11_take 0 := ⟨gt_mem (tb6 _ (List.mem_of_getElem? (i := 63) (by decide +kernel))) rfl, gt_mem (tb1 _ (List.mem_of_getElem? (i := 11) (by decide +kernel))) rfl, by decide +kernel⟩
theorem iv_X11_take : Cond.instanceMethod yX11_take ∈ gt ∧ Cond.selects RX11 yX11_take yX11_take ∈ gt := ⟨gt_mem (tb6 _ (List.mem_of_getElem? (i := 62) (by decide +kernel))) rfl, gt_mem (List.mem_append_left _ (List.mem_of_getElem? (i := 37) (by decide +kernel))) rfl⟩
theorem ok_X11_isWord : MOK mX11_isWord 1 := ⟨gt_mem (tb6 _ (List.mem_of_getElem? (i := 99) (by decide +kernel))) rfl, gt_mem (tb1 _ (List.mem_of_getElem? (i := 11) (by decide +kernel))) rfl, by decide +kernel⟩
theorem iv_X11_isWord : Cond.instanceMethod yX11_isWord ∈ gt ∧ Cond.selects RX11 yX11_isWord yX11_isWord ∈ gt := ⟨gt_mem (tb6 _ (List.mem_of_getElem? (i := 98) (by decide +kernel))) rfl, gt_mem (List.mem_append_left _ (List.mem_of_getElem? (i := 46) (by decide +kernel))) rfl⟩
theorem ok_X11_isNumber : MOK mX11_isNumber 2 := ⟨gt_mem (tb6 _ (List.mem_of_getElem? (i := 87) (by decide +kernel))) rfl, gt_mem (tb1 _ (List.mem_of_getElem? (i := 11) (by decide +kernel))) rfl, by decide +kernel⟩
theorem iv_X11_isNumber : Cond.instanceMethod yX11_isNumber ∈ gt ∧ Cond.selects RX11 yX11_isNumber yX11_isNumber ∈ gt := ⟨gt_mem (tb6 _ (List.mem_of_getElem? (i := 86) (by decide +kernel))) rfl, gt_mem (List.mem_append_left _ (List.mem_of_getElem? (i := 43) (by decide +kernel))) rfl⟩
theorem ok_X11_plain : MOK mX11_plain 0 := ⟨gt_mem (tb5 _ (List.mem_of_getElem? (i := 108) (by decide +kernel))) rfl, gt_mem (tb1 _ (List.mem_of_getElem? (i := 11) (by decide +kernel))) rfl, by decide +kernel⟩
theorem iv_X11_plain : Cond.instanceMethod yX11_plain ∈ gt ∧ Cond.selects RX11 yX11_plain yX11_plain ∈ gt := ⟨gt_mem (tb5 _ (List.mem_of_getElem? (i := 107) (by decide +kernel))) rfl, gt_mem (List.mem_append_left _ (List.mem_of_getElem? (i := 35) (by decide +kernel))) rfl⟩
theorem ok_X11_keep : MOK mX11_keep 0 := ⟨gt_mem (tb5 _ (List.mem_of_getElem? (i := 112) (by decide +kernel))) rfl, gt_mem (tb1 _ (List.mem_of_getElem? (i := 11) (by decide +kernel))) rfl, by decide +kernel⟩
theorem iv_X11_keep : Cond.instanceMethod yX11_keep ∈ gt ∧ Cond.selects RX11 yX11_keep yX11_keep ∈ gt := ⟨gt_mem (tb5 _ (List.mem_of_getElem? (i := 111) (by decide +kernel))) rfl, gt_mem (List.mem_append_left _ (List.mem_of_getElem? (i := 36) (by decide +kernel))) rfl⟩
theorem ok_X11_span : MOK mX11_span 1 := ⟨gt_mem (tb6 _ (List.mem_of_getElem? (i := 95) (by decide +kernel))) rfl, gt_mem (tb1 _ (List.mem_of_getElem? (i := 11) (by decide +kernel))) rfl, by decide +kernel⟩
theorem iv_X11_span : Cond.instanceMethod yX11_span ∈ gt ∧ Cond.selects RX11 yX11_span yX11_span ∈ gt := ⟨gt_mem (tb6 _ (List.mem_of_getElem? (i := 94) (by decide +kernel))) rfl, gt_mem (List.mem_append_left _ (List.mem_of_getElem? (i := 45) (by decide +kernel))) rfl⟩
theorem ok_X11_classRow : MOK mX11_classRow 1 := ⟨gt_mem (tb6 _ (List.mem_of_getElem? (i := 103) (by decide +kernel))) rfl, gt_mem (tb1 _ (List.mem_of_getElem? (i := 11) (by decide +kernel))) rfl, by decide +kernel⟩
theorem iv_X11_classRow : Cond.instanceMethod yX11_classRow ∈ gt ∧ Cond.selects RX11 yX11_classRow yX11_classRow ∈ gt := ⟨gt_mem (tb6 _ (List.mem_of_getElem? (i := 102) (by decide +kernel))) rfl, gt_mem (List.mem_append_left _ (List.mem_of_getElem? (i := 47) (by decide +kernel))) rfl⟩
theorem ok_X11_whom : MOK mX11_whom 1 := ⟨gt_mem (tb6 _ (List.mem_of_getElem? (i := 91) (by decide +kernel))) rfl, gt_mem (tb1 _ (List.mem_of_getElem? (i := 11) (by decide +kernel))) rfl, by decide +kernel⟩
theorem iv_X11_whom : Cond.instanceMethod yX11_whom ∈ gt ∧ Cond.selects RX11 yX11_whom yX11_whom ∈ gt := ⟨gt_mem (tb6 _ (List.mem_of_getElem? (i := 90) (by decide +kernel))) rfl, gt_mem (List.mem_append_left _ (List.mem_of_getElem? (i := 44) (by decide +kernel))) rfl⟩
theorem ok_X11_ofWhom : MOK mX11_ofWhom 1 := ⟨gt_mem (tb6 _ (List.mem_of_getElem? (i := 83) (by decide +kernel))) rfl, gt_mem (tb1 _ (List.mem_of_getElem? (i := 11) (by decide +kernel))) rfl, by decide +kernel⟩
theorem iv_X11_ofWhom : Cond.instanceMethod yX11_ofWhom ∈ gt ∧ Cond.selects RX11 yX11_ofWhom yX11_ofWhom ∈ gt := ⟨gt_mem (tb6 _ (List.mem_of_getElem? (i := 82) (by decide +kernel))) rfl, gt_mem (List.mem_append_left _ (List.mem_of_getElem? (i := 42) (by decide +kernel))) rfl⟩
theorem ok_X11_ofNumber : MOK mX11_ofNumber 1 := ⟨gt_mem (tb6 _ (List.mem_of_getElem? (i := 107) (by decide +kernel))) rfl, gt_mem (tb1 _ (List.mem_of_getElem? (i := 11) (by decide +kernel))) rfl, by decide +kernel⟩
theorem iv_X11_ofNumber : Cond.instanceMethod yX11_ofNumber ∈ gt ∧ Cond.selects RX11 yX11_ofNumber yX11_ofNumber ∈ gt := ⟨gt_mem (tb6 _ (List.mem_of_getElem? (i := 106) (by decide +kernel))) rfl, gt_mem (List.mem_append_left _ (List.mem_of_getElem? (i := 48) (by decide +kernel))) rfl⟩
theorem ok_X11_acts : MOK mX11_acts 1 := ⟨gt_mem (tb6 _ (List.mem_of_getElem? (i := 59) (by decide +kernel))) rfl, gt_mem (tb1 _ (List.mem_of_getElem? (i := 11) (by decide +kernel))) rfl, by decide +kernel⟩
theorem iv_X11_acts : Cond.instanceMethod yX11_acts ∈ gt ∧ Cond.selects RX11 yX11_acts yX11_acts ∈ gt := ⟨gt_mem (tb6 _ (List.mem_of_getElem? (i := 57) (by decide +kernel))) rfl, gt_mem (tb6 _ (List.mem_of_getElem? (i := 58) (by decide +kernel))) rfl⟩
theorem ok_X11_fault : MOK mX11_fault 1 := ⟨gt_mem (tb6 _ (List.mem_of_getElem? (i := 111) (by decide +kernel))) rfl, gt_mem (tb1 _ (List.mem_of_getElem? (i := 11) (by decide +kernel))) rfl, by decide +kernel⟩
theorem iv_X11_fault : Cond.instanceMethod yX11_fault ∈ gt ∧ Cond.selects RX11 yX11_fault yX11_fault ∈ gt := ⟨gt_mem (tb6 _ (List.mem_of_getElem? (i := 109) (by decide +kernel))) rfl, gt_mem (tb6 _ (List.mem_of_getElem? (i := 110) (by decide +kernel))) rfl⟩
theorem ok_X11_halves : MOK mX11_halves 1 := ⟨gt_mem (tb6 _ (List.mem_of_getElem? (i := 115) (by decide +kernel))) rfl, gt_mem (tb1 _ (List.mem_of_getElem? (i := 11) (by decide +kernel))) rfl, by decide +kernel⟩
theorem iv_X11_halves : Cond.instanceMethod yX11_halves ∈ gt ∧ Cond.selects RX11 yX11_halves yX11_halves ∈ gt := ⟨gt_mem (tb6 _ (List.mem_of_getElem? (i := 113) (by decide +kernel))) rfl, gt_mem (tb6 _ (List.mem_of_getElem? (i := 114) (by decide +kernel))) rfl⟩
theorem ok_X11_life : MOK mX11_life 2 := ⟨gt_mem (tb6 _ (List.mem_of_getElem? (i := 122) (by decide +kernel))) rfl, gt_mem (tb1 _ (List.mem_of_getElem? (i := 11) (by decide +kernel))) rfl, by decide +kernel⟩
theorem iv_X11_life : Cond.instanceMethod yX11_life ∈ gt ∧ Cond.selects RX11 yX11_life yX11_life ∈ gt := ⟨gt_mem (tb6 _ (List.mem_of_getElem? (i := 120) (by decide +kernel))) rfl, gt_mem (tb6 _ (List.mem_of_getElem? (i := 121) (by decide +kernel))) rfl⟩
theorem ok_X11_isLife : MOK mX11_isLife 1 := ⟨gt_mem (tb6 _ (List.mem_of_getElem? (i := 130) (by decide +kernel))) rfl, gt_mem (tb1 _ (List.mem_of_getElem? (i := 11) (by decide +kernel))) rfl, by decide +kernel⟩
theorem iv_X11_isLife : Cond.instanceMethod yX11_isLife ∈ gt ∧ Cond.selects RX11 yX11_isLife yX11_isLife ∈ gt := ⟨gt_mem (tb6 _ (List.mem_of_getElem? (i := 129) (by decide +kernel))) rfl, gt_mem (List.mem_append_left _ (List.mem_of_getElem? (i := 49) (by decide +kernel))) rfl⟩
theorem ok_X11_ageIn : MOK mX11_ageIn 2 := ⟨gt_mem (tb6 _ (List.mem_of_getElem? (i := 142) (by decide +kernel))) rfl, gt_mem (tb1 _ (List.mem_of_getElem? (i := 11) (by decide +kernel))) rfl, by decide +kernel⟩
theorem iv_X11_ageIn : Cond.instanceMethod yX11_ageIn ∈ gt ∧ Cond.selects RX11 yX11_ageIn yX11_ageIn ∈ gt := ⟨gt_mem (tb6 _ (List.mem_of_getElem? (i := 141) (by decide +kernel))) rfl, gt_mem (List.mem_append_left _ (List.mem_of_getElem? (i := 52) (by decide +kernel))) rfl⟩
theorem ok_X11_actOf : MOK mX11_actOf 5 := ⟨gt_mem (tb6 _ (List.mem_of_getElem? (i := 138) (by decide +kernel))) rfl, gt_mem (tb1 _ (List.mem_of_getElem? (i := 11) (by decide +kernel))) rfl, by decide +kernel⟩
theorem iv_X11_actOf : Cond.instanceMethod yX11_actOf ∈ gt ∧ Cond.selects RX11 yX11_actOf yX11_actOf ∈ gt := ⟨gt_mem (tb6 _ (List.mem_of_getElem? (i := 137) (by decide +kernel))) rfl, gt_mem (List.mem_append_left _ (List.mem_of_getElem? (i := 51) (by decide +kernel))) rfl⟩
theorem ok_X11_mayBe : MOK mX11_mayBe 2 := ⟨gt_mem (tb6 _ (List.mem_of_getElem? (i := 134) (by decide +kernel))) rfl, gt_mem (tb1 _ (List.mem_of_getElem? (i := 11) (by decide +kernel))) rfl, by decide +kernel⟩
theorem iv_X11_mayBe : Cond.instanceMethod yX11_mayBe ∈ gt ∧ Cond.selects RX11 yX11_mayBe yX11_mayBe ∈ gt := ⟨gt_mem (tb6 _ (List.mem_of_getElem? (i := 133) (by decide +kernel))) rfl, gt_mem (List.mem_append_left _ (List.mem_of_getElem? (i := 50) (by decide +kernel))) rfl⟩
theorem ok_X11_priceOf : MOK mX11_priceOf 2 := ⟨gt_mem (tb6 _ (List.mem_of_getElem? (i := 146) (by decide +kernel))) rfl, gt_mem (tb1 _ (List.mem_of_getElem? (i := 11) (by decide +kernel))) rfl, by decide +kernel⟩
theorem iv_X11_priceOf : Cond.instanceMethod yX11_priceOf ∈ gt ∧ Cond.selects RX11 yX11_priceOf yX11_priceOf ∈ gt := ⟨gt_mem (tb6 _ (List.mem_of_getElem? (i := 145) (by decide +kernel))) rfl, gt_mem (List.mem_append_left _ (List.mem_of_getElem? (i := 53) (by decide +kernel))) rfl⟩
theorem ok_X11_lumpOf : MOK mX11_lumpOf 2 := ⟨gt_mem (tb6 _ (List.mem_of_getElem? (i := 150) (by decide +kernel))) rfl, gt_mem (tb1 _ (List.mem_of_getElem? (i := 11) (by decide +kernel))) rfl, by decide +kernel⟩
theorem iv_X11_lumpOf : Cond.instanceMethod yX11_lumpOf ∈ gt ∧ Cond.selects RX11 yX11_lumpOf yX11_lumpOf ∈ gt := ⟨gt_mem (tb6 _ (List.mem_of_getElem? (i := 149) (by decide +kernel))) rfl, gt_mem (List.mem_append_left _ (List.mem_of_getElem? (i := 54) (by decide +kernel))) rfl⟩
theorem ok_X11_asks : MOK mX11_asks 2 := ⟨gt_mem (tb6 _ (List.mem_of_getElem? (i := 126) (by decide +kernel))) rfl, gt_mem (tb1 _ (List.mem_of_getElem? (i := 11) (by decide +kernel))) rfl, by decide +kernel⟩
theorem iv_X11_asks : Cond.instanceMethod yX11_asks ∈ gt ∧ Cond.selects RX11 yX11_asks yX11_asks ∈ gt := ⟨gt_mem (tb6 _ (List.mem_of_getElem? (i := 124) (by decide +kernel))) rfl, gt_mem (tb6 _ (List.mem_of_getElem? (i := 125) (by decide +kernel))) rfl⟩
theorem ok_X11_isHolder : MOK mX11_isHolder 1 := ⟨gt_mem (tb6 _ (List.mem_of_getElem? (i := 157) (by decide +kernel))) rfl, gt_mem (tb1 _ (List.mem_of_getElem? (i := 11) (by decide +kernel))) rfl, by decide +kernel⟩
theorem iv_X11_isHolder : Cond.static yX11_isHolder ∈ gt := gt_mem (tb6 _ (List.mem_of_getElem? (i := 156) (by decide +kernel))) rfl
theorem ok_X11_rent : MOK mX11_rent 4 := ⟨gt_mem (tb6 _ (List.mem_of_getElem? (i := 154) (by decide +kernel))) rfl, gt_mem (tb1 _ (List.mem_of_getElem? (i := 11) (by decide +kernel))) rfl, by decide +kernel⟩
theorem iv_X11_rent : Cond.instanceMethod yX11_rent ∈ gt ∧ Cond.selects RX11 yX11_rent yX11_rent ∈ gt := ⟨gt_mem (tb6 _ (List.mem_of_getElem? (i := 152) (by decide +kernel))) rfl, gt_mem (tb6 _ (List.mem_of_getElem? (i := 153) (by decide +kernel))) rfl⟩
theorem ok_X11_isRent : MOK mX11_isRent 1 := ⟨gt_mem (tb6 _ (List.mem_of_getElem? (i := 165) (by decide +kernel))) rfl, gt_mem (tb1 _ (List.mem_of_getElem? (i := 11) (by decide +kernel))) rfl, by decide +kernel⟩
theorem iv_X11_isRent : Cond.instanceMethod yX11_isRent ∈ gt ∧ Cond.selects RX11 yX11_isRent yX11_isRent ∈ gt := ⟨gt_mem (tb6 _ (List.mem_of_getElem? (i := 164) (by decide +kernel))) rfl, gt_mem (List.mem_append_left _ (List.mem_of_getElem? (i := 55) (by decide +kernel))) rfl⟩
theorem ok_X11_partsOf : MOK mX11_partsOf 3 := ⟨gt_mem (tb6 _ (List.mem_of_getElem? (i := 169) (by decide +kernel))) rfl, gt_mem (tb1 _ (List.mem_of_getElem? (i := 11) (by decide +kernel))) rfl, by decide +kernel⟩
theorem iv_X11_partsOf : Cond.instanceMethod yX11_partsOf ∈ gt ∧ Cond.selects RX11 yX11_partsOf yX11_partsOf ∈ gt := ⟨gt_mem (tb6 _ (List.mem_of_getElem? (i := 168) (by decide +kernel))) rfl, gt_mem (List.mem_append_left _ (List.mem_of_getElem? (i := 56) (by decide +kernel))) rfl⟩
theorem ok_X11_sell : MOK mX11_sell 4 := ⟨gt_mem (tb6 _ (List.mem_of_getElem? (i := 161) (by decide +kernel))) rfl, gt_mem (tb1 _ (List.mem_of_getElem? (i := 11) (by decide +kernel))) rfl, by decide +kernel⟩
theorem iv_X11_sell : Cond.instanceMethod yX11_sell ∈ gt ∧ Cond.selects RX11 yX11_sell yX11_sell ∈ gt := ⟨gt_mem (tb6 _ (List.mem_of_getElem? (i := 159) (by decide +kernel))) rfl, gt_mem (tb6 _ (List.mem_of_getElem? (i := 160) (by decide +kernel))) rfl⟩
theorem ok_X11_parts : MOK mX11_parts 3 := ⟨gt_mem (tb6 _ (List.mem_of_getElem? (i := 173) (by decide +kernel))) rfl, gt_mem (tb1 _ (List.mem_of_getElem? (i := 11) (by decide +kernel))) rfl, by decide +kernel⟩
theorem iv_X11_parts : Cond.instanceMethod yX11_parts ∈ gt ∧ Cond.selects RX11 yX11_parts yX11_parts ∈ gt := ⟨gt_mem (tb6 _ (List.mem_of_getElem? (i := 171) (by decide +kernel))) rfl, gt_mem (tb6 _ (List.mem_of_getElem? (i := 172) (by decide +kernel))) rfl⟩
theorem ok_X11_told : MOK mX11_told 3 := ⟨gt_mem (tb6 _ (List.mem_of_getElem? (i := 184) (by decide +kernel))) rfl, gt_mem (tb1 _ (List.mem_of_getElem? (i := 11) (by decide +kernel))) rfl, by decide +kernel⟩
theorem iv_X11_told : Cond.instanceMethod yX11_told ∈ gt ∧ Cond.selects RX11 yX11_told yX11_told ∈ gt := ⟨gt_mem (tb6 _ (List.mem_of_getElem? (i := 183) (by decide +kernel))) rfl, gt_mem (List.mem_append_left _ (List.mem_of_getElem? (i := 57) (by decide +kernel))) rfl⟩
theorem ok_X11_note : MOK mX11_note 3 := ⟨gt_mem (tb6 _ (List.mem_of_getElem? (i := 180) (by decide +kernel))) rfl, gt_mem (tb1 _ (List.mem_of_getElem? (i := 11) (by decide +kernel))) rfl, by decide +kernel⟩
theorem iv_X11_note : Cond.instanceMethod yX11_note ∈ gt ∧ Cond.selects RX11 yX11_note yX11_note ∈ gt := ⟨gt_mem (tb6 _ (List.mem_of_getElem? (i := 178) (by decide +kernel))) rfl, gt_mem (tb6 _ (List.mem_of_getElem? (i := 179) (by decide +kernel))) rfl⟩
theorem ok_X11_strike : MOK mX11_strike 1 := ⟨gt_mem (tb6 _ (List.mem_of_getElem? (i := 188) (by decide +kernel))) rfl, gt_mem (tb1 _ (List.mem_of_getElem? (i := 11) (by decide +kernel))) rfl, by decide +kernel⟩
theorem iv_X11_strike : Cond.instanceMethod yX11_strike ∈ gt ∧ Cond.selects RX11 yX11_strike yX11_strike ∈ gt := ⟨gt_mem (tb6 _ (List.mem_of_getElem? (i := 186) (by decide +kernel))) rfl, gt_mem (tb6 _ (List.mem_of_getElem? (i := 187) (by decide +kernel))) rfl⟩
theorem ok_X11_know : MOK mX11_know 1 := ⟨gt_mem (tb6 _ (List.mem_of_getElem? (i := 196) (by decide +kernel))) rfl, gt_mem (tb1 _ (List.mem_of_getElem? (i := 11) (by decide +kernel))) rfl, by decide +kernel⟩
theorem iv_X11_know : Cond.instanceMethod yX11_know ∈ gt ∧ Cond.selects RX11 yX11_know yX11_know ∈ gt := ⟨gt_mem (tb6 _ (List.mem_of_getElem? (i := 195) (by decide +kernel))) rfl, gt_mem (List.mem_append_left _ (List.mem_of_getElem? (i := 58) (by decide +kernel))) rfl⟩
theorem ok_X11_isFalse : MOK mX11_isFalse 1 := ⟨gt_mem (tb6 _ (List.mem_of_getElem? (i := 204) (by decide +kernel))) rfl, gt_mem (tb1 _ (List.mem_of_getElem? (i := 11) (by decide +kernel))) rfl, by decide +kernel⟩
theorem iv_X11_isFalse : Cond.instanceMethod yX11_isFalse ∈ gt ∧ Cond.selects RX11 yX11_isFalse yX11_isFalse ∈ gt := ⟨gt_mem (tb6 _ (List.mem_of_getElem? (i := 203) (by decide +kernel))) rfl, gt_mem (List.mem_append_left _ (List.mem_of_getElem? (i := 59) (by decide +kernel))) rfl⟩
theorem ok_X11_dead : MOK mX11_dead 2 := ⟨gt_mem (tb6 _ (List.mem_of_getElem? (i := 192) (by decide +kernel))) rfl, gt_mem (tb1 _ (List.mem_of_getElem? (i := 11) (by decide +kernel))) rfl, by decide +kernel⟩
theorem iv_X11_dead : Cond.instanceMethod yX11_dead ∈ gt ∧ Cond.selects RX11 yX11_dead yX11_dead ∈ gt := ⟨gt_mem (tb6 _ (List.mem_of_getElem? (i := 190) (by decide +kernel))) rfl, gt_mem (tb6 _ (List.mem_of_getElem? (i := 191) (by decide +kernel))) rfl⟩
theorem ok_X11_holds : MOK mX11_holds 2 := ⟨gt_mem (tb6 _ (List.mem_of_getElem? (i := 200) (by decide +kernel))) rfl, gt_mem (tb1 _ (List.mem_of_getElem? (i := 11) (by decide +kernel))) rfl, by decide +kernel⟩
theorem iv_X11_holds : Cond.instanceMethod yX11_holds ∈ gt ∧ Cond.selects RX11 yX11_holds yX11_holds ∈ gt := ⟨gt_mem (tb6 _ (List.mem_of_getElem? (i := 198) (by decide +kernel))) rfl, gt_mem (tb6 _ (List.mem_of_getElem? (i := 199) (by decide +kernel))) rfl⟩
theorem ok_X11_lives : MOK mX11_lives 2 := ⟨gt_mem (tb6 _ (List.mem_of_getElem? (i := 220) (by decide +kernel))) rfl, gt_mem (tb1 _ (List.mem_of_getElem? (i := 11) (by decide +kernel))) rfl, by decide +kernel⟩
theorem iv_X11_lives : Cond.instanceMethod yX11_lives ∈ gt ∧ Cond.selects RX11 yX11_lives yX11_lives ∈ gt := ⟨gt_mem (tb6 _ (List.mem_of_getElem? (i := 219) (by decide +kernel))) rfl, gt_mem (List.mem_append_left _ (List.mem_of_getElem? (i := 62) (by decide +kernel))) rfl⟩
theorem ok_X11_isDue : MOK mX11_isDue 2 := ⟨gt_mem (tb6 _ (List.mem_of_getElem? (i := 216) (by decide +kernel))) rfl, gt_mem (tb1 _ (List.mem_of_getElem? (i := 11) (by decide +kernel))) rfl, by decide +kernel⟩
theorem iv_X11_isDue : Cond.instanceMethod yX11_isDue ∈ gt ∧ Cond.selects RX11 yX11_isDue yX11_isDue ∈ gt := ⟨gt_mem (tb6 _ (List.mem_of_getElem? (i := 215) (by decide +kernel))) rfl, gt_mem (List.mem_append_left _ (List.mem_of_getElem? (i := 61) (by decide +kernel))) rfl⟩
theorem ok_X11_isProved : MOK mX11_isProved 2 := ⟨gt_mem (tb6 _ (List.mem_of_getElem? (i := 224) (by decide +kernel))) rfl, gt_mem (tb1 _ (List.mem_of_getElem? (i := 11) (by decide +kernel))) rfl, by decide +kernel⟩
theorem iv_X11_isProved : Cond.instanceMethod yX11_isProved ∈ gt ∧ Cond.selects RX11 yX11_isProved yX11_isProved ∈ gt := ⟨gt_mem (tb6 _ (List.mem_of_getElem? (i := 223) (by decide +kernel))) rfl, gt_mem (List.mem_append_left _ (List.mem_of_getElem? (i := 63) (by decide +kernel))) rfl⟩
theorem ok_X11_pays : MOK mX11_pays 1 := ⟨gt_mem (tb6 _ (List.mem_of_getElem? (i := 212) (by decide +kernel))) rfl, gt_mem (tb1 _ (List.mem_of_getElem? (i := 11) (by decide +kernel))) rfl, by decide +kernel⟩
theorem iv_X11_pays : Cond.instanceMethod yX11_pays ∈ gt ∧ Cond.selects RX11 yX11_pays yX11_pays ∈ gt := ⟨gt_mem (tb6 _ (List.mem_of_getElem? (i := 211) (by decide +kernel))) rfl, gt_mem (List.mem_append_left _ (List.mem_of_getElem? (i := 60) (by decide +kernel))) rfl⟩
theorem ok_X11_shares : MOK mX11_shares 2 := ⟨gt_mem (tb6 _ (List.mem_of_getElem? (i := 228) (by decide +kernel))) rfl, gt_mem (tb1 _ (List.mem_of_getElem? (i := 11) (by decide +kernel))) rfl, by decide +kernel⟩
theorem iv_X11_shares : Cond.instanceMethod yX11_shares ∈ gt ∧ Cond.selects RX11 yX11_shares yX11_shares ∈ gt := ⟨gt_mem (tb6 _ (List.mem_of_getElem? (i := 227) (by decide +kernel))) rfl, gt_mem (List.mem_append_left _ (List.mem_of_getElem? (i := 64) (by decide +kernel))) rfl⟩
theorem ok_X11_paid : MOK mX11_paid 3 := ⟨gt_mem (tb6 _ (List.mem_of_getElem? (i := 208) (by decide +kernel))) rfl, gt_mem (tb1 _ (List.mem_of_getElem? (i := 11) (by decide +kernel))) rfl, by decide +kernel⟩
theorem iv_X11_paid : Cond.instanceMethod yX11_paid ∈ gt ∧ Cond.selects RX11 yX11_paid yX11_paid ∈ gt := ⟨gt_mem (tb6 _ (List.mem_of_getElem? (i := 206) (by decide +kernel))) rfl, gt_mem (tb6 _ (List.mem_of_getElem? (i := 207) (by decide +kernel))) rfl⟩
theorem ok_X11_got : MOK mX11_got 2 := ⟨gt_mem (tb6 _ (List.mem_of_getElem? (i := 232) (by decide +kernel))) rfl, gt_mem (tb1 _ (List.mem_of_getElem? (i := 11) (by decide +kernel))) rfl, by decide +kernel⟩
theorem iv_X11_got : Cond.instanceMethod yX11_got ∈ gt ∧ Cond.selects RX11 yX11_got yX11_got ∈ gt := ⟨gt_mem (tb6 _ (List.mem_of_getElem? (i := 230) (by decide +kernel))) rfl, gt_mem (tb6 _ (List.mem_of_getElem? (i := 231) (by decide +kernel))) rfl⟩
theorem ok_X11_owedOf : MOK mX11_owedOf 1 := ⟨gt_mem (tb7 _ (List.mem_of_getElem? (i := 0) (by decide +kernel))) rfl, gt_mem (tb1 _ (List.mem_of_getElem? (i := 11) (by decide +kernel))) rfl, by decide +kernel⟩
theorem iv_X11_owedOf : Cond.instanceMethod yX11_owedOf ∈ gt ∧ Cond.selects RX11 yX11_owedOf yX11_owedOf ∈ gt := ⟨gt_mem (tb6 _ (List.mem_of_getElem? (i := 239) (by decide +kernel))) rfl, gt_mem (List.mem_append_left _ (List.mem_of_getElem? (i := 65) (by decide +kernel))) rfl⟩
theorem ok_X11_owed : MOK mX11_owed 2 := ⟨gt_mem (tb6 _ (List.mem_of_getElem? (i := 236) (by decide +kernel))) rfl, gt_mem (tb1 _ (List.mem_of_getElem? (i := 11) (by decide +kernel))) rfl, by decide +kernel⟩
theorem iv_X11_owed : Cond.instanceMethod yX11_owed ∈ gt ∧ Cond.selects RX11 yX11_owed yX11_owed ∈ gt := ⟨gt_mem (tb6 _ (List.mem_of_getElem? (i := 234) (by decide +kernel))) rfl, gt_mem (tb6 _ (List.mem_of_getElem? (i := 235) (by decide +kernel))) rfl⟩
theorem ok_X11_state : MOK mX11_state 2 := ⟨gt_mem (tb7 _ (List.mem_of_getElem? (i := 4) (by decide +kernel))) rfl, gt_mem (tb1 _ (List.mem_of_getElem? (i := 11) (by decide +kernel))) rfl, by decide +kernel⟩
theorem iv_X11_state : Cond.instanceMethod yX11_state ∈ gt ∧ Cond.selects RX11 yX11_state yX11_state ∈ gt := ⟨gt_mem (tb7 _ (List.mem_of_getElem? (i := 2) (by decide +kernel))) rfl, gt_mem (tb7 _ (List.mem_of_getElem? (i := 3) (by decide +kernel))) rfl⟩
theorem ok_X11_sold : MOK mX11_sold 3 := ⟨gt_mem (tb7 _ (List.mem_of_getElem? (i := 8) (by decide +kernel))) rfl, gt_mem (tb1 _ (List.mem_of_getElem? (i := 11) (by decide +kernel))) rfl, by decide +kernel⟩
theorem iv_X11_sold : Cond.instanceMethod yX11_sold ∈ gt ∧ Cond.selects RX11 yX11_sold yX11_sold ∈ gt := ⟨gt_mem (tb7 _ (List.mem_of_getElem? (i := 6) (by decide +kernel))) rfl, gt_mem (tb7 _ (List.mem_of_getElem? (i := 7) (by decide +kernel))) rfl⟩
theorem ok_X11_groupOf : MOK mX11_groupOf 1 := ⟨gt_mem (tb7 _ (List.mem_of_getElem? (i := 43) (by decide +kernel))) rfl, gt_mem (tb1 _ (List.mem_of_getElem? (i := 11) (by decide +kernel))) rfl, by decide +kernel⟩
theorem iv_X11_groupOf : Cond.static yX11_groupOf ∈ gt := gt_mem (tb7 _ (List.mem_of_getElem? (i := 42) (by decide +kernel))) rfl
theorem ok_X11_years : MOK mX11_years 3 := ⟨gt_mem (tb7 _ (List.mem_of_getElem? (i := 16) (by decide +kernel))) rfl, gt_mem (tb1 _ (List.mem_of_getElem? (i := 11) (by decide +kernel))) rfl, by decide +kernel⟩
theorem iv_X11_years : Cond.instanceMethod yX11_years ∈ gt ∧ Cond.selects RX11 yX11_years yX11_years ∈ gt := ⟨gt_mem (tb7 _ (List.mem_of_getElem? (i := 15) (by decide +kernel))) rfl, gt_mem (List.mem_append_left _ (List.mem_of_getElem? (i := 66) (by decide +kernel))) rfl⟩
theorem ok_X11_lived : MOK mX11_lived 3 := ⟨gt_mem (tb7 _ (List.mem_of_getElem? (i := 20) (by decide +kernel))) rfl, gt_mem (tb1 _ (List.mem_of_getElem? (i := 11) (by decide +kernel))) rfl, by decide +kernel⟩
theorem iv_X11_lived : Cond.instanceMethod yX11_lived ∈ gt ∧ Cond.selects RX11 yX11_lived yX11_lived ∈ gt := ⟨gt_mem (tb7 _ (List.mem_of_getElem? (i := 19) (by decide +kernel))) rfl, gt_mem (List.mem_append_left _ (List.mem_of_getElem? (i := 67) (by decide +kernel))) rfl⟩
theorem ok_X11_own : MOK mX11_own 4 := ⟨gt_mem (tb7 _ (List.mem_of_getElem? (i := 12) (by decide +kernel))) rfl, gt_mem (tb1 _ (List.mem_of_getElem? (i := 11) (by decide +kernel))) rfl, by decide +kernel⟩
theorem iv_X11_own : Cond.instanceMethod yX11_own ∈ gt ∧ Cond.selects RX11 yX11_own yX11_own ∈ gt := ⟨gt_mem (tb7 _ (List.mem_of_getElem? (i := 10) (by decide +kernel))) rfl, gt_mem (tb7 _ (List.mem_of_getElem? (i := 11) (by decide +kernel))) rfl⟩
theorem ok_X11_lay : MOK mX11_lay 1 := ⟨gt_mem (tb7 _ (List.mem_of_getElem? (i := 28) (by decide +kernel))) rfl, gt_mem (tb1 _ (List.mem_of_getElem? (i := 11) (by decide +kernel))) rfl, by decide +kernel⟩
theorem iv_X11_lay : Cond.instanceMethod yX11_lay ∈ gt ∧ Cond.selects RX11 yX11_lay yX11_lay ∈ gt := ⟨gt_mem (tb7 _ (List.mem_of_getElem? (i := 27) (by decide +kernel))) rfl, gt_mem (List.mem_append_left _ (List.mem_of_getElem? (i := 68) (by decide +kernel))) rfl⟩
theorem ok_X11_liveOf : MOK mX11_liveOf 2 := ⟨gt_mem (tb7 _ (List.mem_of_getElem? (i := 40) (by decide +kernel))) rfl, gt_mem (tb1 _ (List.mem_of_getElem? (i := 11) (by decide +kernel))) rfl, by decide +kernel⟩
theorem iv_X11_liveOf : Cond.instanceMethod yX11_liveOf ∈ gt ∧ Cond.selects RX11 yX11_liveOf yX11_liveOf ∈ gt := ⟨gt_mem (tb7 _ (List.mem_of_getElem? (i := 39) (by decide +kernel))) rfl, gt_mem (List.mem_append_left _ (List.mem_of_getElem? (i := 71) (by decide +kernel))) rfl⟩
theorem ok_X11_yearBack : MOK mX11_yearBack 2 := ⟨gt_mem (tb7 _ (List.mem_of_getElem? (i := 47) (by decide +kernel))) rfl, gt_mem (tb1 _ (List.mem_of_getElem? (i := 11) (by decide +kernel))) rfl, by decide +kernel⟩
theorem iv_X11_yearBack : Cond.instanceMethod yX11_yearBack ∈ gt ∧ Cond.selects RX11 yX11_yearBack yX11_yearBack ∈ gt := ⟨gt_mem (tb7 _ (List.mem_of_getElem? (i := 46) (by decide +kernel))) rfl, gt_mem (List.mem_append_left _ (List.mem_of_getElem? (i := 72) (by decide +kernel))) rfl⟩
theorem ok_X11_worthOf : MOK mX11_worthOf 1 := ⟨gt_mem (tb7 _ (List.mem_of_getElem? (i := 36) (by decide +kernel))) rfl, gt_mem (tb1 _ (List.mem_of_getElem? (i := 11) (by decide +kernel))) rfl, by decide +kernel⟩
theorem iv_X11_worthOf : Cond.instanceMethod yX11_worthOf ∈ gt ∧ Cond.selects RX11 yX11_worthOf yX11_worthOf ∈ gt := ⟨gt_mem (tb7 _ (List.mem_of_getElem? (i := 35) (by decide +kernel))) rfl, gt_mem (List.mem_append_left _ (List.mem_of_getElem? (i := 70) (by decide +kernel))) rfl⟩
theorem ok_X11_bothOf : MOK mX11_bothOf 2 := ⟨gt_mem (tb7 _ (List.mem_of_getElem? (i := 51) (by decide +kernel))) rfl, gt_mem (tb1 _ (List.mem_of_getElem? (i := 11) (by decide +kernel))) rfl, by decide +kernel⟩
theorem iv_X11_bothOf : Cond.instanceMethod yX11_bothOf ∈ gt ∧ Cond.selects RX11 yX11_bothOf yX11_bothOf ∈ gt := ⟨gt_mem (tb7 _ (List.mem_of_getElem? (i := 50) (by decide +kernel))) rfl, gt_mem (List.mem_append_left _ (List.mem_of_getElem? (i := 73) (by decide +kernel))) rfl⟩
theorem ok_X11_worthOn : MOK mX11_worthOn 2 := ⟨gt_mem (tb7 _ (List.mem_of_getElem? (i := 32) (by decide +kernel))) rfl, gt_mem (tb1 _ (List.mem_of_getElem? (i := 11) (by decide +kernel))) rfl, by decide +kernel⟩
theorem iv_X11_worthOn : Cond.instanceMethod yX11_worthOn ∈ gt ∧ Cond.selects RX11 yX11_worthOn yX11_worthOn ∈ gt := ⟨gt_mem (tb7 _ (List.mem_of_getElem? (i := 31) (by decide +kernel))) rfl, gt_mem (List.mem_append_left _ (List.mem_of_getElem? (i := 69) (by decide +kernel))) rfl⟩
theorem ok_X11_worth : MOK mX11_worth 3 := ⟨gt_mem (tb7 _ (List.mem_of_getElem? (i := 24) (by decide +kernel))) rfl, gt_mem (tb1 _ (List.mem_of_getElem? (i := 11) (by decide +kernel))) rfl, by decide +kernel⟩
theorem iv_X11_worth : Cond.instanceMethod yX11_worth ∈ gt ∧ Cond.selects RX11 yX11_worth yX11_worth ∈ gt := ⟨gt_mem (tb7 _ (List.mem_of_getElem? (i := 22) (by decide +kernel))) rfl, gt_mem (tb7 _ (List.mem_of_getElem? (i := 23) (by decide +kernel))) rfl⟩
theorem ok_X11_names : MOK mX11_names 1 := ⟨gt_mem (tb7 _ (List.mem_of_getElem? (i := 55) (by decide +kernel))) rfl, gt_mem (tb1 _ (List.mem_of_getElem? (i := 11) (by decide +kernel))) rfl, by decide +kernel⟩
theorem iv_X11_names : Cond.instanceMethod yX11_names ∈ gt ∧ Cond.selects RX11 yX11_names yX11_names ∈ gt := ⟨gt_mem (tb7 _ (List.mem_of_getElem? (i := 53) (by decide +kernel))) rfl, gt_mem (tb7 _ (List.mem_of_getElem? (i := 54) (by decide +kernel))) rfl⟩
theorem ok_X11_named : MOK mX11_named 1 := ⟨gt_mem (tb7 _ (List.mem_of_getElem? (i := 61) (by decide +kernel))) rfl, gt_mem (tb1 _ (List.mem_of_getElem? (i := 11) (by decide +kernel))) rfl, by decide +kernel⟩
theorem iv_X11_named : Cond.instanceMethod yX11_named ∈ gt ∧ Cond.selects RX11 yX11_named yX11_named ∈ gt := ⟨gt_mem (tb7 _ (List.mem_of_getElem? (i := 59) (by decide +kernel))) rfl, gt_mem (tb7 _ (List.mem_of_getElem? (i := 60) (by decide +kernel))) rfl⟩
theorem ok_X11_riskOf : MOK mX11_riskOf 1 := ⟨gt_mem (tb7 _ (List.mem_of_getElem? (i := 69) (by decide +kernel))) rfl, gt_mem (tb1 _ (List.mem_of_getElem? (i := 11) (by decide +kernel))) rfl, by decide +kernel⟩
theorem iv_X11_riskOf : Cond.instanceMethod yX11_riskOf ∈ gt ∧ Cond.selects RX11 yX11_riskOf yX11_riskOf ∈ gt := ⟨gt_mem (tb7 _ (List.mem_of_getElem? (i := 68) (by decide +kernel))) rfl, gt_mem (List.mem_append_left _ (List.mem_of_getElem? (i := 74) (by decide +kernel))) rfl⟩
theorem ok_X11_look : MOK mX11_look 1 := ⟨gt_mem (tb7 _ (List.mem_of_getElem? (i := 65) (by decide +kernel))) rfl, gt_mem (tb1 _ (List.mem_of_getElem? (i := 11) (by decide +kernel))) rfl, by decide +kernel⟩
theorem iv_X11_look : Cond.instanceMethod yX11_look ∈ gt ∧ Cond.selects RX11 yX11_look yX11_look ∈ gt := ⟨gt_mem (tb7 _ (List.mem_of_getElem? (i := 63) (by decide +kernel))) rfl, gt_mem (tb7 _ (List.mem_of_getElem? (i := 64) (by decide +kernel))) rfl⟩
theorem ok_X11_fails : MOK mX11_fails 1 := ⟨gt_mem (tb7 _ (List.mem_of_getElem? (i := 77) (by decide +kernel))) rfl, gt_mem (tb1 _ (List.mem_of_getElem? (i := 11) (by decide +kernel))) rfl, by decide +kernel⟩
theorem iv_X11_fails : Cond.instanceMethod yX11_fails ∈ gt ∧ Cond.selects RX11 yX11_fails yX11_fails ∈ gt := ⟨gt_mem (tb7 _ (List.mem_of_getElem? (i := 76) (by decide +kernel))) rfl, gt_mem (List.mem_append_left _ (List.mem_of_getElem? (i := 75) (by decide +kernel))) rfl⟩
theorem ok_X11_risk : MOK mX11_risk 1 := ⟨gt_mem (tb7 _ (List.mem_of_getElem? (i := 73) (by decide +kernel))) rfl, gt_mem (tb1 _ (List.mem_of_getElem? (i := 11) (by decide +kernel))) rfl, by decide +kernel⟩
theorem iv_X11_risk : Cond.instanceMethod yX11_risk ∈ gt ∧ Cond.selects RX11 yX11_risk yX11_risk ∈ gt := ⟨gt_mem (tb7 _ (List.mem_of_getElem? (i := 71) (by decide +kernel))) rfl, gt_mem (tb7 _ (List.mem_of_getElem? (i := 72) (by decide +kernel))) rfl⟩
theorem ok_X11_living : MOK mX11_living 1 := ⟨gt_mem (tb7 _ (List.mem_of_getElem? (i := 85) (by decide +kernel))) rfl, gt_mem (tb1 _ (List.mem_of_getElem? (i := 11) (by decide +kernel))) rfl, by decide +kernel⟩
theorem iv_X11_living : Cond.instanceMethod yX11_living ∈ gt ∧ Cond.selects RX11 yX11_living yX11_living ∈ gt := ⟨gt_mem (tb7 _ (List.mem_of_getElem? (i := 84) (by decide +kernel))) rfl, gt_mem (List.mem_append_left _ (List.mem_of_getElem? (i := 76) (by decide +kernel))) rfl⟩
theorem ok_X11_converts : MOK mX11_converts 1 := ⟨gt_mem (tb7 _ (List.mem_of_getElem? (i := 81) (by decide +kernel))) rfl, gt_mem (tb1 _ (List.mem_of_getElem? (i := 11) (by decide +kernel))) rfl, by decide +kernel⟩
theorem iv_X11_converts : Cond.instanceMethod yX11_converts ∈ gt ∧ Cond.selects RX11 yX11_converts yX11_converts ∈ gt := ⟨gt_mem (tb7 _ (List.mem_of_getElem? (i := 79) (by decide +kernel))) rfl, gt_mem (tb7 _ (List.mem_of_getElem? (i := 80) (by decide +kernel))) rfl⟩
theorem ok_X11_count : MOK mX11_count 1 := ⟨gt_mem (tb7 _ (List.mem_of_getElem? (i := 91) (by decide +kernel))) rfl, gt_mem (tb1 _ (List.mem_of_getElem? (i := 11) (by decide +kernel))) rfl, by decide +kernel⟩
theorem iv_X11_count : Cond.instanceMethod yX11_count ∈ gt ∧ Cond.selects RX11 yX11_count yX11_count ∈ gt := ⟨gt_mem (tb7 _ (List.mem_of_getElem? (i := 89) (by decide +kernel))) rfl, gt_mem (tb7 _ (List.mem_of_getElem? (i := 90) (by decide +kernel))) rfl⟩
end
section
theorem dX11_thrown_0 : decode cX11_thrown 0 = .ok (.aload_n 0, 1) := by decide +kernel
theorem dX11_thrown_1 : decode cX11_thrown 1 = .ok (.getfield 129, 3) := by decide +kernel
theorem dX11_thrown_4 : decode cX11_thrown 4 = .ok (.ireturn, 1) := by decide +kernel
theorem dX11_feed_0 : decode cX11_feed 0 = .ok (.aload_n 0, 1) := by decide +kernel
theorem dX11_feed_1 : decode cX11_feed 1 = .ok (.iconst 0, 1) := by decide +kernel
theorem dX11_feed_2 : decode cX11_feed 2 = .ok (.putfield 129, 3) := by decide +kernel
theorem dX11_feed_5 : decode cX11_feed 5 = .ok (.aload_n 0, 1) := by decide +kernel
theorem dX11_feed_6 : decode cX11_feed 6 = .ok (.getfield 132, 3) := by decide +kernel
theorem dX11_feed_9 : decode cX11_feed 9 = .ok (.bipush 20, 2) := by decide +kernel
theorem dX11_feed_11 : decode cX11_feed 11 = .ok (.iadd, 1) := by decide +kernel
theorem dX11_feed_12 : decode cX11_feed 12 = .ok (.sipush 500, 3) := by decide +kernel
theorem dX11_feed_15 : decode cX11_feed 15 = .ok (.if_icmp .le 5, 3) := by decide +kernel
theorem dX11_feed_18 : decode cX11_feed 18 = .ok (.iconst (-1), 1) := by decide +kernel
theorem dX11_feed_19 : decode cX11_feed 19 = .ok (.ireturn, 1) := by decide +kernel
theorem dX11_feed_20 : decode cX11_feed 20 = .ok (.iconst 0, 1) := by decide +kernel
theorem dX11_feed_21 : decode cX11_feed 21 = .ok (.istore 6, 2) := by decide +kernel
theorem dX11_feed_23 : decode cX11_feed 23 = .ok (.iload 6, 2) := by decide +kernel
theorem dX11_feed_25 : decode cX11_feed 25 = .ok (.bipush 20, 2) := by decide +kernel
theorem dX11_feed_27 : decode cX11_feed 27 = .ok (.if_icmp .ge 86, 3) := by decide +kernel
theorem dX11_feed_30 : decode cX11_feed 30 = .ok (.iload 6, 2) := by decide +kernel
theorem dX11_feed_32 : decode cX11_feed 32 = .ok (.iconst 4, 1) := by decide +kernel
theorem dX11_feed_33 : decode cX11_feed 33 = .ok (.if_icmp .ge 7, 3) := by decide +kernel
theorem dX11_feed_36 : decode cX11_feed 36 = .ok (.iload_n 1, 1) := by decide +kernel
theorem dX11_feed_37 : decode cX11_feed 37 = .ok (.goto 39, 3) := by decide +kernel
theorem dX11_feed_40 : decode cX11_feed 40 = .ok (.iload 6, 2) := by decide +kernel
theorem dX11_feed_42 : decode cX11_feed 42 = .ok (.bipush 8, 2) := by decide +kernel
theorem dX11_feed_44 : decode cX11_feed 44 = .ok (.if_icmp .ge 7, 3) := by decide +kernel
theorem dX11_feed_47 : decode cX11_feed 47 = .ok (.iload_n 2, 1) := by decide +kernel
theorem dX11_feed_48 : decode cX11_feed 48 = .ok (.goto 28, 3) := by decide +kernel
theorem dX11_feed_51 : decode cX11_feed 51 = .ok (.iload 6, 2) := by decide +kernel
theorem dX11_feed_53 : decode cX11_feed 53 = .ok (.bipush 12, 2) := by decide +kernel
theorem dX11_feed_55 : decode cX11_feed 55 = .ok (.if_icmp .ge 7, 3) := by decide +kernel
theorem dX11_feed_58 : decode cX11_feed 58 = .ok (.iload_n 3, 1) := by decide +kernel
theorem dX11_feed_59 : decode cX11_feed 59 = .ok (.goto 17, 3) := by decide +kernel
theorem dX11_feed_62 : decode cX11_feed 62 = .ok (.iload 6, 2) := by decide +kernel
theorem dX11_feed_64 : decode cX11_feed 64 = .ok (.bipush 16, 2) := by decide +kernel
theorem dX11_feed_66 : decode cX11_feed 66 = .ok (.if_icmp .ge 8, 3) := by decide +kernel
theorem dX11_feed_69 : decode cX11_feed 69 = .ok (.iload 4, 2) := by decide +kernel
theorem dX11_feed_71 : decode cX11_feed 71 = .ok (.goto 5, 3) := by decide +kernel
theorem dX11_feed_74 : decode cX11_feed 74 = .ok (.iload 5, 2) := by decide +kernel
theorem dX11_feed_76 : decode cX11_feed 76 = .ok (.istore 7, 2) := by decide +kernel
theorem dX11_feed_78 : decode cX11_feed 78 = .ok (.aload_n 0, 1) := by decide +kernel
theorem dX11_feed_79 : decode cX11_feed 79 = .ok (.getfield 7, 3) := by decide +kernel
theorem dX11_feed_82 : decode cX11_feed 82 = .ok (.aload_n 0, 1) := by decide +kernel
theorem dX11_feed_83 : decode cX11_feed 83 = .ok (.getfield 132, 3) := by decide +kernel
theorem dX11_feed_86 : decode cX11_feed 86 = .ok (.iload 6, 2) := by decide +kernel
theorem dX11_feed_88 : decode cX11_feed 88 = .ok (.iadd, 1) := by decide +kernel
theorem dX11_feed_89 : decode cX11_feed 89 = .ok (.iload 7, 2) := by decide +kernel
theorem dX11_feed_91 : decode cX11_feed 91 = .ok (.bipush 24, 2) := by decide +kernel
theorem dX11_feed_93 : decode cX11_feed 93 = .ok (.bipush 8, 2) := by decide +kernel
theorem dX11_feed_95 : decode cX11_feed 95 = .ok (.iload 6, 2) := by decide +kernel
theorem dX11_feed_97 : decode cX11_feed 97 = .ok (.iconst 4, 1) := by decide +kernel
theorem dX11_feed_98 : decode cX11_feed 98 = .ok (.irem, 1) := by decide +kernel
theorem dX11_feed_99 : decode cX11_feed 99 = .ok (.imul, 1) := by decide +kernel
theorem dX11_feed_100 : decode cX11_feed 100 = .ok (.isub, 1) := by decide +kernel
theorem dX11_feed_101 : decode cX11_feed 101 = .ok (.ishr, 1) := by decide +kernel
theorem dX11_feed_102 : decode cX11_feed 102 = .ok (.sipush 255, 3) := by decide +kernel
theorem dX11_feed_105 : decode cX11_feed 105 = .ok (.iand, 1) := by decide +kernel
theorem dX11_feed_106 : decode cX11_feed 106 = .ok (.iastore, 1) := by decide +kernel
theorem dX11_feed_107 : decode cX11_feed 107 = .ok (.iinc 6 1, 3) := by decide +kernel
theorem dX11_feed_110 : decode cX11_feed 110 = .ok (.goto (-87), 3) := by decide +kernel
theorem dX11_feed_113 : decode cX11_feed 113 = .ok (.aload_n 0, 1) := by decide +kernel
theorem dX11_feed_114 : decode cX11_feed 114 = .ok (.dup, 1) := by decide +kernel
theorem dX11_feed_115 : decode cX11_feed 115 = .ok (.getfield 132, 3) := by decide +kernel
theorem dX11_feed_118 : decode cX11_feed 118 = .ok (.bipush 20, 2) := by decide +kernel
theorem dX11_feed_120 : decode cX11_feed 120 = .ok (.iadd, 1) := by decide +kernel
theorem dX11_feed_121 : decode cX11_feed 121 = .ok (.putfield 132, 3) := by decide +kernel
theorem dX11_feed_124 : decode cX11_feed 124 = .ok (.aload_n 0, 1) := by decide +kernel
theorem dX11_feed_125 : decode cX11_feed 125 = .ok (.getfield 132, 3) := by decide +kernel
theorem dX11_feed_128 : decode cX11_feed 128 = .ok (.ireturn, 1) := by decide +kernel
theorem dX11_isIn_0 : decode cX11_isIn 0 = .ok (.iload_n 0, 1) := by decide +kernel
theorem dX11_isIn_1 : decode cX11_isIn 1 = .ok (.iload_n 1, 1) := by decide +kernel
theorem dX11_isIn_2 : decode cX11_isIn 2 = .ok (.if_icmp .lt 12, 3) := by decide +kernel
theorem dX11_isIn_5 : decode cX11_isIn 5 = .ok (.iload_n 0, 1) := by decide +kernel
theorem dX11_isIn_6 : decode cX11_isIn 6 = .ok (.iload_n 2, 1) := by decide +kernel
theorem dX11_isIn_7 : decode cX11_isIn 7 = .ok (.if_icmp .gt 7, 3) := by decide +kernel
theorem dX11_isIn_10 : decode cX11_isIn 10 = .ok (.iconst 1, 1) := by decide +kernel
theorem dX11_isIn_11 : decode cX11_isIn 11 = .ok (.goto 4, 3) := by decide +kernel
theorem dX11_isIn_14 : decode cX11_isIn 14 = .ok (.iconst 0, 1) := by decide +kernel
theorem dX11_isIn_15 : decode cX11_isIn 15 = .ok (.ireturn, 1) := by decide +kernel
theorem dX11_isHalf_0 : decode cX11_isHalf 0 = .ok (.iload_n 0, 1) := by decide +kernel
theorem dX11_isHalf_1 : decode cX11_isHalf 1 = .ok (.ifCond .lt 13, 3) := by decide +kernel
theorem dX11_isHalf_4 : decode cX11_isHalf 4 = .ok (.iload_n 0, 1) := by decide +kernel
theorem dX11_isHalf_5 : decode cX11_isHalf 5 = .ok (.bipush 79, 2) := by decide +kernel
theorem dX11_isHalf_7 : decode cX11_isHalf 7 = .ok (.if_icmp .gt 7, 3) := by decide +kernel
theorem dX11_isHalf_10 : decode cX11_isHalf 10 = .ok (.iconst 1, 1) := by decide +kernel
theorem dX11_isHalf_11 : decode cX11_isHalf 11 = .ok (.goto 4, 3) := by decide +kernel
theorem dX11_isHalf_14 : decode cX11_isHalf 14 = .ok (.iconst 0, 1) := by decide +kernel
theorem dX11_isHalf_15 : decode cX11_isHalf 15 = .ok (.ireturn, 1) := by decide +kernel
theorem dX11_wrong_0 : decode cX11_wrong 0 = .ok (.aload_n 0, 1) := by decide +kernel
theorem dX11_wrong_1 : decode cX11_wrong 1 = .ok (.iload_n 1, 1) := by decide +kernel
theorem dX11_wrong_2 : decode cX11_wrong 2 = .ok (.putfield 135, 3) := by decide +kernel
theorem dX11_wrong_5 : decode cX11_wrong 5 = .ok (.aload_n 0, 1) := by decide +kernel
theorem dX11_wrong_6 : decode cX11_wrong 6 = .ok (.aload_n 0, 1) := by decide +kernel
theorem dX11_wrong_7 : decode cX11_wrong 7 = .ok (.getfield 138, 3) := by decide +kernel
theorem dX11_wrong_10 : decode cX11_wrong 10 = .ok (.putfield 58, 3) := by decide +kernel
theorem dX11_wrong_13 : decode cX11_wrong 13 = .ok (.iconst 0, 1) := by decide +kernel
theorem dX11_wrong_14 : decode cX11_wrong 14 = .ok (.ireturn, 1) := by decide +kernel
theorem dX11_wordAt_0 : decode cX11_wordAt 0 = .ok (.iconst 0, 1) := by decide +kernel
theorem dX11_wordAt_1 : decode cX11_wordAt 1 = .ok (.istore_n 3, 1) := by decide +kernel
theorem dX11_wordAt_2 : decode cX11_wordAt 2 = .ok (.iconst 0, 1) := by decide +kernel
theorem dX11_wordAt_3 : decode cX11_wordAt 3 = .ok (.istore 4, 2) := by decide +kernel
theorem dX11_wordAt_5 : decode cX11_wordAt 5 = .ok (.iload 4, 2) := by decide +kernel
theorem dX11_wordAt_7 : decode cX11_wordAt 7 = .ok (.aload_n 0, 1) := by decide +kernel
theorem dX11_wordAt_8 : decode cX11_wordAt 8 = .ok (.getfield 55, 3) := by decide +kernel
theorem dX11_wordAt_11 : decode cX11_wordAt 11 = .ok (.arraylength, 1) := by decide +kernel
theorem dX11_wordAt_12 : decode cX11_wordAt 12 = .ok (.if_icmp .ge 114, 3) := by decide +kernel
theorem dX11_wordAt_15 : decode cX11_wordAt 15 = .ok (.iconst 0, 1) := by decide +kernel
theorem dX11_wordAt_16 : decode cX11_wordAt 16 = .ok (.istore 5, 2) := by decide +kernel
theorem dX11_wordAt_18 : decode cX11_wordAt 18 = .ok (.aload_n 0, 1) := by decide +kernel
theorem dX11_wordAt_19 : decode cX11_wordAt 19 = .ok (.getfield 55, 3) := by decide +kernel
theorem dX11_wordAt_22 : decode cX11_wordAt 22 = .ok (.iload 4, 2) := by decide +kernel
theorem dX11_wordAt_24 : decode cX11_wordAt 24 = .ok (.iload 5, 2) := by decide +kernel
theorem dX11_wordAt_26 : decode cX11_wordAt 26 = .ok (.iadd, 1) := by decide +kernel
theorem dX11_wordAt_27 : decode cX11_wordAt 27 = .ok (.iaload, 1) := by decide +kernel
theorem dX11_wordAt_28 : decode cX11_wordAt 28 = .ok (.bipush 32, 2) := by decide +kernel
theorem dX11_wordAt_30 : decode cX11_wordAt 30 = .ok (.if_icmp .eq 9, 3) := by decide +kernel
theorem dX11_wordAt_33 : decode cX11_wordAt 33 = .ok (.iinc 5 1, 3) := by decide +kernel
theorem dX11_wordAt_36 : decode cX11_wordAt 36 = .ok (.goto (-18), 3) := by decide +kernel
theorem dX11_wordAt_39 : decode cX11_wordAt 39 = .ok (.iload 5, 2) := by decide +kernel
theorem dX11_wordAt_41 : decode cX11_wordAt 41 = .ok (.iload_n 2, 1) := by decide +kernel
theorem dX11_wordAt_42 : decode cX11_wordAt 42 = .ok (.iload_n 1, 1) := by decide +kernel
theorem dX11_wordAt_43 : decode cX11_wordAt 43 = .ok (.isub, 1) := by decide +kernel
theorem dX11_wordAt_44 : decode cX11_wordAt 44 = .ok (.if_icmp .ne 7, 3) := by decide +kernel
theorem dX11_wordAt_47 : decode cX11_wordAt 47 = .ok (.iconst 1, 1) := by decide +kernel
theorem dX11_wordAt_48 : decode cX11_wordAt 48 = .ok (.goto 4, 3) := by decide +kernel
theorem dX11_wordAt_51 : decode cX11_wordAt 51 = .ok (.iconst 0, 1) := by decide +kernel
theorem dX11_wordAt_52 : decode cX11_wordAt 52 = .ok (.istore 6, 2) := by decide +kernel
theorem dX11_wordAt_54 : decode cX11_wordAt 54 = .ok (.iconst 0, 1) := by decide +kernel
theorem dX11_wordAt_55 : decode cX11_wordAt 55 = .ok (.istore 7, 2) := by decide +kernel
theorem dX11_wordAt_57 : decode cX11_wordAt 57 = .ok (.iload 7, 2) := by decide +kernel
theorem dX11_wordAt_59 : decode cX11_wordAt 59 = .ok (.iload 5, 2) := by decide +kernel
theorem dX11_wordAt_61 : decode cX11_wordAt 61 = .ok (.if_icmp .ge 43, 3) := by decide +kernel
theorem dX11_wordAt_64 : decode cX11_wordAt 64 = .ok (.iload 6, 2) := by decide +kernel
theorem dX11_wordAt_66 : decode cX11_wordAt 66 = .ok (.ifCond .eq 38, 3) := by decide +kernel
theorem dX11_wordAt_69 : decode cX11_wordAt 69 = .ok (.aload_n 0, 1) := by decide +kernel
theorem dX11_wordAt_70 : decode cX11_wordAt 70 = .ok (.getfield 55, 3) := by decide +kernel
theorem dX11_wordAt_73 : decode cX11_wordAt 73 = .ok (.iload 4, 2) := by decide +kernel
theorem dX11_wordAt_75 : decode cX11_wordAt 75 = .ok (.iload 7, 2) := by decide +kernel
theorem dX11_wordAt_77 : decode cX11_wordAt 77 = .ok (.iadd, 1) := by decide +kernel
theorem dX11_wordAt_78 : decode cX11_wordAt 78 = .ok (.iaload, 1) := by decide +kernel
theorem dX11_wordAt_79 : decode cX11_wordAt 79 = .ok (.aload_n 0, 1) := by decide +kernel
theorem dX11_wordAt_80 : decode cX11_wordAt 80 = .ok (.getfield 7, 3) := by decide +kernel
theorem dX11_wordAt_83 : decode cX11_wordAt 83 = .ok (.iload_n 1, 1) := by decide +kernel
theorem dX11_wordAt_84 : decode cX11_wordAt 84 = .ok (.iload 7, 2) := by decide +kernel
theorem dX11_wordAt_86 : decode cX11_wordAt 86 = .ok (.iadd, 1) := by decide +kernel
theorem dX11_wordAt_87 : decode cX11_wordAt 87 = .ok (.iaload, 1) := by decide +kernel
theorem dX11_wordAt_88 : decode cX11_wordAt 88 = .ok (.if_icmp .ne 7, 3) := by decide +kernel
theorem dX11_wordAt_91 : decode cX11_wordAt 91 = .ok (.iconst 1, 1) := by decide +kernel
theorem dX11_wordAt_92 : decode cX11_wordAt 92 = .ok (.goto 4, 3) := by decide +kernel
theorem dX11_wordAt_95 : decode cX11_wordAt 95 = .ok (.iconst 0, 1) := by decide +kernel
theorem dX11_wordAt_96 : decode cX11_wordAt 96 = .ok (.istore 6, 2) := by decide +kernel
theorem dX11_wordAt_98 : decode cX11_wordAt 98 = .ok (.iinc 7 1, 3) := by decide +kernel
theorem dX11_wordAt_101 : decode cX11_wordAt 101 = .ok (.goto (-44), 3) := by decide +kernel
theorem dX11_wordAt_104 : decode cX11_wordAt 104 = .ok (.iload 6, 2) := by decide +kernel
theorem dX11_wordAt_106 : decode cX11_wordAt 106 = .ok (.ifCond .eq 5, 3) := by decide +kernel
theorem dX11_wordAt_109 : decode cX11_wordAt 109 = .ok (.iload_n 3, 1) := by decide +kernel
theorem dX11_wordAt_110 : decode cX11_wordAt 110 = .ok (.ireturn, 1) := by decide +kernel
theorem dX11_wordAt_111 : decode cX11_wordAt 111 = .ok (.iload 4, 2) := by decide +kernel
theorem dX11_wordAt_113 : decode cX11_wordAt 113 = .ok (.iload 5, 2) := by decide +kernel
theorem dX11_wordAt_115 : decode cX11_wordAt 115 = .ok (.iconst 1, 1) := by decide +kernel
theorem dX11_wordAt_116 : decode cX11_wordAt 116 = .ok (.iadd, 1) := by decide +kernel
theorem dX11_wordAt_117 : decode cX11_wordAt 117 = .ok (.iadd, 1) := by decide +kernel
theorem dX11_wordAt_118 : decode cX11_wordAt 118 = .ok (.istore 4, 2) := by decide +kernel
theorem dX11_wordAt_120 : decode cX11_wordAt 120 = .ok (.iinc 3 1, 3) := by decide +kernel
theorem dX11_wordAt_123 : decode cX11_wordAt 123 = .ok (.goto (-118), 3) := by decide +kernel
theorem dX11_wordAt_126 : decode cX11_wordAt 126 = .ok (.iconst (-1), 1) := by decide +kernel
theorem dX11_wordAt_127 : decode cX11_wordAt 127 = .ok (.ireturn, 1) := by decide +kernel
theorem dX11_isSmall_0 : decode cX11_isSmall 0 = .ok (.iload_n 1, 1) := by decide +kernel
theorem dX11_isSmall_1 : decode cX11_isSmall 1 = .ok (.aload_n 0, 1) := by decide +kernel
theorem dX11_isSmall_2 : decode cX11_isSmall 2 = .ok (.getfield 141, 3) := by decide +kernel
theorem dX11_isSmall_5 : decode cX11_isSmall 5 = .ok (.if_icmp .ge 29, 3) := by decide +kernel
theorem dX11_isSmall_8 : decode cX11_isSmall 8 = .ok (.aload_n 0, 1) := by decide +kernel
theorem dX11_isSmall_9 : decode cX11_isSmall 9 = .ok (.getfield 7, 3) := by decide +kernel
theorem dX11_isSmall_12 : decode cX11_isSmall 12 = .ok (.iload_n 1, 1) := by decide +kernel
theorem dX11_isSmall_13 : decode cX11_isSmall 13 = .ok (.iaload, 1) := by decide +kernel
theorem dX11_isSmall_14 : decode cX11_isSmall 14 = .ok (.bipush 97, 2) := by decide +kernel
theorem dX11_isSmall_16 : decode cX11_isSmall 16 = .ok (.if_icmp .lt 18, 3) := by decide +kernel
theorem dX11_isSmall_19 : decode cX11_isSmall 19 = .ok (.aload_n 0, 1) := by decide +kernel
theorem dX11_isSmall_20 : decode cX11_isSmall 20 = .ok (.getfield 7, 3) := by decide +kernel
theorem dX11_isSmall_23 : decode cX11_isSmall 23 = .ok (.iload_n 1, 1) := by decide +kernel
theorem dX11_isSmall_24 : decode cX11_isSmall 24 = .ok (.iaload, 1) := by decide +kernel
theorem dX11_isSmall_25 : decode cX11_isSmall 25 = .ok (.bipush 122, 2) := by decide +kernel
theorem dX11_isSmall_27 : decode cX11_isSmall 27 = .ok (.if_icmp .gt 7, 3) := by decide +kernel
theorem dX11_isSmall_30 : decode cX11_isSmall 30 = .ok (.iconst 1, 1) := by decide +kernel
theorem dX11_isSmall_31 : decode cX11_isSmall 31 = .ok (.goto 4, 3) := by decide +kernel
theorem dX11_isSmall_34 : decode cX11_isSmall 34 = .ok (.iconst 0, 1) := by decide +kernel
theorem dX11_isSmall_35 : decode cX11_isSmall 35 = .ok (.ireturn, 1) := by decide +kernel
theorem dX11_isDigit_0 : decode cX11_isDigit 0 = .ok (.iload_n 1, 1) := by decide +kernel
theorem dX11_isDigit_1 : decode cX11_isDigit 1 = .ok (.aload_n 0, 1) := by decide +kernel
theorem dX11_isDigit_2 : decode cX11_isDigit 2 = .ok (.getfield 141, 3) := by decide +kernel
theorem dX11_isDigit_5 : decode cX11_isDigit 5 = .ok (.if_icmp .ge 29, 3) := by decide +kernel
theorem dX11_isDigit_8 : decode cX11_isDigit 8 = .ok (.aload_n 0, 1) := by decide +kernel
theorem dX11_isDigit_9 : decode cX11_isDigit 9 = .ok (.getfield 7, 3) := by decide +kernel
theorem dX11_isDigit_12 : decode cX11_isDigit 12 = .ok (.iload_n 1, 1) := by decide +kernel
theorem dX11_isDigit_13 : decode cX11_isDigit 13 = .ok (.iaload, 1) := by decide +kernel
theorem dX11_isDigit_14 : decode cX11_isDigit 14 = .ok (.bipush 48, 2) := by decide +kernel
theorem dX11_isDigit_16 : decode cX11_isDigit 16 = .ok (.if_icmp .lt 18, 3) := by decide +kernel
theorem dX11_isDigit_19 : decode cX11_isDigit 19 = .ok (.aload_n 0, 1) := by decide +kernel
theorem dX11_isDigit_20 : decode cX11_isDigit 20 = .ok (.getfield 7, 3) := by decide +kernel
theorem dX11_isDigit_23 : decode cX11_isDigit 23 = .ok (.iload_n 1, 1) := by decide +kernel
theorem dX11_isDigit_24 : decode cX11_isDigit 24 = .ok (.iaload, 1) := by decide +kernel
theorem dX11_isDigit_25 : decode cX11_isDigit 25 = .ok (.bipush 57, 2) := by decide +kernel
theorem dX11_isDigit_27 : decode cX11_isDigit 27 = .ok (.if_icmp .gt 7, 3) := by decide +kernel
theorem dX11_isDigit_30 : decode cX11_isDigit 30 = .ok (.iconst 1, 1) := by decide +kernel
theorem dX11_isDigit_31 : decode cX11_isDigit 31 = .ok (.goto 4, 3) := by decide +kernel
theorem dX11_isDigit_34 : decode cX11_isDigit 34 = .ok (.iconst 0, 1) := by decide +kernel
theorem dX11_isDigit_35 : decode cX11_isDigit 35 = .ok (.ireturn, 1) := by decide +kernel
theorem dX11_take_0 : decode cX11_take 0 = .ok (.aload_n 0, 1) := by decide +kernel
theorem dX11_take_1 : decode cX11_take 1 = .ok (.getfield 144, 3) := by decide +kernel
theorem dX11_take_4 : decode cX11_take 4 = .ok (.aload_n 0, 1) := by decide +kernel
theorem dX11_take_5 : decode cX11_take 5 = .ok (.getfield 141, 3) := by decide +kernel
theorem dX11_take_8 : decode cX11_take 8 = .ok (.if_icmp .ge 44, 3) := by decide +kernel
theorem dX11_take_11 : decode cX11_take 11 = .ok (.aload_n 0, 1) := by decide +kernel
theorem dX11_take_12 : decode cX11_take 12 = .ok (.getfield 7, 3) := by decide +kernel
theorem dX11_take_15 : decode cX11_take 15 = .ok (.aload_n 0, 1) := by decide +kernel
theorem dX11_take_16 : decode cX11_take 16 = .ok (.getfield 144, 3) := by decide +kernel
theorem dX11_take_19 : decode cX11_take 19 = .ok (.iaload, 1) := by decide +kernel
theorem dX11_take_20 : decode cX11_take 20 = .ok (.bipush 10, 2) := by decide +kernel
theorem dX11_take_22 : decode cX11_take 22 = .ok (.if_icmp .eq 17, 3) := by decide +kernel
theorem dX11_take_25 : decode cX11_take 25 = .ok (.aload_n 0, 1) := by decide +kernel
theorem dX11_take_26 : decode cX11_take 26 = .ok (.getfield 7, 3) := by decide +kernel
theorem dX11_take_29 : decode cX11_take 29 = .ok (.aload_n 0, 1) := by decide +kernel
theorem dX11_take_30 : decode cX11_take 30 = .ok (.getfield 144, 3) := by decide +kernel
theorem dX11_take_33 : decode cX11_take 33 = .ok (.iaload, 1) := by decide +kernel
theorem dX11_take_34 : decode cX11_take 34 = .ok (.bipush 32, 2) := by decide +kernel
theorem dX11_take_36 : decode cX11_take 36 = .ok (.if_icmp .ne 16, 3) := by decide +kernel
theorem dX11_take_39 : decode cX11_take 39 = .ok (.aload_n 0, 1) := by decide +kernel
theorem dX11_take_40 : decode cX11_take 40 = .ok (.dup, 1) := by decide +kernel
theorem dX11_take_41 : decode cX11_take 41 = .ok (.getfield 144, 3) := by decide +kernel
theorem dX11_take_44 : decode cX11_take 44 = .ok (.iconst 1, 1) := by decide +kernel
theorem dX11_take_45 : decode cX11_take 45 = .ok (.iadd, 1) := by decide +kernel
theorem dX11_take_46 : decode cX11_take 46 = .ok (.putfield 144, 3) := by decide +kernel
theorem dX11_take_49 : decode cX11_take 49 = .ok (.goto (-49), 3) := by decide +kernel
theorem dX11_take_52 : decode cX11_take 52 = .ok (.aload_n 0, 1) := by decide +kernel
theorem dX11_take_53 : decode cX11_take 53 = .ok (.aload_n 0, 1) := by decide +kernel
theorem dX11_take_54 : decode cX11_take 54 = .ok (.getfield 144, 3) := by decide +kernel
theorem dX11_take_57 : decode cX11_take 57 = .ok (.putfield 138, 3) := by decide +kernel
theorem dX11_take_60 : decode cX11_take 60 = .ok (.aload_n 0, 1) := by decide +kernel
theorem dX11_take_61 : decode cX11_take 61 = .ok (.getfield 144, 3) := by decide +kernel
theorem dX11_take_64 : decode cX11_take 64 = .ok (.aload_n 0, 1) := by decide +kernel
theorem dX11_take_65 : decode cX11_take 65 = .ok (.getfield 141, 3) := by decide +kernel
theorem dX11_take_68 : decode cX11_take 68 = .ok (.if_icmp .ne 11, 3) := by decide +kernel
theorem dX11_take_71 : decode cX11_take 71 = .ok (.aload_n 0, 1) := by decide +kernel
theorem dX11_take_72 : decode cX11_take 72 = .ok (.iconst 0, 1) := by decide +kernel
theorem dX11_take_73 : decode cX11_take 73 = .ok (.putfield 147, 3) := by decide +kernel
theorem dX11_take_76 : decode cX11_take 76 = .ok (.goto 192, 3) := by decide +kernel
theorem dX11_take_79 : decode cX11_take 79 = .ok (.aload_n 0, 1) := by decide +kernel
theorem dX11_take_80 : decode cX11_take 80 = .ok (.aload_n 0, 1) := by decide +kernel
theorem dX11_take_81 : decode cX11_take 81 = .ok (.getfield 144, 3) := by decide +kernel
theorem dX11_take_84 : decode cX11_take 84 = .ok (.invokevirtual 150, 3) := by decide +kernel
theorem dX11_take_87 : decode cX11_take 87 = .ok (.ifCond .eq 62, 3) := by decide +kernel
theorem dX11_take_90 : decode cX11_take 90 = .ok (.aload_n 0, 1) := by decide +kernel
theorem dX11_take_91 : decode cX11_take 91 = .ok (.aload_n 0, 1) := by decide +kernel
theorem dX11_take_92 : decode cX11_take 92 = .ok (.getfield 144, 3) := by decide +kernel
theorem dX11_take_95 : decode cX11_take 95 = .ok (.invokevirtual 150, 3) := by decide +kernel
theorem dX11_take_98 : decode cX11_take 98 = .ok (.ifCond .eq 16, 3) := by decide +kernel
theorem dX11_take_101 : decode cX11_take 101 = .ok (.aload_n 0, 1) := by decide +kernel
theorem dX11_take_102 : decode cX11_take 102 = .ok (.dup, 1) := by decide +kernel
theorem dX11_take_103 : decode cX11_take 103 = .ok (.getfield 144, 3) := by decide +kernel
theorem dX11_take_106 : decode cX11_take 106 = .ok (.iconst 1, 1) := by decide +kernel
theorem dX11_take_107 : decode cX11_take 107 = .ok (.iadd, 1) := by decide +kernel
theorem dX11_take_108 : decode cX11_take 108 = .ok (.putfield 144, 3) := by decide +kernel
theorem dX11_take_111 : decode cX11_take 111 = .ok (.goto (-21), 3) := by decide +kernel
theorem dX11_take_114 : decode cX11_take 114 = .ok (.aload_n 0, 1) := by decide +kernel
theorem dX11_take_115 : decode cX11_take 115 = .ok (.aload_n 0, 1) := by decide +kernel
theorem dX11_take_116 : decode cX11_take 116 = .ok (.aload_n 0, 1) := by decide +kernel
theorem dX11_take_117 : decode cX11_take 117 = .ok (.getfield 138, 3) := by decide +kernel
theorem dX11_take_120 : decode cX11_take 120 = .ok (.aload_n 0, 1) := by decide +kernel
theorem dX11_take_121 : decode cX11_take 121 = .ok (.getfield 144, 3) := by decide +kernel
theorem dX11_take_124 : decode cX11_take 124 = .ok (.invokevirtual 154, 3) := by decide +kernel
theorem dX11_take_127 : decode cX11_take 127 = .ok (.putfield 158, 3) := by decide +kernel
theorem dX11_take_130 : decode cX11_take 130 = .ok (.aload_n 0, 1) := by decide +kernel
theorem dX11_take_131 : decode cX11_take 131 = .ok (.aload_n 0, 1) := by decide +kernel
theorem dX11_take_132 : decode cX11_take 132 = .ok (.getfield 158, 3) := by decide +kernel
theorem dX11_take_135 : decode cX11_take 135 = .ok (.ifCond .ge 7, 3) := by decide +kernel
theorem dX11_take_138 : decode cX11_take 138 = .ok (.iconst 4, 1) := by decide +kernel
theorem dX11_take_139 : decode cX11_take 139 = .ok (.goto 4, 3) := by decide +kernel
theorem dX11_take_142 : decode cX11_take 142 = .ok (.iconst 1, 1) := by decide +kernel
theorem dX11_take_143 : decode cX11_take 143 = .ok (.putfield 147, 3) := by decide +kernel
theorem dX11_take_146 : decode cX11_take 146 = .ok (.goto 122, 3) := by decide +kernel
theorem dX11_take_149 : decode cX11_take 149 = .ok (.aload_n 0, 1) := by decide +kernel
theorem dX11_take_150 : decode cX11_take 150 = .ok (.aload_n 0, 1) := by decide +kernel
theorem dX11_take_151 : decode cX11_take 151 = .ok (.getfield 144, 3) := by decide +kernel
theorem dX11_take_154 : decode cX11_take 154 = .ok (.invokevirtual 161, 3) := by decide +kernel
theorem dX11_take_157 : decode cX11_take 157 = .ok (.ifCond .eq 78, 3) := by decide +kernel
theorem dX11_take_160 : decode cX11_take 160 = .ok (.aload_n 0, 1) := by decide +kernel
theorem dX11_take_161 : decode cX11_take 161 = .ok (.iconst 2, 1) := by decide +kernel
theorem dX11_take_162 : decode cX11_take 162 = .ok (.putfield 147, 3) := by decide +kernel
theorem dX11_take_165 : decode cX11_take 165 = .ok (.aload_n 0, 1) := by decide +kernel
theorem dX11_take_166 : decode cX11_take 166 = .ok (.iconst 0, 1) := by decide +kernel
theorem dX11_take_167 : decode cX11_take 167 = .ok (.putfield 158, 3) := by decide +kernel
theorem dX11_take_170 : decode cX11_take 170 = .ok (.aload_n 0, 1) := by decide +kernel
theorem dX11_take_171 : decode cX11_take 171 = .ok (.aload_n 0, 1) := by decide +kernel
theorem dX11_take_172 : decode cX11_take 172 = .ok (.getfield 144, 3) := by decide +kernel
theorem dX11_take_175 : decode cX11_take 175 = .ok (.invokevirtual 161, 3) := by decide +kernel
theorem dX11_take_178 : decode cX11_take 178 = .ok (.ifCond .eq 90, 3) := by decide +kernel
theorem dX11_take_181 : decode cX11_take 181 = .ok (.aload_n 0, 1) := by decide +kernel
theorem dX11_take_182 : decode cX11_take 182 = .ok (.aload_n 0, 1) := by decide +kernel
theorem dX11_take_183 : decode cX11_take 183 = .ok (.getfield 158, 3) := by decide +kernel
theorem dX11_take_186 : decode cX11_take 186 = .ok (.sipush 9999, 3) := by decide +kernel
theorem dX11_take_189 : decode cX11_take 189 = .ok (.if_icmp .le 10, 3) := by decide +kernel
theorem dX11_take_192 : decode cX11_take 192 = .ok (.aload_n 0, 1) := by decide +kernel
theorem dX11_take_193 : decode cX11_take 193 = .ok (.getfield 158, 3) := by decide +kernel
theorem dX11_take_196 : decode cX11_take 196 = .ok (.goto 23, 3) := by decide +kernel
theorem dX11_take_199 : decode cX11_take 199 = .ok (.bipush 10, 2) := by decide +kernel
theorem dX11_take_201 : decode cX11_take 201 = .ok (.aload_n 0, 1) := by decide +kernel
theorem dX11_take_202 : decode cX11_take 202 = .ok (.getfield 158, 3) := by decide +kernel
theorem dX11_take_205 : decode cX11_take 205 = .ok (.imul, 1) := by decide +kernel
theorem dX11_take_206 : decode cX11_take 206 = .ok (.aload_n 0, 1) := by decide +kernel
theorem dX11_take_207 : decode cX11_take 207 = .ok (.getfield 7, 3) := by decide +kernel
theorem dX11_take_210 : decode cX11_take 210 = .ok (.aload_n 0, 1) := by decide +kernel
theorem dX11_take_211 : decode cX11_take 211 = .ok (.getfield 144, 3) := by decide +kernel
theorem dX11_take_214 : decode cX11_take 214 = .ok (.iaload, 1) := by decide +kernel
theorem dX11_take_215 : decode cX11_take 215 = .ok (.iadd, 1) := by decide +kernel
theorem dX11_take_216 : decode cX11_take 216 = .ok (.bipush 48, 2) := by decide +kernel
theorem dX11_take_218 : decode cX11_take 218 = .ok (.isub, 1) := by decide +kernel
theorem dX11_take_219 : decode cX11_take 219 = .ok (.putfield 158, 3) := by decide +kernel
theorem dX11_take_222 : decode cX11_take 222 = .ok (.aload_n 0, 1) := by decide +kernel
theorem dX11_take_223 : decode cX11_take 223 = .ok (.dup, 1) := by decide +kernel
theorem dX11_take_224 : decode cX11_take 224 = .ok (.getfield 144, 3) := by decide +kernel
theorem dX11_take_227 : decode cX11_take 227 = .ok (.iconst 1, 1) := by decide +kernel
theorem dX11_take_228 : decode cX11_take 228 = .ok (.iadd, 1) := by decide +kernel
theorem dX11_take_229 : decode cX11_take 229 = .ok (.putfield 144, 3) := by decide +kernel
theorem dX11_take_232 : decode cX11_take 232 = .ok (.goto (-62), 3) := by decide +kernel
theorem dX11_take_235 : decode cX11_take 235 = .ok (.aload_n 0, 1) := by decide +kernel
theorem dX11_take_236 : decode cX11_take 236 = .ok (.aload_n 0, 1) := by decide +kernel
theorem dX11_take_237 : decode cX11_take 237 = .ok (.getfield 7, 3) := by decide +kernel
theorem dX11_take_240 : decode cX11_take 240 = .ok (.aload_n 0, 1) := by decide +kernel
theorem dX11_take_241 : decode cX11_take 241 = .ok (.getfield 144, 3) := by decide +kernel
theorem dX11_take_244 : decode cX11_take 244 = .ok (.iaload, 1) := by decide +kernel
theorem dX11_take_245 : decode cX11_take 245 = .ok (.bipush 59, 2) := by decide +kernel
theorem dX11_take_247 : decode cX11_take 247 = .ok (.if_icmp .ne 7, 3) := by decide +kernel
theorem dX11_take_250 : decode cX11_take 250 = .ok (.iconst 3, 1) := by decide +kernel
theorem dX11_take_251 : decode cX11_take 251 = .ok (.goto 4, 3) := by decide +kernel
theorem dX11_take_254 : decode cX11_take 254 = .ok (.iconst 4, 1) := by decide +kernel
theorem dX11_take_255 : decode cX11_take 255 = .ok (.putfield 147, 3) := by decide +kernel
theorem dX11_take_258 : decode cX11_take 258 = .ok (.aload_n 0, 1) := by decide +kernel
theorem dX11_take_259 : decode cX11_take 259 = .ok (.dup, 1) := by decide +kernel
theorem dX11_take_260 : decode cX11_take 260 = .ok (.getfield 144, 3) := by decide +kernel
theorem dX11_take_263 : decode cX11_take 263 = .ok (.iconst 1, 1) := by decide +kernel
theorem dX11_take_264 : decode cX11_take 264 = .ok (.iadd, 1) := by decide +kernel
theorem dX11_take_265 : decode cX11_take 265 = .ok (.putfield 144, 3) := by decide +kernel
theorem dX11_take_268 : decode cX11_take 268 = .ok (.return_, 1) := by decide +kernel
theorem dX11_isWord_0 : decode cX11_isWord 0 = .ok (.aload_n 0, 1) := by decide +kernel
theorem dX11_isWord_1 : decode cX11_isWord 1 = .ok (.getfield 147, 3) := by decide +kernel
theorem dX11_isWord_4 : decode cX11_isWord 4 = .ok (.iconst 1, 1) := by decide +kernel
theorem dX11_isWord_5 : decode cX11_isWord 5 = .ok (.if_icmp .ne 15, 3) := by decide +kernel
theorem dX11_isWord_8 : decode cX11_isWord 8 = .ok (.aload_n 0, 1) := by decide +kernel
theorem dX11_isWord_9 : decode cX11_isWord 9 = .ok (.getfield 158, 3) := by decide +kernel
theorem dX11_isWord_12 : decode cX11_isWord 12 = .ok (.iload_n 1, 1) := by decide +kernel
theorem dX11_isWord_13 : decode cX11_isWord 13 = .ok (.if_icmp .ne 7, 3) := by decide +kernel
theorem dX11_isWord_16 : decode cX11_isWord 16 = .ok (.iconst 1, 1) := by decide +kernel
theorem dX11_isWord_17 : decode cX11_isWord 17 = .ok (.goto 4, 3) := by decide +kernel
theorem dX11_isWord_20 : decode cX11_isWord 20 = .ok (.iconst 0, 1) := by decide +kernel
theorem dX11_isWord_21 : decode cX11_isWord 21 = .ok (.ireturn, 1) := by decide +kernel
theorem dX11_isNumber_0 : decode cX11_isNumber 0 = .ok (.aload_n 0, 1) := by decide +kernel
theorem dX11_isNumber_1 : decode cX11_isNumber 1 = .ok (.getfield 147, 3) := by decide +kernel
theorem dX11_isNumber_4 : decode cX11_isNumber 4 = .ok (.iconst 2, 1) := by decide +kernel
theorem dX11_isNumber_5 : decode cX11_isNumber 5 = .ok (.if_icmp .eq 9, 3) := by decide +kernel
theorem dX11_isNumber_8 : decode cX11_isNumber 8 = .ok (.aload_n 0, 1) := by decide +kernel
theorem dX11_isNumber_9 : decode cX11_isNumber 9 = .ok (.iconst 1, 1) := by decide +kernel
theorem dX11_isNumber_10 : decode cX11_isNumber 10 = .ok (.invokevirtual 164, 3) := by decide +kernel
theorem dX11_isNumber_13 : decode cX11_isNumber 13 = .ok (.ireturn, 1) := by decide +kernel
theorem dX11_isNumber_14 : decode cX11_isNumber 14 = .ok (.aload_n 0, 1) := by decide +kernel
theorem dX11_isNumber_15 : decode cX11_isNumber 15 = .ok (.getfield 158, 3) := by decide +kernel
theorem dX11_isNumber_18 : decode cX11_isNumber 18 = .ok (.iload_n 1, 1) := by decide +kernel
theorem dX11_isNumber_19 : decode cX11_isNumber 19 = .ok (.if_icmp .lt 11, 3) := by decide +kernel
theorem dX11_isNumber_22 : decode cX11_isNumber 22 = .ok (.aload_n 0, 1) := by decide +kernel
theorem dX11_isNumber_23 : decode cX11_isNumber 23 = .ok (.getfield 158, 3) := by decide +kernel
theorem dX11_isNumber_26 : decode cX11_isNumber 26 = .ok (.iload_n 2, 1) := by decide +kernel
theorem dX11_isNumber_27 : decode cX11_isNumber 27 = .ok (.if_icmp .le 11, 3) := by decide +kernel
theorem dX11_isNumber_30 : decode cX11_isNumber 30 = .ok (.aload_n 0, 1) := by decide +kernel
theorem dX11_isNumber_31 : decode cX11_isNumber 31 = .ok (.iconst 2, 1) := by decide +kernel
theorem dX11_isNumber_32 : decode cX11_isNumber 32 = .ok (.invokevirtual 164, 3) := by decide +kernel
theorem dX11_isNumber_35 : decode cX11_isNumber 35 = .ok (.ifCond .eq 7, 3) := by decide +kernel
theorem dX11_isNumber_38 : decode cX11_isNumber 38 = .ok (.iconst 1, 1) := by decide +kernel
theorem dX11_isNumber_39 : decode cX11_isNumber 39 = .ok (.goto 4, 3) := by decide +kernel
theorem dX11_isNumber_42 : decode cX11_isNumber 42 = .ok (.iconst 0, 1) := by decide +kernel
theorem dX11_isNumber_43 : decode cX11_isNumber 43 = .ok (.ireturn, 1) := by decide +kernel
theorem dX11_plain_0 : decode cX11_plain 0 = .ok (.aload_n 0, 1) := by decide +kernel
theorem dX11_plain_1 : decode cX11_plain 1 = .ok (.getfield 86, 3) := by decide +kernel
theorem dX11_plain_4 : decode cX11_plain 4 = .ok (.iconst 4, 1) := by decide +kernel
theorem dX11_plain_5 : decode cX11_plain 5 = .ok (.iconst 4, 1) := by decide +kernel
theorem dX11_plain_6 : decode cX11_plain 6 = .ok (.iastore, 1) := by decide +kernel
theorem dX11_plain_7 : decode cX11_plain 7 = .ok (.aload_n 0, 1) := by decide +kernel
theorem dX11_plain_8 : decode cX11_plain 8 = .ok (.getfield 86, 3) := by decide +kernel
theorem dX11_plain_11 : decode cX11_plain 11 = .ok (.iconst 5, 1) := by decide +kernel
theorem dX11_plain_12 : decode cX11_plain 12 = .ok (.iconst 0, 1) := by decide +kernel
theorem dX11_plain_13 : decode cX11_plain 13 = .ok (.iastore, 1) := by decide +kernel
theorem dX11_plain_14 : decode cX11_plain 14 = .ok (.aload_n 0, 1) := by decide +kernel
theorem dX11_plain_15 : decode cX11_plain 15 = .ok (.getfield 86, 3) := by decide +kernel
theorem dX11_plain_18 : decode cX11_plain 18 = .ok (.bipush 6, 2) := by decide +kernel
theorem dX11_plain_20 : decode cX11_plain 20 = .ok (.bipush 20, 2) := by decide +kernel
theorem dX11_plain_22 : decode cX11_plain 22 = .ok (.iastore, 1) := by decide +kernel
theorem dX11_plain_23 : decode cX11_plain 23 = .ok (.aload_n 0, 1) := by decide +kernel
theorem dX11_plain_24 : decode cX11_plain 24 = .ok (.getfield 86, 3) := by decide +kernel
theorem dX11_plain_27 : decode cX11_plain 27 = .ok (.bipush 7, 2) := by decide +kernel
theorem dX11_plain_29 : decode cX11_plain 29 = .ok (.iconst 3, 1) := by decide +kernel
theorem dX11_plain_30 : decode cX11_plain 30 = .ok (.iastore, 1) := by decide +kernel
theorem dX11_plain_31 : decode cX11_plain 31 = .ok (.iconst 0, 1) := by decide +kernel
theorem dX11_plain_32 : decode cX11_plain 32 = .ok (.istore_n 1, 1) := by decide +kernel
theorem dX11_plain_33 : decode cX11_plain 33 = .ok (.iload_n 1, 1) := by decide +kernel
theorem dX11_plain_34 : decode cX11_plain 34 = .ok (.iconst 4, 1) := by decide +kernel
theorem dX11_plain_35 : decode cX11_plain 35 = .ok (.if_icmp .ge 16, 3) := by decide +kernel
theorem dX11_plain_38 : decode cX11_plain 38 = .ok (.aload_n 0, 1) := by decide +kernel
theorem dX11_plain_39 : decode cX11_plain 39 = .ok (.getfield 89, 3) := by decide +kernel
theorem dX11_plain_42 : decode cX11_plain 42 = .ok (.iload_n 1, 1) := by decide +kernel
theorem dX11_plain_43 : decode cX11_plain 43 = .ok (.iconst 0, 1) := by decide +kernel
theorem dX11_plain_44 : decode cX11_plain 44 = .ok (.bastore, 1) := by decide +kernel
theorem dX11_plain_45 : decode cX11_plain 45 = .ok (.iinc 1 1, 3) := by decide +kernel
theorem dX11_plain_48 : decode cX11_plain 48 = .ok (.goto (-15), 3) := by decide +kernel
theorem dX11_plain_51 : decode cX11_plain 51 = .ok (.aload_n 0, 1) := by decide +kernel
theorem dX11_plain_52 : decode cX11_plain 52 = .ok (.iconst 0, 1) := by decide +kernel
theorem dX11_plain_53 : decode cX11_plain 53 = .ok (.putfield 167, 3) := by decide +kernel
theorem dX11_plain_56 : decode cX11_plain 56 = .ok (.return_, 1) := by decide +kernel
theorem dX11_keep_0 : decode cX11_keep 0 = .ok (.iconst 0, 1) := by decide +kernel
theorem dX11_keep_1 : decode cX11_keep 1 = .ok (.istore_n 1, 1) := by decide +kernel
theorem dX11_keep_2 : decode cX11_keep 2 = .ok (.iload_n 1, 1) := by decide +kernel
theorem dX11_keep_3 : decode cX11_keep 3 = .ok (.iconst 4, 1) := by decide +kernel
theorem dX11_keep_4 : decode cX11_keep 4 = .ok (.if_icmp .ge 23, 3) := by decide +kernel
theorem dX11_keep_7 : decode cX11_keep 7 = .ok (.aload_n 0, 1) := by decide +kernel
theorem dX11_keep_8 : decode cX11_keep 8 = .ok (.getfield 86, 3) := by decide +kernel
theorem dX11_keep_11 : decode cX11_keep 11 = .ok (.iload_n 1, 1) := by decide +kernel
theorem dX11_keep_12 : decode cX11_keep 12 = .ok (.aload_n 0, 1) := by decide +kernel
theorem dX11_keep_13 : decode cX11_keep 13 = .ok (.getfield 86, 3) := by decide +kernel
theorem dX11_keep_16 : decode cX11_keep 16 = .ok (.iconst 4, 1) := by decide +kernel
theorem dX11_keep_17 : decode cX11_keep 17 = .ok (.iload_n 1, 1) := by decide +kernel
theorem dX11_keep_18 : decode cX11_keep 18 = .ok (.iadd, 1) := by decide +kernel
theorem dX11_keep_19 : decode cX11_keep 19 = .ok (.iaload, 1) := by decide +kernel
theorem dX11_keep_20 : decode cX11_keep 20 = .ok (.iastore, 1) := by decide +kernel
theorem dX11_keep_21 : decode cX11_keep 21 = .ok (.iinc 1 1, 3) := by decide +kernel
theorem dX11_keep_24 : decode cX11_keep 24 = .ok (.goto (-22), 3) := by decide +kernel
theorem dX11_keep_27 : decode cX11_keep 27 = .ok (.aload_n 0, 1) := by decide +kernel
theorem dX11_keep_28 : decode cX11_keep 28 = .ok (.aload_n 0, 1) := by decide +kernel
theorem dX11_keep_29 : decode cX11_keep 29 = .ok (.getfield 167, 3) := by decide +kernel
theorem dX11_keep_32 : decode cX11_keep 32 = .ok (.putfield 170, 3) := by decide +kernel
theorem dX11_keep_35 : decode cX11_keep 35 = .ok (.iconst 0, 1) := by decide +kernel
theorem dX11_keep_36 : decode cX11_keep 36 = .ok (.istore_n 1, 1) := by decide +kernel
theorem dX11_keep_37 : decode cX11_keep 37 = .ok (.iload_n 1, 1) := by decide +kernel
theorem dX11_keep_38 : decode cX11_keep 38 = .ok (.aload_n 0, 1) := by decide +kernel
theorem dX11_keep_39 : decode cX11_keep 39 = .ok (.getfield 170, 3) := by decide +kernel
theorem dX11_keep_42 : decode cX11_keep 42 = .ok (.if_icmp .ge 129, 3) := by decide +kernel
theorem dX11_keep_45 : decode cX11_keep 45 = .ok (.aload_n 0, 1) := by decide +kernel
theorem dX11_keep_46 : decode cX11_keep 46 = .ok (.getfield 62, 3) := by decide +kernel
theorem dX11_keep_49 : decode cX11_keep 49 = .ok (.iload_n 1, 1) := by decide +kernel
theorem dX11_keep_50 : decode cX11_keep 50 = .ok (.aload_n 0, 1) := by decide +kernel
theorem dX11_keep_51 : decode cX11_keep 51 = .ok (.getfield 62, 3) := by decide +kernel
theorem dX11_keep_54 : decode cX11_keep 54 = .ok (.bipush 24, 2) := by decide +kernel
theorem dX11_keep_56 : decode cX11_keep 56 = .ok (.iload_n 1, 1) := by decide +kernel
theorem dX11_keep_57 : decode cX11_keep 57 = .ok (.iadd, 1) := by decide +kernel
theorem dX11_keep_58 : decode cX11_keep 58 = .ok (.iaload, 1) := by decide +kernel
theorem dX11_keep_59 : decode cX11_keep 59 = .ok (.iastore, 1) := by decide +kernel
theorem dX11_keep_60 : decode cX11_keep 60 = .ok (.aload_n 0, 1) := by decide +kernel
theorem dX11_keep_61 : decode cX11_keep 61 = .ok (.getfield 65, 3) := by decide +kernel
theorem dX11_keep_64 : decode cX11_keep 64 = .ok (.iload_n 1, 1) := by decide +kernel
theorem dX11_keep_65 : decode cX11_keep 65 = .ok (.aload_n 0, 1) := by decide +kernel
theorem dX11_keep_66 : decode cX11_keep 66 = .ok (.getfield 65, 3) := by decide +kernel
theorem dX11_keep_69 : decode cX11_keep 69 = .ok (.bipush 24, 2) := by decide +kernel
theorem dX11_keep_71 : decode cX11_keep 71 = .ok (.iload_n 1, 1) := by decide +kernel
theorem dX11_keep_72 : decode cX11_keep 72 = .ok (.iadd, 1) := by decide +kernel
theorem dX11_keep_73 : decode cX11_keep 73 = .ok (.iaload, 1) := by decide +kernel
theorem dX11_keep_74 : decode cX11_keep 74 = .ok (.iastore, 1) := by decide +kernel
theorem dX11_keep_75 : decode cX11_keep 75 = .ok (.aload_n 0, 1) := by decide +kernel
theorem dX11_keep_76 : decode cX11_keep 76 = .ok (.getfield 68, 3) := by decide +kernel
theorem dX11_keep_79 : decode cX11_keep 79 = .ok (.iload_n 1, 1) := by decide +kernel
theorem dX11_keep_80 : decode cX11_keep 80 = .ok (.aload_n 0, 1) := by decide +kernel
theorem dX11_keep_81 : decode cX11_keep 81 = .ok (.getfield 68, 3) := by decide +kernel
theorem dX11_keep_84 : decode cX11_keep 84 = .ok (.bipush 24, 2) := by decide +kernel
theorem dX11_keep_86 : decode cX11_keep 86 = .ok (.iload_n 1, 1) := by decide +kernel
theorem dX11_keep_87 : decode cX11_keep 87 = .ok (.iadd, 1) := by decide +kernel
theorem dX11_keep_88 : decode cX11_keep 88 = .ok (.iaload, 1) := by decide +kernel
theorem dX11_keep_89 : decode cX11_keep 89 = .ok (.iastore, 1) := by decide +kernel
theorem dX11_keep_90 : decode cX11_keep 90 = .ok (.aload_n 0, 1) := by decide +kernel
theorem dX11_keep_91 : decode cX11_keep 91 = .ok (.getfield 71, 3) := by decide +kernel
theorem dX11_keep_94 : decode cX11_keep 94 = .ok (.iload_n 1, 1) := by decide +kernel
theorem dX11_keep_95 : decode cX11_keep 95 = .ok (.aload_n 0, 1) := by decide +kernel
theorem dX11_keep_96 : decode cX11_keep 96 = .ok (.getfield 71, 3) := by decide +kernel
theorem dX11_keep_99 : decode cX11_keep 99 = .ok (.bipush 24, 2) := by decide +kernel
theorem dX11_keep_101 : decode cX11_keep 101 = .ok (.iload_n 1, 1) := by decide +kernel
theorem dX11_keep_102 : decode cX11_keep 102 = .ok (.iadd, 1) := by decide +kernel
theorem dX11_keep_103 : decode cX11_keep 103 = .ok (.iaload, 1) := by decide +kernel
theorem dX11_keep_104 : decode cX11_keep 104 = .ok (.iastore, 1) := by decide +kernel
theorem dX11_keep_105 : decode cX11_keep 105 = .ok (.aload_n 0, 1) := by decide +kernel
theorem dX11_keep_106 : decode cX11_keep 106 = .ok (.getfield 74, 3) := by decide +kernel
theorem dX11_keep_109 : decode cX11_keep 109 = .ok (.iload_n 1, 1) := by decide +kernel
theorem dX11_keep_110 : decode cX11_keep 110 = .ok (.aload_n 0, 1) := by decide +kernel
theorem dX11_keep_111 : decode cX11_keep 111 = .ok (.getfield 74, 3) := by decide +kernel
theorem dX11_keep_114 : decode cX11_keep 114 = .ok (.bipush 24, 2) := by decide +kernel
theorem dX11_keep_116 : decode cX11_keep 116 = .ok (.iload_n 1, 1) := by decide +kernel
theorem dX11_keep_117 : decode cX11_keep 117 = .ok (.iadd, 1) := by decide +kernel
theorem dX11_keep_118 : decode cX11_keep 118 = .ok (.iaload, 1) := by decide +kernel
theorem dX11_keep_119 : decode cX11_keep 119 = .ok (.iastore, 1) := by decide +kernel
theorem dX11_keep_120 : decode cX11_keep 120 = .ok (.aload_n 0, 1) := by decide +kernel
theorem dX11_keep_121 : decode cX11_keep 121 = .ok (.getfield 77, 3) := by decide +kernel
theorem dX11_keep_124 : decode cX11_keep 124 = .ok (.iload_n 1, 1) := by decide +kernel
theorem dX11_keep_125 : decode cX11_keep 125 = .ok (.aload_n 0, 1) := by decide +kernel
theorem dX11_keep_126 : decode cX11_keep 126 = .ok (.getfield 77, 3) := by decide +kernel
theorem dX11_keep_129 : decode cX11_keep 129 = .ok (.bipush 24, 2) := by decide +kernel
theorem dX11_keep_131 : decode cX11_keep 131 = .ok (.iload_n 1, 1) := by decide +kernel
theorem dX11_keep_132 : decode cX11_keep 132 = .ok (.iadd, 1) := by decide +kernel
theorem dX11_keep_133 : decode cX11_keep 133 = .ok (.iaload, 1) := by decide +kernel
theorem dX11_keep_134 : decode cX11_keep 134 = .ok (.iastore, 1) := by decide +kernel
theorem dX11_keep_135 : decode cX11_keep 135 = .ok (.aload_n 0, 1) := by decide +kernel
theorem dX11_keep_136 : decode cX11_keep 136 = .ok (.getfield 80, 3) := by decide +kernel
theorem dX11_keep_139 : decode cX11_keep 139 = .ok (.iload_n 1, 1) := by decide +kernel
theorem dX11_keep_140 : decode cX11_keep 140 = .ok (.aload_n 0, 1) := by decide +kernel
theorem dX11_keep_141 : decode cX11_keep 141 = .ok (.getfield 80, 3) := by decide +kernel
theorem dX11_keep_144 : decode cX11_keep 144 = .ok (.bipush 24, 2) := by decide +kernel
theorem dX11_keep_146 : decode cX11_keep 146 = .ok (.iload_n 1, 1) := by decide +kernel
theorem dX11_keep_147 : decode cX11_keep 147 = .ok (.iadd, 1) := by decide +kernel
theorem dX11_keep_148 : decode cX11_keep 148 = .ok (.iaload, 1) := by decide +kernel
theorem dX11_keep_149 : decode cX11_keep 149 = .ok (.iastore, 1) := by decide +kernel
theorem dX11_keep_150 : decode cX11_keep 150 = .ok (.aload_n 0, 1) := by decide +kernel
theorem dX11_keep_151 : decode cX11_keep 151 = .ok (.getfield 83, 3) := by decide +kernel
theorem dX11_keep_154 : decode cX11_keep 154 = .ok (.iload_n 1, 1) := by decide +kernel
theorem dX11_keep_155 : decode cX11_keep 155 = .ok (.aload_n 0, 1) := by decide +kernel
theorem dX11_keep_156 : decode cX11_keep 156 = .ok (.getfield 83, 3) := by decide +kernel
theorem dX11_keep_159 : decode cX11_keep 159 = .ok (.bipush 24, 2) := by decide +kernel
theorem dX11_keep_161 : decode cX11_keep 161 = .ok (.iload_n 1, 1) := by decide +kernel
theorem dX11_keep_162 : decode cX11_keep 162 = .ok (.iadd, 1) := by decide +kernel
theorem dX11_keep_163 : decode cX11_keep 163 = .ok (.iaload, 1) := by decide +kernel
theorem dX11_keep_164 : decode cX11_keep 164 = .ok (.iastore, 1) := by decide +kernel
theorem dX11_keep_165 : decode cX11_keep 165 = .ok (.iinc 1 1, 3) := by decide +kernel
theorem dX11_keep_168 : decode cX11_keep 168 = .ok (.goto (-131), 3) := by decide +kernel
theorem dX11_keep_171 : decode cX11_keep 171 = .ok (.return_, 1) := by decide +kernel
theorem dX11_span_0 : decode cX11_span 0 = .ok (.aload_n 0, 1) := by decide +kernel
theorem dX11_span_1 : decode cX11_span 1 = .ok (.iconst 0, 1) := by decide +kernel
theorem dX11_span_2 : decode cX11_span 2 = .ok (.iload_n 1, 1) := by decide +kernel
theorem dX11_span_3 : decode cX11_span 3 = .ok (.invokevirtual 173, 3) := by decide +kernel
theorem dX11_span_6 : decode cX11_span 6 = .ok (.ifCond .ne 5, 3) := by decide +kernel
theorem dX11_span_9 : decode cX11_span 9 = .ok (.iconst 0, 1) := by decide +kernel
theorem dX11_span_10 : decode cX11_span 10 = .ok (.ireturn, 1) := by decide +kernel
theorem dX11_span_11 : decode cX11_span 11 = .ok (.aload_n 0, 1) := by decide +kernel
theorem dX11_span_12 : decode cX11_span 12 = .ok (.aload_n 0, 1) := by decide +kernel
theorem dX11_span_13 : decode cX11_span 13 = .ok (.getfield 158, 3) := by decide +kernel
theorem dX11_span_16 : decode cX11_span 16 = .ok (.putfield 177, 3) := by decide +kernel
theorem dX11_span_19 : decode cX11_span 19 = .ok (.aload_n 0, 1) := by decide +kernel
theorem dX11_span_20 : decode cX11_span 20 = .ok (.invokevirtual 180, 3) := by decide +kernel
theorem dX11_span_23 : decode cX11_span 23 = .ok (.aload_n 0, 1) := by decide +kernel
theorem dX11_span_24 : decode cX11_span 24 = .ok (.bipush 13, 2) := by decide +kernel
theorem dX11_span_26 : decode cX11_span 26 = .ok (.invokevirtual 183, 3) := by decide +kernel
theorem dX11_span_29 : decode cX11_span 29 = .ok (.ifCond .ne 9, 3) := by decide +kernel
theorem dX11_span_32 : decode cX11_span 32 = .ok (.aload_n 0, 1) := by decide +kernel
theorem dX11_span_33 : decode cX11_span 33 = .ok (.iconst 1, 1) := by decide +kernel
theorem dX11_span_34 : decode cX11_span 34 = .ok (.invokevirtual 164, 3) := by decide +kernel
theorem dX11_span_37 : decode cX11_span 37 = .ok (.ireturn, 1) := by decide +kernel
theorem dX11_span_38 : decode cX11_span 38 = .ok (.aload_n 0, 1) := by decide +kernel
theorem dX11_span_39 : decode cX11_span 39 = .ok (.invokevirtual 180, 3) := by decide +kernel
theorem dX11_span_42 : decode cX11_span 42 = .ok (.aload_n 0, 1) := by decide +kernel
theorem dX11_span_43 : decode cX11_span 43 = .ok (.aload_n 0, 1) := by decide +kernel
theorem dX11_span_44 : decode cX11_span 44 = .ok (.getfield 177, 3) := by decide +kernel
theorem dX11_span_47 : decode cX11_span 47 = .ok (.iload_n 1, 1) := by decide +kernel
theorem dX11_span_48 : decode cX11_span 48 = .ok (.invokevirtual 173, 3) := by decide +kernel
theorem dX11_span_51 : decode cX11_span 51 = .ok (.ifCond .ne 5, 3) := by decide +kernel
theorem dX11_span_54 : decode cX11_span 54 = .ok (.iconst 0, 1) := by decide +kernel
theorem dX11_span_55 : decode cX11_span 55 = .ok (.ireturn, 1) := by decide +kernel
theorem dX11_span_56 : decode cX11_span 56 = .ok (.aload_n 0, 1) := by decide +kernel
theorem dX11_span_57 : decode cX11_span 57 = .ok (.aload_n 0, 1) := by decide +kernel
theorem dX11_span_58 : decode cX11_span 58 = .ok (.getfield 158, 3) := by decide +kernel
theorem dX11_span_61 : decode cX11_span 61 = .ok (.putfield 186, 3) := by decide +kernel
theorem dX11_span_64 : decode cX11_span 64 = .ok (.aload_n 0, 1) := by decide +kernel
theorem dX11_span_65 : decode cX11_span 65 = .ok (.invokevirtual 180, 3) := by decide +kernel
theorem dX11_span_68 : decode cX11_span 68 = .ok (.iconst 1, 1) := by decide +kernel
theorem dX11_span_69 : decode cX11_span 69 = .ok (.ireturn, 1) := by decide +kernel
theorem dX11_classRow_0 : decode cX11_classRow 0 = .ok (.aload_n 0, 1) := by decide +kernel
theorem dX11_classRow_1 : decode cX11_classRow 1 = .ok (.iconst 0, 1) := by decide +kernel
theorem dX11_classRow_2 : decode cX11_classRow 2 = .ok (.iconst 3, 1) := by decide +kernel
theorem dX11_classRow_3 : decode cX11_classRow 3 = .ok (.invokevirtual 173, 3) := by decide +kernel
theorem dX11_classRow_6 : decode cX11_classRow 6 = .ok (.ifCond .ne 5, 3) := by decide +kernel
theorem dX11_classRow_9 : decode cX11_classRow 9 = .ok (.iconst 0, 1) := by decide +kernel
theorem dX11_classRow_10 : decode cX11_classRow 10 = .ok (.ireturn, 1) := by decide +kernel
theorem dX11_classRow_11 : decode cX11_classRow 11 = .ok (.aload_n 0, 1) := by decide +kernel
theorem dX11_classRow_12 : decode cX11_classRow 12 = .ok (.getfield 74, 3) := by decide +kernel
theorem dX11_classRow_15 : decode cX11_classRow 15 = .ok (.iload_n 1, 1) := by decide +kernel
theorem dX11_classRow_16 : decode cX11_classRow 16 = .ok (.iaload, 1) := by decide +kernel
theorem dX11_classRow_17 : decode cX11_classRow 17 = .ok (.aload_n 0, 1) := by decide +kernel
theorem dX11_classRow_18 : decode cX11_classRow 18 = .ok (.getfield 158, 3) := by decide +kernel
theorem dX11_classRow_21 : decode cX11_classRow 21 = .ok (.ishr, 1) := by decide +kernel
theorem dX11_classRow_22 : decode cX11_classRow 22 = .ok (.iconst 1, 1) := by decide +kernel
theorem dX11_classRow_23 : decode cX11_classRow 23 = .ok (.iand, 1) := by decide +kernel
theorem dX11_classRow_24 : decode cX11_classRow 24 = .ok (.iconst 1, 1) := by decide +kernel
theorem dX11_classRow_25 : decode cX11_classRow 25 = .ok (.if_icmp .ne 9, 3) := by decide +kernel
theorem dX11_classRow_28 : decode cX11_classRow 28 = .ok (.aload_n 0, 1) := by decide +kernel
theorem dX11_classRow_29 : decode cX11_classRow 29 = .ok (.iconst 3, 1) := by decide +kernel
theorem dX11_classRow_30 : decode cX11_classRow 30 = .ok (.invokevirtual 164, 3) := by decide +kernel
theorem dX11_classRow_33 : decode cX11_classRow 33 = .ok (.ireturn, 1) := by decide +kernel
theorem dX11_classRow_34 : decode cX11_classRow 34 = .ok (.aload_n 0, 1) := by decide +kernel
theorem dX11_classRow_35 : decode cX11_classRow 35 = .ok (.getfield 74, 3) := by decide +kernel
theorem dX11_classRow_38 : decode cX11_classRow 38 = .ok (.iload_n 1, 1) := by decide +kernel
theorem dX11_classRow_39 : decode cX11_classRow 39 = .ok (.dup2, 1) := by decide +kernel
theorem dX11_classRow_40 : decode cX11_classRow 40 = .ok (.iaload, 1) := by decide +kernel
theorem dX11_classRow_41 : decode cX11_classRow 41 = .ok (.iconst 1, 1) := by decide +kernel
theorem dX11_classRow_42 : decode cX11_classRow 42 = .ok (.aload_n 0, 1) := by decide +kernel
theorem dX11_classRow_43 : decode cX11_classRow 43 = .ok (.getfield 158, 3) := by decide +kernel
theorem dX11_classRow_46 : decode cX11_classRow 46 = .ok (.ishl, 1) := by decide +kernel
theorem dX11_classRow_47 : decode cX11_classRow 47 = .ok (.ior, 1) := by decide +kernel
theorem dX11_classRow_48 : decode cX11_classRow 48 = .ok (.iastore, 1) := by decide +kernel
theorem dX11_classRow_49 : decode cX11_classRow 49 = .ok (.aload_n 0, 1) := by decide +kernel
theorem dX11_classRow_50 : decode cX11_classRow 50 = .ok (.invokevirtual 180, 3) := by decide +kernel
theorem dX11_classRow_53 : decode cX11_classRow 53 = .ok (.aload_n 0, 1) := by decide +kernel
theorem dX11_classRow_54 : decode cX11_classRow 54 = .ok (.bipush 14, 2) := by decide +kernel
theorem dX11_classRow_56 : decode cX11_classRow 56 = .ok (.invokevirtual 183, 3) := by decide +kernel
theorem dX11_classRow_59 : decode cX11_classRow 59 = .ok (.ifCond .ne 5, 3) := by decide +kernel
theorem dX11_classRow_62 : decode cX11_classRow 62 = .ok (.iconst 1, 1) := by decide +kernel
theorem dX11_classRow_63 : decode cX11_classRow 63 = .ok (.ireturn, 1) := by decide +kernel
theorem dX11_classRow_64 : decode cX11_classRow 64 = .ok (.aload_n 0, 1) := by decide +kernel
theorem dX11_classRow_65 : decode cX11_classRow 65 = .ok (.invokevirtual 180, 3) := by decide +kernel
theorem dX11_classRow_68 : decode cX11_classRow 68 = .ok (.goto (-68), 3) := by decide +kernel
theorem dX11_whom_0 : decode cX11_whom 0 = .ok (.iconst 0, 1) := by decide +kernel
theorem dX11_whom_1 : decode cX11_whom 1 = .ok (.istore_n 2, 1) := by decide +kernel
theorem dX11_whom_2 : decode cX11_whom 2 = .ok (.iconst 0, 1) := by decide +kernel
theorem dX11_whom_3 : decode cX11_whom 3 = .ok (.istore_n 3, 1) := by decide +kernel
theorem dX11_whom_4 : decode cX11_whom 4 = .ok (.aload_n 0, 1) := by decide +kernel
theorem dX11_whom_5 : decode cX11_whom 5 = .ok (.getfield 68, 3) := by decide +kernel
theorem dX11_whom_8 : decode cX11_whom 8 = .ok (.iload_n 1, 1) := by decide +kernel
theorem dX11_whom_9 : decode cX11_whom 9 = .ok (.iconst 0, 1) := by decide +kernel
theorem dX11_whom_10 : decode cX11_whom 10 = .ok (.iastore, 1) := by decide +kernel
theorem dX11_whom_11 : decode cX11_whom 11 = .ok (.aload_n 0, 1) := by decide +kernel
theorem dX11_whom_12 : decode cX11_whom 12 = .ok (.getfield 71, 3) := by decide +kernel
theorem dX11_whom_15 : decode cX11_whom 15 = .ok (.iload_n 1, 1) := by decide +kernel
theorem dX11_whom_16 : decode cX11_whom 16 = .ok (.sipush 1000, 3) := by decide +kernel
theorem dX11_whom_19 : decode cX11_whom 19 = .ok (.iastore, 1) := by decide +kernel
theorem dX11_whom_20 : decode cX11_whom 20 = .ok (.aload_n 0, 1) := by decide +kernel
theorem dX11_whom_21 : decode cX11_whom 21 = .ok (.getfield 74, 3) := by decide +kernel
theorem dX11_whom_24 : decode cX11_whom 24 = .ok (.iload_n 1, 1) := by decide +kernel
theorem dX11_whom_25 : decode cX11_whom 25 = .ok (.iconst 0, 1) := by decide +kernel
theorem dX11_whom_26 : decode cX11_whom 26 = .ok (.iastore, 1) := by decide +kernel
theorem dX11_whom_27 : decode cX11_whom 27 = .ok (.aload_n 0, 1) := by decide +kernel
theorem dX11_whom_28 : decode cX11_whom 28 = .ok (.getfield 77, 3) := by decide +kernel
theorem dX11_whom_31 : decode cX11_whom 31 = .ok (.iload_n 1, 1) := by decide +kernel
theorem dX11_whom_32 : decode cX11_whom 32 = .ok (.iconst 0, 1) := by decide +kernel
theorem dX11_whom_33 : decode cX11_whom 33 = .ok (.iastore, 1) := by decide +kernel
theorem dX11_whom_34 : decode cX11_whom 34 = .ok (.aload_n 0, 1) := by decide +kernel
theorem dX11_whom_35 : decode cX11_whom 35 = .ok (.getfield 80, 3) := by decide +kernel
theorem dX11_whom_38 : decode cX11_whom 38 = .ok (.iload_n 1, 1) := by decide +kernel
theorem dX11_whom_39 : decode cX11_whom 39 = .ok (.sipush 1000, 3) := by decide +kernel
theorem dX11_whom_42 : decode cX11_whom 42 = .ok (.iastore, 1) := by decide +kernel
theorem dX11_whom_43 : decode cX11_whom 43 = .ok (.aload_n 0, 1) := by decide +kernel
theorem dX11_whom_44 : decode cX11_whom 44 = .ok (.getfield 83, 3) := by decide +kernel
theorem dX11_whom_47 : decode cX11_whom 47 = .ok (.iload_n 1, 1) := by decide +kernel
theorem dX11_whom_48 : decode cX11_whom 48 = .ok (.iconst 0, 1) := by decide +kernel
theorem dX11_whom_49 : decode cX11_whom 49 = .ok (.iastore, 1) := by decide +kernel
theorem dX11_whom_50 : decode cX11_whom 50 = .ok (.aload_n 0, 1) := by decide +kernel
theorem dX11_whom_51 : decode cX11_whom 51 = .ok (.getfield 147, 3) := by decide +kernel
theorem dX11_whom_54 : decode cX11_whom 54 = .ok (.iconst 1, 1) := by decide +kernel
theorem dX11_whom_55 : decode cX11_whom 55 = .ok (.if_icmp .ne 267, 3) := by decide +kernel
theorem dX11_whom_58 : decode cX11_whom 58 = .ok (.aload_n 0, 1) := by decide +kernel
theorem dX11_whom_59 : decode cX11_whom 59 = .ok (.getfield 158, 3) := by decide +kernel
theorem dX11_whom_62 : decode cX11_whom 62 = .ok (.bipush 8, 2) := by decide +kernel
theorem dX11_whom_64 : decode cX11_whom 64 = .ok (.if_icmp .lt 258, 3) := by decide +kernel
theorem dX11_whom_67 : decode cX11_whom 67 = .ok (.aload_n 0, 1) := by decide +kernel
theorem dX11_whom_68 : decode cX11_whom 68 = .ok (.getfield 158, 3) := by decide +kernel
theorem dX11_whom_71 : decode cX11_whom 71 = .ok (.bipush 12, 2) := by decide +kernel
theorem dX11_whom_73 : decode cX11_whom 73 = .ok (.if_icmp .gt 249, 3) := by decide +kernel
theorem dX11_whom_76 : decode cX11_whom 76 = .ok (.aload_n 0, 1) := by decide +kernel
theorem dX11_whom_77 : decode cX11_whom 77 = .ok (.getfield 158, 3) := by decide +kernel
theorem dX11_whom_80 : decode cX11_whom 80 = .ok (.istore 4, 2) := by decide +kernel
theorem dX11_whom_82 : decode cX11_whom 82 = .ok (.iload 4, 2) := by decide +kernel
theorem dX11_whom_84 : decode cX11_whom 84 = .ok (.bipush 8, 2) := by decide +kernel
theorem dX11_whom_86 : decode cX11_whom 86 = .ok (.if_icmp .ne 7, 3) := by decide +kernel
theorem dX11_whom_89 : decode cX11_whom 89 = .ok (.iload_n 2, 1) := by decide +kernel
theorem dX11_whom_90 : decode cX11_whom 90 = .ok (.goto 52, 3) := by decide +kernel
theorem dX11_whom_93 : decode cX11_whom 93 = .ok (.iload 4, 2) := by decide +kernel
theorem dX11_whom_95 : decode cX11_whom 95 = .ok (.bipush 9, 2) := by decide +kernel
theorem dX11_whom_97 : decode cX11_whom 97 = .ok (.if_icmp .ne 20, 3) := by decide +kernel
theorem dX11_whom_100 : decode cX11_whom 100 = .ok (.aload_n 0, 1) := by decide +kernel
theorem dX11_whom_101 : decode cX11_whom 101 = .ok (.getfield 74, 3) := by decide +kernel
theorem dX11_whom_104 : decode cX11_whom 104 = .ok (.iload_n 1, 1) := by decide +kernel
theorem dX11_whom_105 : decode cX11_whom 105 = .ok (.iaload, 1) := by decide +kernel
theorem dX11_whom_106 : decode cX11_whom 106 = .ok (.ifCond .le 7, 3) := by decide +kernel
theorem dX11_whom_109 : decode cX11_whom 109 = .ok (.iconst 1, 1) := by decide +kernel
theorem dX11_whom_110 : decode cX11_whom 110 = .ok (.goto 32, 3) := by decide +kernel
theorem dX11_whom_113 : decode cX11_whom 113 = .ok (.iconst 0, 1) := by decide +kernel
theorem dX11_whom_114 : decode cX11_whom 114 = .ok (.goto 28, 3) := by decide +kernel
theorem dX11_whom_117 : decode cX11_whom 117 = .ok (.iload 4, 2) := by decide +kernel
theorem dX11_whom_119 : decode cX11_whom 119 = .ok (.bipush 10, 2) := by decide +kernel
theorem dX11_whom_121 : decode cX11_whom 121 = .ok (.if_icmp .ne 7, 3) := by decide +kernel
theorem dX11_whom_124 : decode cX11_whom 124 = .ok (.iload_n 3, 1) := by decide +kernel
theorem dX11_whom_125 : decode cX11_whom 125 = .ok (.goto 17, 3) := by decide +kernel
theorem dX11_whom_128 : decode cX11_whom 128 = .ok (.aload_n 0, 1) := by decide +kernel
theorem dX11_whom_129 : decode cX11_whom 129 = .ok (.getfield 83, 3) := by decide +kernel
theorem dX11_whom_132 : decode cX11_whom 132 = .ok (.iload_n 1, 1) := by decide +kernel
theorem dX11_whom_133 : decode cX11_whom 133 = .ok (.iaload, 1) := by decide +kernel
theorem dX11_whom_134 : decode cX11_whom 134 = .ok (.ifCond .le 7, 3) := by decide +kernel
theorem dX11_whom_137 : decode cX11_whom 137 = .ok (.iconst 1, 1) := by decide +kernel
theorem dX11_whom_138 : decode cX11_whom 138 = .ok (.goto 4, 3) := by decide +kernel
theorem dX11_whom_141 : decode cX11_whom 141 = .ok (.iconst 0, 1) := by decide +kernel
theorem dX11_whom_142 : decode cX11_whom 142 = .ok (.istore 5, 2) := by decide +kernel
theorem dX11_whom_144 : decode cX11_whom 144 = .ok (.iload 5, 2) := by decide +kernel
theorem dX11_whom_146 : decode cX11_whom 146 = .ok (.ifCond .eq 9, 3) := by decide +kernel
theorem dX11_whom_149 : decode cX11_whom 149 = .ok (.aload_n 0, 1) := by decide +kernel
theorem dX11_whom_150 : decode cX11_whom 150 = .ok (.iconst 3, 1) := by decide +kernel
theorem dX11_whom_151 : decode cX11_whom 151 = .ok (.invokevirtual 164, 3) := by decide +kernel
theorem dX11_whom_154 : decode cX11_whom 154 = .ok (.ireturn, 1) := by decide +kernel
theorem dX11_whom_155 : decode cX11_whom 155 = .ok (.aload_n 0, 1) := by decide +kernel
theorem dX11_whom_156 : decode cX11_whom 156 = .ok (.invokevirtual 180, 3) := by decide +kernel
theorem dX11_whom_159 : decode cX11_whom 159 = .ok (.iload 4, 2) := by decide +kernel
theorem dX11_whom_161 : decode cX11_whom 161 = .ok (.bipush 8, 2) := by decide +kernel
theorem dX11_whom_163 : decode cX11_whom 163 = .ok (.if_icmp .eq 10, 3) := by decide +kernel
theorem dX11_whom_166 : decode cX11_whom 166 = .ok (.iload 4, 2) := by decide +kernel
theorem dX11_whom_168 : decode cX11_whom 168 = .ok (.bipush 10, 2) := by decide +kernel
theorem dX11_whom_170 : decode cX11_whom 170 = .ok (.if_icmp .ne 114, 3) := by decide +kernel
theorem dX11_whom_173 : decode cX11_whom 173 = .ok (.aload_n 0, 1) := by decide +kernel
theorem dX11_whom_174 : decode cX11_whom 174 = .ok (.iload 4, 2) := by decide +kernel
theorem dX11_whom_176 : decode cX11_whom 176 = .ok (.bipush 8, 2) := by decide +kernel
theorem dX11_whom_178 : decode cX11_whom 178 = .ok (.if_icmp .ne 9, 3) := by decide +kernel
theorem dX11_whom_181 : decode cX11_whom 181 = .ok (.sipush 130, 3) := by decide +kernel
theorem dX11_whom_184 : decode cX11_whom 184 = .ok (.goto 5, 3) := by decide +kernel
theorem dX11_whom_187 : decode cX11_whom 187 = .ok (.bipush 79, 2) := by decide +kernel
theorem dX11_whom_189 : decode cX11_whom 189 = .ok (.invokevirtual 189, 3) := by decide +kernel
theorem dX11_whom_192 : decode cX11_whom 192 = .ok (.ifCond .ne 5, 3) := by decide +kernel
theorem dX11_whom_195 : decode cX11_whom 195 = .ok (.iconst 0, 1) := by decide +kernel
theorem dX11_whom_196 : decode cX11_whom 196 = .ok (.ireturn, 1) := by decide +kernel
theorem dX11_whom_197 : decode cX11_whom 197 = .ok (.iload_n 2, 1) := by decide +kernel
theorem dX11_whom_198 : decode cX11_whom 198 = .ok (.ifCond .ne 10, 3) := by decide +kernel
theorem dX11_whom_201 : decode cX11_whom 201 = .ok (.iload 4, 2) := by decide +kernel
theorem dX11_whom_203 : decode cX11_whom 203 = .ok (.bipush 8, 2) := by decide +kernel
theorem dX11_whom_205 : decode cX11_whom 205 = .ok (.if_icmp .ne 7, 3) := by decide +kernel
theorem dX11_whom_208 : decode cX11_whom 208 = .ok (.iconst 1, 1) := by decide +kernel
theorem dX11_whom_209 : decode cX11_whom 209 = .ok (.goto 4, 3) := by decide +kernel
theorem dX11_whom_212 : decode cX11_whom 212 = .ok (.iconst 0, 1) := by decide +kernel
theorem dX11_whom_213 : decode cX11_whom 213 = .ok (.istore_n 2, 1) := by decide +kernel
theorem dX11_whom_214 : decode cX11_whom 214 = .ok (.iload_n 3, 1) := by decide +kernel
theorem dX11_whom_215 : decode cX11_whom 215 = .ok (.ifCond .ne 10, 3) := by decide +kernel
theorem dX11_whom_218 : decode cX11_whom 218 = .ok (.iload 4, 2) := by decide +kernel
theorem dX11_whom_220 : decode cX11_whom 220 = .ok (.bipush 10, 2) := by decide +kernel
theorem dX11_whom_222 : decode cX11_whom 222 = .ok (.if_icmp .ne 7, 3) := by decide +kernel
theorem dX11_whom_225 : decode cX11_whom 225 = .ok (.iconst 1, 1) := by decide +kernel
theorem dX11_whom_226 : decode cX11_whom 226 = .ok (.goto 4, 3) := by decide +kernel
theorem dX11_whom_229 : decode cX11_whom 229 = .ok (.iconst 0, 1) := by decide +kernel
theorem dX11_whom_230 : decode cX11_whom 230 = .ok (.istore_n 3, 1) := by decide +kernel
theorem dX11_whom_231 : decode cX11_whom 231 = .ok (.iload 4, 2) := by decide +kernel
theorem dX11_whom_233 : decode cX11_whom 233 = .ok (.bipush 8, 2) := by decide +kernel
theorem dX11_whom_235 : decode cX11_whom 235 = .ok (.if_icmp .ne 26, 3) := by decide +kernel
theorem dX11_whom_238 : decode cX11_whom 238 = .ok (.aload_n 0, 1) := by decide +kernel
theorem dX11_whom_239 : decode cX11_whom 239 = .ok (.getfield 68, 3) := by decide +kernel
theorem dX11_whom_242 : decode cX11_whom 242 = .ok (.iload_n 1, 1) := by decide +kernel
theorem dX11_whom_243 : decode cX11_whom 243 = .ok (.aload_n 0, 1) := by decide +kernel
theorem dX11_whom_244 : decode cX11_whom 244 = .ok (.getfield 177, 3) := by decide +kernel
theorem dX11_whom_247 : decode cX11_whom 247 = .ok (.iastore, 1) := by decide +kernel
theorem dX11_whom_248 : decode cX11_whom 248 = .ok (.aload_n 0, 1) := by decide +kernel
theorem dX11_whom_249 : decode cX11_whom 249 = .ok (.getfield 71, 3) := by decide +kernel
theorem dX11_whom_252 : decode cX11_whom 252 = .ok (.iload_n 1, 1) := by decide +kernel
theorem dX11_whom_253 : decode cX11_whom 253 = .ok (.aload_n 0, 1) := by decide +kernel
theorem dX11_whom_254 : decode cX11_whom 254 = .ok (.getfield 186, 3) := by decide +kernel
theorem dX11_whom_257 : decode cX11_whom 257 = .ok (.iastore, 1) := by decide +kernel
theorem dX11_whom_258 : decode cX11_whom 258 = .ok (.goto 61, 3) := by decide +kernel
theorem dX11_whom_261 : decode cX11_whom 261 = .ok (.aload_n 0, 1) := by decide +kernel
theorem dX11_whom_262 : decode cX11_whom 262 = .ok (.getfield 77, 3) := by decide +kernel
theorem dX11_whom_265 : decode cX11_whom 265 = .ok (.iload_n 1, 1) := by decide +kernel
theorem dX11_whom_266 : decode cX11_whom 266 = .ok (.aload_n 0, 1) := by decide +kernel
theorem dX11_whom_267 : decode cX11_whom 267 = .ok (.getfield 177, 3) := by decide +kernel
theorem dX11_whom_270 : decode cX11_whom 270 = .ok (.iastore, 1) := by decide +kernel
theorem dX11_whom_271 : decode cX11_whom 271 = .ok (.aload_n 0, 1) := by decide +kernel
theorem dX11_whom_272 : decode cX11_whom 272 = .ok (.getfield 80, 3) := by decide +kernel
theorem dX11_whom_275 : decode cX11_whom 275 = .ok (.iload_n 1, 1) := by decide +kernel
theorem dX11_whom_276 : decode cX11_whom 276 = .ok (.aload_n 0, 1) := by decide +kernel
theorem dX11_whom_277 : decode cX11_whom 277 = .ok (.getfield 186, 3) := by decide +kernel
theorem dX11_whom_280 : decode cX11_whom 280 = .ok (.iastore, 1) := by decide +kernel
theorem dX11_whom_281 : decode cX11_whom 281 = .ok (.goto 38, 3) := by decide +kernel
theorem dX11_whom_284 : decode cX11_whom 284 = .ok (.iload 4, 2) := by decide +kernel
theorem dX11_whom_286 : decode cX11_whom 286 = .ok (.bipush 9, 2) := by decide +kernel
theorem dX11_whom_288 : decode cX11_whom 288 = .ok (.if_icmp .ne 13, 3) := by decide +kernel
theorem dX11_whom_291 : decode cX11_whom 291 = .ok (.aload_n 0, 1) := by decide +kernel
theorem dX11_whom_292 : decode cX11_whom 292 = .ok (.iload_n 1, 1) := by decide +kernel
theorem dX11_whom_293 : decode cX11_whom 293 = .ok (.invokevirtual 192, 3) := by decide +kernel
theorem dX11_whom_296 : decode cX11_whom 296 = .ok (.ifCond .ne 23, 3) := by decide +kernel
theorem dX11_whom_299 : decode cX11_whom 299 = .ok (.iconst 0, 1) := by decide +kernel
theorem dX11_whom_300 : decode cX11_whom 300 = .ok (.ireturn, 1) := by decide +kernel
theorem dX11_whom_301 : decode cX11_whom 301 = .ok (.aload_n 0, 1) := by decide +kernel
theorem dX11_whom_302 : decode cX11_whom 302 = .ok (.getfield 83, 3) := by decide +kernel
theorem dX11_whom_305 : decode cX11_whom 305 = .ok (.iload_n 1, 1) := by decide +kernel
theorem dX11_whom_306 : decode cX11_whom 306 = .ok (.iload 4, 2) := by decide +kernel
theorem dX11_whom_308 : decode cX11_whom 308 = .ok (.bipush 11, 2) := by decide +kernel
theorem dX11_whom_310 : decode cX11_whom 310 = .ok (.if_icmp .ne 7, 3) := by decide +kernel
theorem dX11_whom_313 : decode cX11_whom 313 = .ok (.iconst 1, 1) := by decide +kernel
theorem dX11_whom_314 : decode cX11_whom 314 = .ok (.goto 4, 3) := by decide +kernel
theorem dX11_whom_317 : decode cX11_whom 317 = .ok (.iconst 2, 1) := by decide +kernel
theorem dX11_whom_318 : decode cX11_whom 318 = .ok (.iastore, 1) := by decide +kernel
theorem dX11_whom_319 : decode cX11_whom 319 = .ok (.goto (-269), 3) := by decide +kernel
theorem dX11_whom_322 : decode cX11_whom 322 = .ok (.aload_n 0, 1) := by decide +kernel
theorem dX11_whom_323 : decode cX11_whom 323 = .ok (.getfield 74, 3) := by decide +kernel
theorem dX11_whom_326 : decode cX11_whom 326 = .ok (.iload_n 1, 1) := by decide +kernel
theorem dX11_whom_327 : decode cX11_whom 327 = .ok (.iaload, 1) := by decide +kernel
theorem dX11_whom_328 : decode cX11_whom 328 = .ok (.ifCond .ne 11, 3) := by decide +kernel
theorem dX11_whom_331 : decode cX11_whom 331 = .ok (.aload_n 0, 1) := by decide +kernel
theorem dX11_whom_332 : decode cX11_whom 332 = .ok (.getfield 74, 3) := by decide +kernel
theorem dX11_whom_335 : decode cX11_whom 335 = .ok (.iload_n 1, 1) := by decide +kernel
theorem dX11_whom_336 : decode cX11_whom 336 = .ok (.bipush 15, 2) := by decide +kernel
theorem dX11_whom_338 : decode cX11_whom 338 = .ok (.iastore, 1) := by decide +kernel
theorem dX11_whom_339 : decode cX11_whom 339 = .ok (.iconst 1, 1) := by decide +kernel
theorem dX11_whom_340 : decode cX11_whom 340 = .ok (.ireturn, 1) := by decide +kernel
theorem dX11_ofWhom_0 : decode cX11_ofWhom 0 = .ok (.aload_n 0, 1) := by decide +kernel
theorem dX11_ofWhom_1 : decode cX11_ofWhom 1 = .ok (.getfield 167, 3) := by decide +kernel
theorem dX11_ofWhom_4 : decode cX11_ofWhom 4 = .ok (.bipush 24, 2) := by decide +kernel
theorem dX11_ofWhom_6 : decode cX11_ofWhom 6 = .ok (.if_icmp .ne 9, 3) := by decide +kernel
theorem dX11_ofWhom_9 : decode cX11_ofWhom 9 = .ok (.aload_n 0, 1) := by decide +kernel
theorem dX11_ofWhom_10 : decode cX11_ofWhom 10 = .ok (.iconst 2, 1) := by decide +kernel
theorem dX11_ofWhom_11 : decode cX11_ofWhom 11 = .ok (.invokevirtual 164, 3) := by decide +kernel
theorem dX11_ofWhom_14 : decode cX11_ofWhom 14 = .ok (.ireturn, 1) := by decide +kernel
theorem dX11_ofWhom_15 : decode cX11_ofWhom 15 = .ok (.bipush 24, 2) := by decide +kernel
theorem dX11_ofWhom_17 : decode cX11_ofWhom 17 = .ok (.aload_n 0, 1) := by decide +kernel
theorem dX11_ofWhom_18 : decode cX11_ofWhom 18 = .ok (.getfield 167, 3) := by decide +kernel
theorem dX11_ofWhom_21 : decode cX11_ofWhom 21 = .ok (.iadd, 1) := by decide +kernel
theorem dX11_ofWhom_22 : decode cX11_ofWhom 22 = .ok (.istore_n 2, 1) := by decide +kernel
theorem dX11_ofWhom_23 : decode cX11_ofWhom 23 = .ok (.aload_n 0, 1) := by decide +kernel
theorem dX11_ofWhom_24 : decode cX11_ofWhom 24 = .ok (.getfield 62, 3) := by decide +kernel
theorem dX11_ofWhom_27 : decode cX11_ofWhom 27 = .ok (.iload_n 2, 1) := by decide +kernel
theorem dX11_ofWhom_28 : decode cX11_ofWhom 28 = .ok (.iload_n 1, 1) := by decide +kernel
theorem dX11_ofWhom_29 : decode cX11_ofWhom 29 = .ok (.iastore, 1) := by decide +kernel
theorem dX11_ofWhom_30 : decode cX11_ofWhom 30 = .ok (.aload_n 0, 1) := by decide +kernel
theorem dX11_ofWhom_31 : decode cX11_ofWhom 31 = .ok (.getfield 65, 3) := by decide +kernel
theorem dX11_ofWhom_34 : decode cX11_ofWhom 34 = .ok (.iload_n 2, 1) := by decide +kernel
theorem dX11_ofWhom_35 : decode cX11_ofWhom 35 = .ok (.iconst 0, 1) := by decide +kernel
theorem dX11_ofWhom_36 : decode cX11_ofWhom 36 = .ok (.iastore, 1) := by decide +kernel
theorem dX11_ofWhom_37 : decode cX11_ofWhom 37 = .ok (.aload_n 0, 1) := by decide +kernel
theorem dX11_ofWhom_38 : decode cX11_ofWhom 38 = .ok (.invokevirtual 180, 3) := by decide +kernel
theorem dX11_ofWhom_41 : decode cX11_ofWhom 41 = .ok (.iload_n 1, 1) := by decide +kernel
theorem dX11_ofWhom_42 : decode cX11_ofWhom 42 = .ok (.iconst 1, 1) := by decide +kernel
theorem dX11_ofWhom_43 : decode cX11_ofWhom 43 = .ok (.if_icmp .le 50, 3) := by decide +kernel
theorem dX11_ofWhom_46 : decode cX11_ofWhom 46 = .ok (.aload_n 0, 1) := by decide +kernel
theorem dX11_ofWhom_47 : decode cX11_ofWhom 47 = .ok (.iload_n 1, 1) := by decide +kernel
theorem dX11_ofWhom_48 : decode cX11_ofWhom 48 = .ok (.iconst 2, 1) := by decide +kernel
theorem dX11_ofWhom_49 : decode cX11_ofWhom 49 = .ok (.if_icmp .ne 7, 3) := by decide +kernel
theorem dX11_ofWhom_52 : decode cX11_ofWhom 52 = .ok (.iconst 1, 1) := by decide +kernel
theorem dX11_ofWhom_53 : decode cX11_ofWhom 53 = .ok (.goto 4, 3) := by decide +kernel
theorem dX11_ofWhom_56 : decode cX11_ofWhom 56 = .ok (.iconst 0, 1) := by decide +kernel
theorem dX11_ofWhom_57 : decode cX11_ofWhom 57 = .ok (.iload_n 1, 1) := by decide +kernel
theorem dX11_ofWhom_58 : decode cX11_ofWhom 58 = .ok (.iconst 2, 1) := by decide +kernel
theorem dX11_ofWhom_59 : decode cX11_ofWhom 59 = .ok (.if_icmp .ne 9, 3) := by decide +kernel
theorem dX11_ofWhom_62 : decode cX11_ofWhom 62 = .ok (.sipush 9999, 3) := by decide +kernel
theorem dX11_ofWhom_65 : decode cX11_ofWhom 65 = .ok (.goto 6, 3) := by decide +kernel
theorem dX11_ofWhom_68 : decode cX11_ofWhom 68 = .ok (.sipush 200, 3) := by decide +kernel
theorem dX11_ofWhom_71 : decode cX11_ofWhom 71 = .ok (.invokevirtual 173, 3) := by decide +kernel
theorem dX11_ofWhom_74 : decode cX11_ofWhom 74 = .ok (.ifCond .ne 5, 3) := by decide +kernel
theorem dX11_ofWhom_77 : decode cX11_ofWhom 77 = .ok (.iconst 0, 1) := by decide +kernel
theorem dX11_ofWhom_78 : decode cX11_ofWhom 78 = .ok (.ireturn, 1) := by decide +kernel
theorem dX11_ofWhom_79 : decode cX11_ofWhom 79 = .ok (.aload_n 0, 1) := by decide +kernel
theorem dX11_ofWhom_80 : decode cX11_ofWhom 80 = .ok (.getfield 65, 3) := by decide +kernel
theorem dX11_ofWhom_83 : decode cX11_ofWhom 83 = .ok (.iload_n 2, 1) := by decide +kernel
theorem dX11_ofWhom_84 : decode cX11_ofWhom 84 = .ok (.aload_n 0, 1) := by decide +kernel
theorem dX11_ofWhom_85 : decode cX11_ofWhom 85 = .ok (.getfield 158, 3) := by decide +kernel
theorem dX11_ofWhom_88 : decode cX11_ofWhom 88 = .ok (.iastore, 1) := by decide +kernel
theorem dX11_ofWhom_89 : decode cX11_ofWhom 89 = .ok (.aload_n 0, 1) := by decide +kernel
theorem dX11_ofWhom_90 : decode cX11_ofWhom 90 = .ok (.invokevirtual 180, 3) := by decide +kernel
theorem dX11_ofWhom_93 : decode cX11_ofWhom 93 = .ok (.aload_n 0, 1) := by decide +kernel
theorem dX11_ofWhom_94 : decode cX11_ofWhom 94 = .ok (.iload_n 2, 1) := by decide +kernel
theorem dX11_ofWhom_95 : decode cX11_ofWhom 95 = .ok (.invokevirtual 195, 3) := by decide +kernel
theorem dX11_ofWhom_98 : decode cX11_ofWhom 98 = .ok (.ifCond .ne 5, 3) := by decide +kernel
theorem dX11_ofWhom_101 : decode cX11_ofWhom 101 = .ok (.iconst 0, 1) := by decide +kernel
theorem dX11_ofWhom_102 : decode cX11_ofWhom 102 = .ok (.ireturn, 1) := by decide +kernel
theorem dX11_ofWhom_103 : decode cX11_ofWhom 103 = .ok (.aload_n 0, 1) := by decide +kernel
theorem dX11_ofWhom_104 : decode cX11_ofWhom 104 = .ok (.dup, 1) := by decide +kernel
theorem dX11_ofWhom_105 : decode cX11_ofWhom 105 = .ok (.getfield 167, 3) := by decide +kernel
theorem dX11_ofWhom_108 : decode cX11_ofWhom 108 = .ok (.iconst 1, 1) := by decide +kernel
theorem dX11_ofWhom_109 : decode cX11_ofWhom 109 = .ok (.iadd, 1) := by decide +kernel
theorem dX11_ofWhom_110 : decode cX11_ofWhom 110 = .ok (.putfield 167, 3) := by decide +kernel
theorem dX11_ofWhom_113 : decode cX11_ofWhom 113 = .ok (.iconst 1, 1) := by decide +kernel
theorem dX11_ofWhom_114 : decode cX11_ofWhom 114 = .ok (.ireturn, 1) := by decide +kernel
theorem dX11_ofNumber_0 : decode cX11_ofNumber 0 = .ok (.aload_n 0, 1) := by decide +kernel
theorem dX11_ofNumber_1 : decode cX11_ofNumber 1 = .ok (.getfield 89, 3) := by decide +kernel
theorem dX11_ofNumber_4 : decode cX11_ofNumber 4 = .ok (.iload_n 1, 1) := by decide +kernel
theorem dX11_ofNumber_5 : decode cX11_ofNumber 5 = .ok (.baload, 1) := by decide +kernel
theorem dX11_ofNumber_6 : decode cX11_ofNumber 6 = .ok (.ifCond .eq 9, 3) := by decide +kernel
theorem dX11_ofNumber_9 : decode cX11_ofNumber 9 = .ok (.aload_n 0, 1) := by decide +kernel
theorem dX11_ofNumber_10 : decode cX11_ofNumber 10 = .ok (.iconst 3, 1) := by decide +kernel
theorem dX11_ofNumber_11 : decode cX11_ofNumber 11 = .ok (.invokevirtual 164, 3) := by decide +kernel
theorem dX11_ofNumber_14 : decode cX11_ofNumber 14 = .ok (.ireturn, 1) := by decide +kernel
theorem dX11_ofNumber_15 : decode cX11_ofNumber 15 = .ok (.aload_n 0, 1) := by decide +kernel
theorem dX11_ofNumber_16 : decode cX11_ofNumber 16 = .ok (.getfield 89, 3) := by decide +kernel
theorem dX11_ofNumber_19 : decode cX11_ofNumber 19 = .ok (.iload_n 1, 1) := by decide +kernel
theorem dX11_ofNumber_20 : decode cX11_ofNumber 20 = .ok (.iconst 1, 1) := by decide +kernel
theorem dX11_ofNumber_21 : decode cX11_ofNumber 21 = .ok (.bastore, 1) := by decide +kernel
theorem dX11_ofNumber_22 : decode cX11_ofNumber 22 = .ok (.aload_n 0, 1) := by decide +kernel
theorem dX11_ofNumber_23 : decode cX11_ofNumber 23 = .ok (.invokevirtual 180, 3) := by decide +kernel
theorem dX11_ofNumber_26 : decode cX11_ofNumber 26 = .ok (.iload_n 1, 1) := by decide +kernel
theorem dX11_ofNumber_27 : decode cX11_ofNumber 27 = .ok (.iconst 2, 1) := by decide +kernel
theorem dX11_ofNumber_28 : decode cX11_ofNumber 28 = .ok (.if_icmp .ne 7, 3) := by decide +kernel
theorem dX11_ofNumber_31 : decode cX11_ofNumber 31 = .ok (.iconst 2, 1) := by decide +kernel
theorem dX11_ofNumber_32 : decode cX11_ofNumber 32 = .ok (.goto 13, 3) := by decide +kernel
theorem dX11_ofNumber_35 : decode cX11_ofNumber 35 = .ok (.iload_n 1, 1) := by decide +kernel
theorem dX11_ofNumber_36 : decode cX11_ofNumber 36 = .ok (.iconst 3, 1) := by decide +kernel
theorem dX11_ofNumber_37 : decode cX11_ofNumber 37 = .ok (.if_icmp .ne 7, 3) := by decide +kernel
theorem dX11_ofNumber_40 : decode cX11_ofNumber 40 = .ok (.iconst 1, 1) := by decide +kernel
theorem dX11_ofNumber_41 : decode cX11_ofNumber 41 = .ok (.goto 4, 3) := by decide +kernel
theorem dX11_ofNumber_44 : decode cX11_ofNumber 44 = .ok (.iconst 0, 1) := by decide +kernel
theorem dX11_ofNumber_45 : decode cX11_ofNumber 45 = .ok (.istore_n 2, 1) := by decide +kernel
theorem dX11_ofNumber_46 : decode cX11_ofNumber 46 = .ok (.iload_n 1, 1) := by decide +kernel
theorem dX11_ofNumber_47 : decode cX11_ofNumber 47 = .ok (.ifCond .ne 8, 3) := by decide +kernel
theorem dX11_ofNumber_50 : decode cX11_ofNumber 50 = .ok (.bipush 40, 2) := by decide +kernel
theorem dX11_ofNumber_52 : decode cX11_ofNumber 52 = .ok (.goto 24, 3) := by decide +kernel
theorem dX11_ofNumber_55 : decode cX11_ofNumber 55 = .ok (.iload_n 1, 1) := by decide +kernel
theorem dX11_ofNumber_56 : decode cX11_ofNumber 56 = .ok (.iconst 1, 1) := by decide +kernel
theorem dX11_ofNumber_57 : decode cX11_ofNumber 57 = .ok (.if_icmp .ne 8, 3) := by decide +kernel
theorem dX11_ofNumber_60 : decode cX11_ofNumber 60 = .ok (.bipush 9, 2) := by decide +kernel
theorem dX11_ofNumber_62 : decode cX11_ofNumber 62 = .ok (.goto 14, 3) := by decide +kernel
theorem dX11_ofNumber_65 : decode cX11_ofNumber 65 = .ok (.iload_n 1, 1) := by decide +kernel
theorem dX11_ofNumber_66 : decode cX11_ofNumber 66 = .ok (.iconst 2, 1) := by decide +kernel
theorem dX11_ofNumber_67 : decode cX11_ofNumber 67 = .ok (.if_icmp .ne 8, 3) := by decide +kernel
theorem dX11_ofNumber_70 : decode cX11_ofNumber 70 = .ok (.bipush 99, 2) := by decide +kernel
theorem dX11_ofNumber_72 : decode cX11_ofNumber 72 = .ok (.goto 4, 3) := by decide +kernel
theorem dX11_ofNumber_75 : decode cX11_ofNumber 75 = .ok (.iconst 3, 1) := by decide +kernel
theorem dX11_ofNumber_76 : decode cX11_ofNumber 76 = .ok (.istore_n 3, 1) := by decide +kernel
theorem dX11_ofNumber_77 : decode cX11_ofNumber 77 = .ok (.aload_n 0, 1) := by decide +kernel
theorem dX11_ofNumber_78 : decode cX11_ofNumber 78 = .ok (.iload_n 2, 1) := by decide +kernel
theorem dX11_ofNumber_79 : decode cX11_ofNumber 79 = .ok (.iload_n 3, 1) := by decide +kernel
theorem dX11_ofNumber_80 : decode cX11_ofNumber 80 = .ok (.invokevirtual 173, 3) := by decide +kernel
theorem dX11_ofNumber_83 : decode cX11_ofNumber 83 = .ok (.ifCond .ne 5, 3) := by decide +kernel
theorem dX11_ofNumber_86 : decode cX11_ofNumber 86 = .ok (.iconst 0, 1) := by decide +kernel
theorem dX11_ofNumber_87 : decode cX11_ofNumber 87 = .ok (.ireturn, 1) := by decide +kernel
theorem dX11_ofNumber_88 : decode cX11_ofNumber 88 = .ok (.aload_n 0, 1) := by decide +kernel
theorem dX11_ofNumber_89 : decode cX11_ofNumber 89 = .ok (.getfield 86, 3) := by decide +kernel
theorem dX11_ofNumber_92 : decode cX11_ofNumber 92 = .ok (.iconst 4, 1) := by decide +kernel
theorem dX11_ofNumber_93 : decode cX11_ofNumber 93 = .ok (.iload_n 1, 1) := by decide +kernel
theorem dX11_ofNumber_94 : decode cX11_ofNumber 94 = .ok (.iadd, 1) := by decide +kernel
theorem dX11_ofNumber_95 : decode cX11_ofNumber 95 = .ok (.aload_n 0, 1) := by decide +kernel
theorem dX11_ofNumber_96 : decode cX11_ofNumber 96 = .ok (.getfield 158, 3) := by decide +kernel
theorem dX11_ofNumber_99 : decode cX11_ofNumber 99 = .ok (.iastore, 1) := by decide +kernel
theorem dX11_ofNumber_100 : decode cX11_ofNumber 100 = .ok (.aload_n 0, 1) := by decide +kernel
theorem dX11_ofNumber_101 : decode cX11_ofNumber 101 = .ok (.invokevirtual 180, 3) := by decide +kernel
theorem dX11_ofNumber_104 : decode cX11_ofNumber 104 = .ok (.iconst 1, 1) := by decide +kernel
theorem dX11_ofNumber_105 : decode cX11_ofNumber 105 = .ok (.ireturn, 1) := by decide +kernel
theorem dX11_acts_0 : decode cX11_acts 0 = .ok (.aload_n 0, 1) := by decide +kernel
theorem dX11_acts_1 : decode cX11_acts 1 = .ok (.iconst 0, 1) := by decide +kernel
theorem dX11_acts_2 : decode cX11_acts 2 = .ok (.putfield 129, 3) := by decide +kernel
theorem dX11_acts_5 : decode cX11_acts 5 = .ok (.iload_n 1, 1) := by decide +kernel
theorem dX11_acts_6 : decode cX11_acts 6 = .ok (.ifCond .lt 11, 3) := by decide +kernel
theorem dX11_acts_9 : decode cX11_acts 9 = .ok (.iload_n 1, 1) := by decide +kernel
theorem dX11_acts_10 : decode cX11_acts 10 = .ok (.aload_n 0, 1) := by decide +kernel
theorem dX11_acts_11 : decode cX11_acts 11 = .ok (.getfield 132, 3) := by decide +kernel
theorem dX11_acts_14 : decode cX11_acts 14 = .ok (.if_icmp .le 6, 3) := by decide +kernel
theorem dX11_acts_17 : decode cX11_acts 17 = .ok (.bipush (-2), 2) := by decide +kernel
theorem dX11_acts_19 : decode cX11_acts 19 = .ok (.ireturn, 1) := by decide +kernel
theorem dX11_acts_20 : decode cX11_acts 20 = .ok (.aload_n 0, 1) := by decide +kernel
theorem dX11_acts_21 : decode cX11_acts 21 = .ok (.iload_n 1, 1) := by decide +kernel
theorem dX11_acts_22 : decode cX11_acts 22 = .ok (.putfield 141, 3) := by decide +kernel
theorem dX11_acts_25 : decode cX11_acts 25 = .ok (.aload_n 0, 1) := by decide +kernel
theorem dX11_acts_26 : decode cX11_acts 26 = .ok (.iconst 0, 1) := by decide +kernel
theorem dX11_acts_27 : decode cX11_acts 27 = .ok (.putfield 132, 3) := by decide +kernel
theorem dX11_acts_30 : decode cX11_acts 30 = .ok (.aload_n 0, 1) := by decide +kernel
theorem dX11_acts_31 : decode cX11_acts 31 = .ok (.iconst 0, 1) := by decide +kernel
theorem dX11_acts_32 : decode cX11_acts 32 = .ok (.putfield 135, 3) := by decide +kernel
theorem dX11_acts_35 : decode cX11_acts 35 = .ok (.aload_n 0, 1) := by decide +kernel
theorem dX11_acts_36 : decode cX11_acts 36 = .ok (.iconst (-1), 1) := by decide +kernel
theorem dX11_acts_37 : decode cX11_acts 37 = .ok (.putfield 58, 3) := by decide +kernel
theorem dX11_acts_40 : decode cX11_acts 40 = .ok (.aload_n 0, 1) := by decide +kernel
theorem dX11_acts_41 : decode cX11_acts 41 = .ok (.iconst 0, 1) := by decide +kernel
theorem dX11_acts_42 : decode cX11_acts 42 = .ok (.putfield 144, 3) := by decide +kernel
theorem dX11_acts_45 : decode cX11_acts 45 = .ok (.aload_n 0, 1) := by decide +kernel
theorem dX11_acts_46 : decode cX11_acts 46 = .ok (.invokevirtual 123, 3) := by decide +kernel
theorem dX11_acts_49 : decode cX11_acts 49 = .ok (.iconst 0, 1) := by decide +kernel
theorem dX11_acts_50 : decode cX11_acts 50 = .ok (.istore_n 2, 1) := by decide +kernel
theorem dX11_acts_51 : decode cX11_acts 51 = .ok (.aload_n 0, 1) := by decide +kernel
theorem dX11_acts_52 : decode cX11_acts 52 = .ok (.invokevirtual 180, 3) := by decide +kernel
theorem dX11_acts_55 : decode cX11_acts 55 = .ok (.aload_n 0, 1) := by decide +kernel
theorem dX11_acts_56 : decode cX11_acts 56 = .ok (.getfield 147, 3) := by decide +kernel
theorem dX11_acts_59 : decode cX11_acts 59 = .ok (.ifCond .eq 90, 3) := by decide +kernel
theorem dX11_acts_62 : decode cX11_acts 62 = .ok (.aload_n 0, 1) := by decide +kernel
theorem dX11_acts_63 : decode cX11_acts 63 = .ok (.getfield 147, 3) := by decide +kernel
theorem dX11_acts_66 : decode cX11_acts 66 = .ok (.iconst 1, 1) := by decide +kernel
theorem dX11_acts_67 : decode cX11_acts 67 = .ok (.if_icmp .ne 12, 3) := by decide +kernel
theorem dX11_acts_70 : decode cX11_acts 70 = .ok (.aload_n 0, 1) := by decide +kernel
theorem dX11_acts_71 : decode cX11_acts 71 = .ok (.getfield 158, 3) := by decide +kernel
theorem dX11_acts_74 : decode cX11_acts 74 = .ok (.bipush 7, 2) := by decide +kernel
theorem dX11_acts_76 : decode cX11_acts 76 = .ok (.if_icmp .le 11, 3) := by decide +kernel
theorem dX11_acts_79 : decode cX11_acts 79 = .ok (.aload_n 0, 1) := by decide +kernel
theorem dX11_acts_80 : decode cX11_acts 80 = .ok (.iconst 1, 1) := by decide +kernel
theorem dX11_acts_81 : decode cX11_acts 81 = .ok (.invokevirtual 164, 3) := by decide +kernel
theorem dX11_acts_84 : decode cX11_acts 84 = .ok (.pop, 1) := by decide +kernel
theorem dX11_acts_85 : decode cX11_acts 85 = .ok (.iconst (-1), 1) := by decide +kernel
theorem dX11_acts_86 : decode cX11_acts 86 = .ok (.ireturn, 1) := by decide +kernel
theorem dX11_acts_87 : decode cX11_acts 87 = .ok (.aload_n 0, 1) := by decide +kernel
theorem dX11_acts_88 : decode cX11_acts 88 = .ok (.getfield 158, 3) := by decide +kernel
theorem dX11_acts_91 : decode cX11_acts 91 = .ok (.iconst 4, 1) := by decide +kernel
theorem dX11_acts_92 : decode cX11_acts 92 = .ok (.if_icmp .ge 14, 3) := by decide +kernel
theorem dX11_acts_95 : decode cX11_acts 95 = .ok (.aload_n 0, 1) := by decide +kernel
theorem dX11_acts_96 : decode cX11_acts 96 = .ok (.aload_n 0, 1) := by decide +kernel
theorem dX11_acts_97 : decode cX11_acts 97 = .ok (.getfield 158, 3) := by decide +kernel
theorem dX11_acts_100 : decode cX11_acts 100 = .ok (.invokevirtual 198, 3) := by decide +kernel
theorem dX11_acts_103 : decode cX11_acts 103 = .ok (.goto 13, 3) := by decide +kernel
theorem dX11_acts_106 : decode cX11_acts 106 = .ok (.aload_n 0, 1) := by decide +kernel
theorem dX11_acts_107 : decode cX11_acts 107 = .ok (.aload_n 0, 1) := by decide +kernel
theorem dX11_acts_108 : decode cX11_acts 108 = .ok (.getfield 158, 3) := by decide +kernel
theorem dX11_acts_111 : decode cX11_acts 111 = .ok (.iconst 4, 1) := by decide +kernel
theorem dX11_acts_112 : decode cX11_acts 112 = .ok (.isub, 1) := by decide +kernel
theorem dX11_acts_113 : decode cX11_acts 113 = .ok (.invokevirtual 201, 3) := by decide +kernel
theorem dX11_acts_116 : decode cX11_acts 116 = .ok (.istore_n 3, 1) := by decide +kernel
theorem dX11_acts_117 : decode cX11_acts 117 = .ok (.iload_n 3, 1) := by decide +kernel
theorem dX11_acts_118 : decode cX11_acts 118 = .ok (.ifCond .ne 5, 3) := by decide +kernel
theorem dX11_acts_121 : decode cX11_acts 121 = .ok (.iconst (-1), 1) := by decide +kernel
theorem dX11_acts_122 : decode cX11_acts 122 = .ok (.ireturn, 1) := by decide +kernel
theorem dX11_acts_123 : decode cX11_acts 123 = .ok (.aload_n 0, 1) := by decide +kernel
theorem dX11_acts_124 : decode cX11_acts 124 = .ok (.getfield 147, 3) := by decide +kernel
theorem dX11_acts_127 : decode cX11_acts 127 = .ok (.iconst 3, 1) := by decide +kernel
theorem dX11_acts_128 : decode cX11_acts 128 = .ok (.if_icmp .eq 11, 3) := by decide +kernel
theorem dX11_acts_131 : decode cX11_acts 131 = .ok (.aload_n 0, 1) := by decide +kernel
theorem dX11_acts_132 : decode cX11_acts 132 = .ok (.iconst 1, 1) := by decide +kernel
theorem dX11_acts_133 : decode cX11_acts 133 = .ok (.invokevirtual 164, 3) := by decide +kernel
theorem dX11_acts_136 : decode cX11_acts 136 = .ok (.pop, 1) := by decide +kernel
theorem dX11_acts_137 : decode cX11_acts 137 = .ok (.iconst (-1), 1) := by decide +kernel
theorem dX11_acts_138 : decode cX11_acts 138 = .ok (.ireturn, 1) := by decide +kernel
theorem dX11_acts_139 : decode cX11_acts 139 = .ok (.aload_n 0, 1) := by decide +kernel
theorem dX11_acts_140 : decode cX11_acts 140 = .ok (.invokevirtual 180, 3) := by decide +kernel
theorem dX11_acts_143 : decode cX11_acts 143 = .ok (.iinc 2 1, 3) := by decide +kernel
theorem dX11_acts_146 : decode cX11_acts 146 = .ok (.goto (-91), 3) := by decide +kernel
theorem dX11_acts_149 : decode cX11_acts 149 = .ok (.aload_n 0, 1) := by decide +kernel
theorem dX11_acts_150 : decode cX11_acts 150 = .ok (.invokevirtual 126, 3) := by decide +kernel
theorem dX11_acts_153 : decode cX11_acts 153 = .ok (.iload_n 2, 1) := by decide +kernel
theorem dX11_acts_154 : decode cX11_acts 154 = .ok (.ireturn, 1) := by decide +kernel
theorem dX11_fault_0 : decode cX11_fault 0 = .ok (.aload_n 0, 1) := by decide +kernel
theorem dX11_fault_1 : decode cX11_fault 1 = .ok (.iconst 0, 1) := by decide +kernel
theorem dX11_fault_2 : decode cX11_fault 2 = .ok (.putfield 129, 3) := by decide +kernel
theorem dX11_fault_5 : decode cX11_fault 5 = .ok (.iload_n 1, 1) := by decide +kernel
theorem dX11_fault_6 : decode cX11_fault 6 = .ok (.ifCond .ne 10, 3) := by decide +kernel
theorem dX11_fault_9 : decode cX11_fault 9 = .ok (.aload_n 0, 1) := by decide +kernel
theorem dX11_fault_10 : decode cX11_fault 10 = .ok (.getfield 135, 3) := by decide +kernel
theorem dX11_fault_13 : decode cX11_fault 13 = .ok (.goto 16, 3) := by decide +kernel
theorem dX11_fault_16 : decode cX11_fault 16 = .ok (.iload_n 1, 1) := by decide +kernel
theorem dX11_fault_17 : decode cX11_fault 17 = .ok (.iconst 1, 1) := by decide +kernel
theorem dX11_fault_18 : decode cX11_fault 18 = .ok (.if_icmp .ne 10, 3) := by decide +kernel
theorem dX11_fault_21 : decode cX11_fault 21 = .ok (.aload_n 0, 1) := by decide +kernel
theorem dX11_fault_22 : decode cX11_fault 22 = .ok (.getfield 58, 3) := by decide +kernel
theorem dX11_fault_25 : decode cX11_fault 25 = .ok (.goto 4, 3) := by decide +kernel
theorem dX11_fault_28 : decode cX11_fault 28 = .ok (.iconst (-1), 1) := by decide +kernel
theorem dX11_fault_29 : decode cX11_fault 29 = .ok (.ireturn, 1) := by decide +kernel
theorem dX11_halves_0 : decode cX11_halves 0 = .ok (.aload_n 0, 1) := by decide +kernel
theorem dX11_halves_1 : decode cX11_halves 1 = .ok (.iconst 0, 1) := by decide +kernel
theorem dX11_halves_2 : decode cX11_halves 2 = .ok (.putfield 129, 3) := by decide +kernel
theorem dX11_halves_5 : decode cX11_halves 5 = .ok (.iload_n 1, 1) := by decide +kernel
theorem dX11_halves_6 : decode cX11_halves 6 = .ok (.iconst 0, 1) := by decide +kernel
theorem dX11_halves_7 : decode cX11_halves 7 = .ok (.bipush 79, 2) := by decide +kernel
theorem dX11_halves_9 : decode cX11_halves 9 = .ok (.invokestatic 204, 3) := by decide +kernel
theorem dX11_halves_12 : decode cX11_halves 12 = .ok (.ifCond .eq 14, 3) := by decide +kernel
theorem dX11_halves_15 : decode cX11_halves 15 = .ok (.aload_n 0, 1) := by decide +kernel
theorem dX11_halves_16 : decode cX11_halves 16 = .ok (.getfield 208, 3) := by decide +kernel
theorem dX11_halves_19 : decode cX11_halves 19 = .ok (.iload_n 1, 1) := by decide +kernel
theorem dX11_halves_20 : decode cX11_halves 20 = .ok (.iadd, 1) := by decide +kernel
theorem dX11_halves_21 : decode cX11_halves 21 = .ok (.bipush 79, 2) := by decide +kernel
theorem dX11_halves_23 : decode cX11_halves 23 = .ok (.if_icmp .le 5, 3) := by decide +kernel
theorem dX11_halves_26 : decode cX11_halves 26 = .ok (.iconst (-1), 1) := by decide +kernel
theorem dX11_halves_27 : decode cX11_halves 27 = .ok (.ireturn, 1) := by decide +kernel
theorem dX11_halves_28 : decode cX11_halves 28 = .ok (.aload_n 0, 1) := by decide +kernel
theorem dX11_halves_29 : decode cX11_halves 29 = .ok (.dup, 1) := by decide +kernel
theorem dX11_halves_30 : decode cX11_halves 30 = .ok (.getfield 208, 3) := by decide +kernel
theorem dX11_halves_33 : decode cX11_halves 33 = .ok (.iload_n 1, 1) := by decide +kernel
theorem dX11_halves_34 : decode cX11_halves 34 = .ok (.iadd, 1) := by decide +kernel
theorem dX11_halves_35 : decode cX11_halves 35 = .ok (.putfield 208, 3) := by decide +kernel
theorem dX11_halves_38 : decode cX11_halves 38 = .ok (.aload_n 0, 1) := by decide +kernel
theorem dX11_halves_39 : decode cX11_halves 39 = .ok (.getfield 208, 3) := by decide +kernel
theorem dX11_halves_42 : decode cX11_halves 42 = .ok (.ireturn, 1) := by decide +kernel
theorem dX11_life_0 : decode cX11_life 0 = .ok (.aload_n 0, 1) := by decide +kernel
theorem dX11_life_1 : decode cX11_life 1 = .ok (.iconst 0, 1) := by decide +kernel
theorem dX11_life_2 : decode cX11_life 2 = .ok (.putfield 129, 3) := by decide +kernel
theorem dX11_life_5 : decode cX11_life 5 = .ok (.aload_n 0, 1) := by decide +kernel
theorem dX11_life_6 : decode cX11_life 6 = .ok (.getfield 211, 3) := by decide +kernel
theorem dX11_life_9 : decode cX11_life 9 = .ok (.bipush 12, 2) := by decide +kernel
theorem dX11_life_11 : decode cX11_life 11 = .ok (.if_icmp .eq 26, 3) := by decide +kernel
theorem dX11_life_14 : decode cX11_life 14 = .ok (.iload_n 1, 1) := by decide +kernel
theorem dX11_life_15 : decode cX11_life 15 = .ok (.sipush (-160), 3) := by decide +kernel
theorem dX11_life_18 : decode cX11_life 18 = .ok (.aload_n 0, 1) := by decide +kernel
theorem dX11_life_19 : decode cX11_life 19 = .ok (.getfield 208, 3) := by decide +kernel
theorem dX11_life_22 : decode cX11_life 22 = .ok (.invokestatic 204, 3) := by decide +kernel
theorem dX11_life_25 : decode cX11_life 25 = .ok (.ifCond .eq 12, 3) := by decide +kernel
theorem dX11_life_28 : decode cX11_life 28 = .ok (.iload_n 2, 1) := by decide +kernel
theorem dX11_life_29 : decode cX11_life 29 = .ok (.iconst 0, 1) := by decide +kernel
theorem dX11_life_30 : decode cX11_life 30 = .ok (.iconst 3, 1) := by decide +kernel
theorem dX11_life_31 : decode cX11_life 31 = .ok (.invokestatic 204, 3) := by decide +kernel
theorem dX11_life_34 : decode cX11_life 34 = .ok (.ifCond .ne 5, 3) := by decide +kernel
theorem dX11_life_37 : decode cX11_life 37 = .ok (.iconst (-1), 1) := by decide +kernel
theorem dX11_life_38 : decode cX11_life 38 = .ok (.ireturn, 1) := by decide +kernel
theorem dX11_life_39 : decode cX11_life 39 = .ok (.aload_n 0, 1) := by decide +kernel
theorem dX11_life_40 : decode cX11_life 40 = .ok (.getfield 13, 3) := by decide +kernel
theorem dX11_life_43 : decode cX11_life 43 = .ok (.aload_n 0, 1) := by decide +kernel
theorem dX11_life_44 : decode cX11_life 44 = .ok (.getfield 211, 3) := by decide +kernel
theorem dX11_life_47 : decode cX11_life 47 = .ok (.iload_n 1, 1) := by decide +kernel
theorem dX11_life_48 : decode cX11_life 48 = .ok (.iastore, 1) := by decide +kernel
theorem dX11_life_49 : decode cX11_life 49 = .ok (.aload_n 0, 1) := by decide +kernel
theorem dX11_life_50 : decode cX11_life 50 = .ok (.getfield 16, 3) := by decide +kernel
theorem dX11_life_53 : decode cX11_life 53 = .ok (.aload_n 0, 1) := by decide +kernel
theorem dX11_life_54 : decode cX11_life 54 = .ok (.getfield 211, 3) := by decide +kernel
theorem dX11_life_57 : decode cX11_life 57 = .ok (.iload_n 2, 1) := by decide +kernel
theorem dX11_life_58 : decode cX11_life 58 = .ok (.iastore, 1) := by decide +kernel
theorem dX11_life_59 : decode cX11_life 59 = .ok (.aload_n 0, 1) := by decide +kernel
theorem dX11_life_60 : decode cX11_life 60 = .ok (.dup, 1) := by decide +kernel
theorem dX11_life_61 : decode cX11_life 61 = .ok (.getfield 211, 3) := by decide +kernel
theorem dX11_life_64 : decode cX11_life 64 = .ok (.iconst 1, 1) := by decide +kernel
theorem dX11_life_65 : decode cX11_life 65 = .ok (.iadd, 1) := by decide +kernel
theorem dX11_life_66 : decode cX11_life 66 = .ok (.putfield 211, 3) := by decide +kernel
theorem dX11_life_69 : decode cX11_life 69 = .ok (.aload_n 0, 1) := by decide +kernel
theorem dX11_life_70 : decode cX11_life 70 = .ok (.getfield 211, 3) := by decide +kernel
theorem dX11_life_73 : decode cX11_life 73 = .ok (.iconst 1, 1) := by decide +kernel
theorem dX11_life_74 : decode cX11_life 74 = .ok (.isub, 1) := by decide +kernel
theorem dX11_life_75 : decode cX11_life 75 = .ok (.ireturn, 1) := by decide +kernel
theorem dX11_isLife_0 : decode cX11_isLife 0 = .ok (.iload_n 1, 1) := by decide +kernel
theorem dX11_isLife_1 : decode cX11_isLife 1 = .ok (.ifCond .lt 15, 3) := by decide +kernel
theorem dX11_isLife_4 : decode cX11_isLife 4 = .ok (.iload_n 1, 1) := by decide +kernel
theorem dX11_isLife_5 : decode cX11_isLife 5 = .ok (.aload_n 0, 1) := by decide +kernel
theorem dX11_isLife_6 : decode cX11_isLife 6 = .ok (.getfield 211, 3) := by decide +kernel
theorem dX11_isLife_9 : decode cX11_isLife 9 = .ok (.if_icmp .ge 7, 3) := by decide +kernel
theorem dX11_isLife_12 : decode cX11_isLife 12 = .ok (.iconst 1, 1) := by decide +kernel
theorem dX11_isLife_13 : decode cX11_isLife 13 = .ok (.goto 4, 3) := by decide +kernel
theorem dX11_isLife_16 : decode cX11_isLife 16 = .ok (.iconst 0, 1) := by decide +kernel
theorem dX11_isLife_17 : decode cX11_isLife 17 = .ok (.ireturn, 1) := by decide +kernel
theorem dX11_ageIn_0 : decode cX11_ageIn 0 = .ok (.iload_n 2, 1) := by decide +kernel
theorem dX11_ageIn_1 : decode cX11_ageIn 1 = .ok (.aload_n 0, 1) := by decide +kernel
theorem dX11_ageIn_2 : decode cX11_ageIn 2 = .ok (.getfield 13, 3) := by decide +kernel
theorem dX11_ageIn_5 : decode cX11_ageIn 5 = .ok (.iload_n 1, 1) := by decide +kernel
theorem dX11_ageIn_6 : decode cX11_ageIn 6 = .ok (.iaload, 1) := by decide +kernel
theorem dX11_ageIn_7 : decode cX11_ageIn 7 = .ok (.isub, 1) := by decide +kernel
theorem dX11_ageIn_8 : decode cX11_ageIn 8 = .ok (.iconst 2, 1) := by decide +kernel
theorem dX11_ageIn_9 : decode cX11_ageIn 9 = .ok (.idiv, 1) := by decide +kernel
theorem dX11_ageIn_10 : decode cX11_ageIn 10 = .ok (.ireturn, 1) := by decide +kernel
theorem dX11_actOf_0 : decode cX11_actOf 0 = .ok (.iload_n 3, 1) := by decide +kernel
theorem dX11_actOf_1 : decode cX11_actOf 1 = .ok (.iconst (-1), 1) := by decide +kernel
theorem dX11_actOf_2 : decode cX11_actOf 2 = .ok (.if_icmp .eq 20, 3) := by decide +kernel
theorem dX11_actOf_5 : decode cX11_actOf 5 = .ok (.aload_n 0, 1) := by decide +kernel
theorem dX11_actOf_6 : decode cX11_actOf 6 = .ok (.iload_n 2, 1) := by decide +kernel
theorem dX11_actOf_7 : decode cX11_actOf 7 = .ok (.iload 4, 2) := by decide +kernel
theorem dX11_actOf_9 : decode cX11_actOf 9 = .ok (.invokevirtual 214, 3) := by decide +kernel
theorem dX11_actOf_12 : decode cX11_actOf 12 = .ok (.aload_n 0, 1) := by decide +kernel
theorem dX11_actOf_13 : decode cX11_actOf 13 = .ok (.iload_n 3, 1) := by decide +kernel
theorem dX11_actOf_14 : decode cX11_actOf 14 = .ok (.iload 4, 2) := by decide +kernel
theorem dX11_actOf_16 : decode cX11_actOf 16 = .ok (.invokevirtual 214, 3) := by decide +kernel
theorem dX11_actOf_19 : decode cX11_actOf 19 = .ok (.if_icmp .gt 7, 3) := by decide +kernel
theorem dX11_actOf_22 : decode cX11_actOf 22 = .ok (.iload_n 2, 1) := by decide +kernel
theorem dX11_actOf_23 : decode cX11_actOf 23 = .ok (.goto 4, 3) := by decide +kernel
theorem dX11_actOf_26 : decode cX11_actOf 26 = .ok (.iload_n 3, 1) := by decide +kernel
theorem dX11_actOf_27 : decode cX11_actOf 27 = .ok (.istore 6, 2) := by decide +kernel
theorem dX11_actOf_29 : decode cX11_actOf 29 = .ok (.aload_n 0, 1) := by decide +kernel
theorem dX11_actOf_30 : decode cX11_actOf 30 = .ok (.iload 6, 2) := by decide +kernel
theorem dX11_actOf_32 : decode cX11_actOf 32 = .ok (.iload 4, 2) := by decide +kernel
theorem dX11_actOf_34 : decode cX11_actOf 34 = .ok (.invokevirtual 214, 3) := by decide +kernel
theorem dX11_actOf_37 : decode cX11_actOf 37 = .ok (.istore 7, 2) := by decide +kernel
theorem dX11_actOf_39 : decode cX11_actOf 39 = .ok (.aload_n 0, 1) := by decide +kernel
theorem dX11_actOf_40 : decode cX11_actOf 40 = .ok (.getfield 170, 3) := by decide +kernel
theorem dX11_actOf_43 : decode cX11_actOf 43 = .ok (.iconst 1, 1) := by decide +kernel
theorem dX11_actOf_44 : decode cX11_actOf 44 = .ok (.isub, 1) := by decide +kernel
theorem dX11_actOf_45 : decode cX11_actOf 45 = .ok (.istore 8, 2) := by decide +kernel
theorem dX11_actOf_47 : decode cX11_actOf 47 = .ok (.iload 8, 2) := by decide +kernel
theorem dX11_actOf_49 : decode cX11_actOf 49 = .ok (.ifCond .lt 195, 3) := by decide +kernel
theorem dX11_actOf_52 : decode cX11_actOf 52 = .ok (.iload_n 1, 1) := by decide +kernel
theorem dX11_actOf_53 : decode cX11_actOf 53 = .ok (.ifCond .ne 22, 3) := by decide +kernel
theorem dX11_actOf_56 : decode cX11_actOf 56 = .ok (.aload_n 0, 1) := by decide +kernel
theorem dX11_actOf_57 : decode cX11_actOf 57 = .ok (.getfield 62, 3) := by decide +kernel
theorem dX11_actOf_60 : decode cX11_actOf 60 = .ok (.iload 8, 2) := by decide +kernel
theorem dX11_actOf_62 : decode cX11_actOf 62 = .ok (.iaload, 1) := by decide +kernel
theorem dX11_actOf_63 : decode cX11_actOf 63 = .ok (.iconst 1, 1) := by decide +kernel
theorem dX11_actOf_64 : decode cX11_actOf 64 = .ok (.if_icmp .gt 7, 3) := by decide +kernel
theorem dX11_actOf_67 : decode cX11_actOf 67 = .ok (.iconst 1, 1) := by decide +kernel
theorem dX11_actOf_68 : decode cX11_actOf 68 = .ok (.goto 23, 3) := by decide +kernel
theorem dX11_actOf_71 : decode cX11_actOf 71 = .ok (.iconst 0, 1) := by decide +kernel
theorem dX11_actOf_72 : decode cX11_actOf 72 = .ok (.goto 19, 3) := by decide +kernel
theorem dX11_actOf_75 : decode cX11_actOf 75 = .ok (.aload_n 0, 1) := by decide +kernel
theorem dX11_actOf_76 : decode cX11_actOf 76 = .ok (.getfield 62, 3) := by decide +kernel
theorem dX11_actOf_79 : decode cX11_actOf 79 = .ok (.iload 8, 2) := by decide +kernel
theorem dX11_actOf_81 : decode cX11_actOf 81 = .ok (.iaload, 1) := by decide +kernel
theorem dX11_actOf_82 : decode cX11_actOf 82 = .ok (.iload_n 1, 1) := by decide +kernel
theorem dX11_actOf_83 : decode cX11_actOf 83 = .ok (.if_icmp .ne 7, 3) := by decide +kernel
theorem dX11_actOf_86 : decode cX11_actOf 86 = .ok (.iconst 1, 1) := by decide +kernel
theorem dX11_actOf_87 : decode cX11_actOf 87 = .ok (.goto 4, 3) := by decide +kernel
theorem dX11_actOf_90 : decode cX11_actOf 90 = .ok (.iconst 0, 1) := by decide +kernel
theorem dX11_actOf_91 : decode cX11_actOf 91 = .ok (.istore 9, 2) := by decide +kernel
theorem dX11_actOf_93 : decode cX11_actOf 93 = .ok (.iload 9, 2) := by decide +kernel
theorem dX11_actOf_95 : decode cX11_actOf 95 = .ok (.ifCond .eq 111, 3) := by decide +kernel
theorem dX11_actOf_98 : decode cX11_actOf 98 = .ok (.iload 7, 2) := by decide +kernel
theorem dX11_actOf_100 : decode cX11_actOf 100 = .ok (.aload_n 0, 1) := by decide +kernel
theorem dX11_actOf_101 : decode cX11_actOf 101 = .ok (.getfield 68, 3) := by decide +kernel
theorem dX11_actOf_104 : decode cX11_actOf 104 = .ok (.iload 8, 2) := by decide +kernel
theorem dX11_actOf_106 : decode cX11_actOf 106 = .ok (.iaload, 1) := by decide +kernel
theorem dX11_actOf_107 : decode cX11_actOf 107 = .ok (.aload_n 0, 1) := by decide +kernel
theorem dX11_actOf_108 : decode cX11_actOf 108 = .ok (.getfield 71, 3) := by decide +kernel
theorem dX11_actOf_111 : decode cX11_actOf 111 = .ok (.iload 8, 2) := by decide +kernel
theorem dX11_actOf_113 : decode cX11_actOf 113 = .ok (.iaload, 1) := by decide +kernel
theorem dX11_actOf_114 : decode cX11_actOf 114 = .ok (.invokestatic 204, 3) := by decide +kernel
theorem dX11_actOf_117 : decode cX11_actOf 117 = .ok (.ifCond .eq 89, 3) := by decide +kernel
theorem dX11_actOf_120 : decode cX11_actOf 120 = .ok (.aload_n 0, 1) := by decide +kernel
theorem dX11_actOf_121 : decode cX11_actOf 121 = .ok (.getfield 74, 3) := by decide +kernel
theorem dX11_actOf_124 : decode cX11_actOf 124 = .ok (.iload 8, 2) := by decide +kernel
theorem dX11_actOf_126 : decode cX11_actOf 126 = .ok (.iaload, 1) := by decide +kernel
theorem dX11_actOf_127 : decode cX11_actOf 127 = .ok (.aload_n 0, 1) := by decide +kernel
theorem dX11_actOf_128 : decode cX11_actOf 128 = .ok (.getfield 16, 3) := by decide +kernel
theorem dX11_actOf_131 : decode cX11_actOf 131 = .ok (.iload 6, 2) := by decide +kernel
theorem dX11_actOf_133 : decode cX11_actOf 133 = .ok (.iaload, 1) := by decide +kernel
theorem dX11_actOf_134 : decode cX11_actOf 134 = .ok (.ishr, 1) := by decide +kernel
theorem dX11_actOf_135 : decode cX11_actOf 135 = .ok (.iconst 1, 1) := by decide +kernel
theorem dX11_actOf_136 : decode cX11_actOf 136 = .ok (.iand, 1) := by decide +kernel
theorem dX11_actOf_137 : decode cX11_actOf 137 = .ok (.iconst 1, 1) := by decide +kernel
theorem dX11_actOf_138 : decode cX11_actOf 138 = .ok (.if_icmp .ne 68, 3) := by decide +kernel
theorem dX11_actOf_141 : decode cX11_actOf 141 = .ok (.iload 4, 2) := by decide +kernel
theorem dX11_actOf_143 : decode cX11_actOf 143 = .ok (.aload_n 0, 1) := by decide +kernel
theorem dX11_actOf_144 : decode cX11_actOf 144 = .ok (.getfield 77, 3) := by decide +kernel
theorem dX11_actOf_147 : decode cX11_actOf 147 = .ok (.iload 8, 2) := by decide +kernel
theorem dX11_actOf_149 : decode cX11_actOf 149 = .ok (.iaload, 1) := by decide +kernel
theorem dX11_actOf_150 : decode cX11_actOf 150 = .ok (.aload_n 0, 1) := by decide +kernel
theorem dX11_actOf_151 : decode cX11_actOf 151 = .ok (.getfield 80, 3) := by decide +kernel
theorem dX11_actOf_154 : decode cX11_actOf 154 = .ok (.iload 8, 2) := by decide +kernel
theorem dX11_actOf_156 : decode cX11_actOf 156 = .ok (.iaload, 1) := by decide +kernel
theorem dX11_actOf_157 : decode cX11_actOf 157 = .ok (.invokestatic 204, 3) := by decide +kernel
theorem dX11_actOf_160 : decode cX11_actOf 160 = .ok (.ifCond .eq 46, 3) := by decide +kernel
theorem dX11_actOf_163 : decode cX11_actOf 163 = .ok (.aload_n 0, 1) := by decide +kernel
theorem dX11_actOf_164 : decode cX11_actOf 164 = .ok (.getfield 83, 3) := by decide +kernel
theorem dX11_actOf_167 : decode cX11_actOf 167 = .ok (.iload 8, 2) := by decide +kernel
theorem dX11_actOf_169 : decode cX11_actOf 169 = .ok (.iaload, 1) := by decide +kernel
theorem dX11_actOf_170 : decode cX11_actOf 170 = .ok (.ifCond .eq 32, 3) := by decide +kernel
theorem dX11_actOf_173 : decode cX11_actOf 173 = .ok (.aload_n 0, 1) := by decide +kernel
theorem dX11_actOf_174 : decode cX11_actOf 174 = .ok (.getfield 83, 3) := by decide +kernel
theorem dX11_actOf_177 : decode cX11_actOf 177 = .ok (.iload 8, 2) := by decide +kernel
theorem dX11_actOf_179 : decode cX11_actOf 179 = .ok (.iaload, 1) := by decide +kernel
theorem dX11_actOf_180 : decode cX11_actOf 180 = .ok (.iconst 1, 1) := by decide +kernel
theorem dX11_actOf_181 : decode cX11_actOf 181 = .ok (.if_icmp .ne 7, 3) := by decide +kernel
theorem dX11_actOf_184 : decode cX11_actOf 184 = .ok (.iconst 1, 1) := by decide +kernel
theorem dX11_actOf_185 : decode cX11_actOf 185 = .ok (.goto 4, 3) := by decide +kernel
theorem dX11_actOf_188 : decode cX11_actOf 188 = .ok (.iconst 0, 1) := by decide +kernel
theorem dX11_actOf_189 : decode cX11_actOf 189 = .ok (.iload_n 3, 1) := by decide +kernel
theorem dX11_actOf_190 : decode cX11_actOf 190 = .ok (.iconst (-1), 1) := by decide +kernel
theorem dX11_actOf_191 : decode cX11_actOf 191 = .ok (.if_icmp .eq 7, 3) := by decide +kernel
theorem dX11_actOf_194 : decode cX11_actOf 194 = .ok (.iconst 1, 1) := by decide +kernel
theorem dX11_actOf_195 : decode cX11_actOf 195 = .ok (.goto 4, 3) := by decide +kernel
theorem dX11_actOf_198 : decode cX11_actOf 198 = .ok (.iconst 0, 1) := by decide +kernel
theorem dX11_actOf_199 : decode cX11_actOf 199 = .ok (.if_icmp .ne 7, 3) := by decide +kernel
theorem dX11_actOf_202 : decode cX11_actOf 202 = .ok (.iconst 1, 1) := by decide +kernel
theorem dX11_actOf_203 : decode cX11_actOf 203 = .ok (.goto 4, 3) := by decide +kernel
theorem dX11_actOf_206 : decode cX11_actOf 206 = .ok (.iconst 0, 1) := by decide +kernel
theorem dX11_actOf_207 : decode cX11_actOf 207 = .ok (.istore 10, 2) := by decide +kernel
theorem dX11_actOf_209 : decode cX11_actOf 209 = .ok (.iload 10, 2) := by decide +kernel
theorem dX11_actOf_211 : decode cX11_actOf 211 = .ok (.ifCond .eq 27, 3) := by decide +kernel
theorem dX11_actOf_214 : decode cX11_actOf 214 = .ok (.iload_n 1, 1) := by decide +kernel
theorem dX11_actOf_215 : decode cX11_actOf 215 = .ok (.ifCond .ne 15, 3) := by decide +kernel
theorem dX11_actOf_218 : decode cX11_actOf 218 = .ok (.iconst 1, 1) := by decide +kernel
theorem dX11_actOf_219 : decode cX11_actOf 219 = .ok (.aload_n 0, 1) := by decide +kernel
theorem dX11_actOf_220 : decode cX11_actOf 220 = .ok (.getfield 62, 3) := by decide +kernel
theorem dX11_actOf_223 : decode cX11_actOf 223 = .ok (.iload 8, 2) := by decide +kernel
theorem dX11_actOf_225 : decode cX11_actOf 225 = .ok (.iaload, 1) := by decide +kernel
theorem dX11_actOf_226 : decode cX11_actOf 226 = .ok (.isub, 1) := by decide +kernel
theorem dX11_actOf_227 : decode cX11_actOf 227 = .ok (.goto 10, 3) := by decide +kernel
theorem dX11_actOf_230 : decode cX11_actOf 230 = .ok (.aload_n 0, 1) := by decide +kernel
theorem dX11_actOf_231 : decode cX11_actOf 231 = .ok (.getfield 65, 3) := by decide +kernel
theorem dX11_actOf_234 : decode cX11_actOf 234 = .ok (.iload 8, 2) := by decide +kernel
theorem dX11_actOf_236 : decode cX11_actOf 236 = .ok (.iaload, 1) := by decide +kernel
theorem dX11_actOf_237 : decode cX11_actOf 237 = .ok (.ireturn, 1) := by decide +kernel
theorem dX11_actOf_238 : decode cX11_actOf 238 = .ok (.iinc 8 (-1), 3) := by decide +kernel
theorem dX11_actOf_241 : decode cX11_actOf 241 = .ok (.goto (-194), 3) := by decide +kernel
theorem dX11_actOf_244 : decode cX11_actOf 244 = .ok (.iload 5, 2) := by decide +kernel
theorem dX11_actOf_246 : decode cX11_actOf 246 = .ok (.ireturn, 1) := by decide +kernel
theorem dX11_mayBe_0 : decode cX11_mayBe 0 = .ok (.aload_n 0, 1) := by decide +kernel
theorem dX11_mayBe_1 : decode cX11_mayBe 1 = .ok (.iconst 0, 1) := by decide +kernel
theorem dX11_mayBe_2 : decode cX11_mayBe 2 = .ok (.iload_n 1, 1) := by decide +kernel
theorem dX11_mayBe_3 : decode cX11_mayBe 3 = .ok (.iload_n 2, 1) := by decide +kernel
theorem dX11_mayBe_4 : decode cX11_mayBe 4 = .ok (.aload_n 0, 1) := by decide +kernel
theorem dX11_mayBe_5 : decode cX11_mayBe 5 = .ok (.getfield 208, 3) := by decide +kernel
theorem dX11_mayBe_8 : decode cX11_mayBe 8 = .ok (.iconst 1, 1) := by decide +kernel
theorem dX11_mayBe_9 : decode cX11_mayBe 9 = .ok (.invokevirtual 217, 3) := by decide +kernel
theorem dX11_mayBe_12 : decode cX11_mayBe 12 = .ok (.iconst 1, 1) := by decide +kernel
theorem dX11_mayBe_13 : decode cX11_mayBe 13 = .ok (.if_icmp .ne 7, 3) := by decide +kernel
theorem dX11_mayBe_16 : decode cX11_mayBe 16 = .ok (.iconst 1, 1) := by decide +kernel
theorem dX11_mayBe_17 : decode cX11_mayBe 17 = .ok (.goto 4, 3) := by decide +kernel
theorem dX11_mayBe_20 : decode cX11_mayBe 20 = .ok (.iconst 0, 1) := by decide +kernel
theorem dX11_mayBe_21 : decode cX11_mayBe 21 = .ok (.ireturn, 1) := by decide +kernel
theorem dX11_priceOf_0 : decode cX11_priceOf 0 = .ok (.aload_n 0, 1) := by decide +kernel
theorem dX11_priceOf_1 : decode cX11_priceOf 1 = .ok (.iconst 2, 1) := by decide +kernel
theorem dX11_priceOf_2 : decode cX11_priceOf 2 = .ok (.iload_n 1, 1) := by decide +kernel
theorem dX11_priceOf_3 : decode cX11_priceOf 3 = .ok (.iload_n 2, 1) := by decide +kernel
theorem dX11_priceOf_4 : decode cX11_priceOf 4 = .ok (.aload_n 0, 1) := by decide +kernel
theorem dX11_priceOf_5 : decode cX11_priceOf 5 = .ok (.getfield 208, 3) := by decide +kernel
theorem dX11_priceOf_8 : decode cX11_priceOf 8 = .ok (.bipush 10, 2) := by decide +kernel
theorem dX11_priceOf_10 : decode cX11_priceOf 10 = .ok (.invokevirtual 217, 3) := by decide +kernel
theorem dX11_priceOf_13 : decode cX11_priceOf 13 = .ok (.ireturn, 1) := by decide +kernel
theorem dX11_lumpOf_0 : decode cX11_lumpOf 0 = .ok (.aload_n 0, 1) := by decide +kernel
theorem dX11_lumpOf_1 : decode cX11_lumpOf 1 = .ok (.iconst 3, 1) := by decide +kernel
theorem dX11_lumpOf_2 : decode cX11_lumpOf 2 = .ok (.iload_n 1, 1) := by decide +kernel
theorem dX11_lumpOf_3 : decode cX11_lumpOf 3 = .ok (.iload_n 2, 1) := by decide +kernel
theorem dX11_lumpOf_4 : decode cX11_lumpOf 4 = .ok (.aload_n 0, 1) := by decide +kernel
theorem dX11_lumpOf_5 : decode cX11_lumpOf 5 = .ok (.getfield 208, 3) := by decide +kernel
theorem dX11_lumpOf_8 : decode cX11_lumpOf 8 = .ok (.iconst 0, 1) := by decide +kernel
theorem dX11_lumpOf_9 : decode cX11_lumpOf 9 = .ok (.invokevirtual 217, 3) := by decide +kernel
theorem dX11_lumpOf_12 : decode cX11_lumpOf 12 = .ok (.ireturn, 1) := by decide +kernel
theorem dX11_asks_0 : decode cX11_asks 0 = .ok (.aload_n 0, 1) := by decide +kernel
theorem dX11_asks_1 : decode cX11_asks 1 = .ok (.iconst 0, 1) := by decide +kernel
theorem dX11_asks_2 : decode cX11_asks 2 = .ok (.putfield 129, 3) := by decide +kernel
theorem dX11_asks_5 : decode cX11_asks 5 = .ok (.aload_n 0, 1) := by decide +kernel
theorem dX11_asks_6 : decode cX11_asks 6 = .ok (.iload_n 1, 1) := by decide +kernel
theorem dX11_asks_7 : decode cX11_asks 7 = .ok (.invokevirtual 221, 3) := by decide +kernel
theorem dX11_asks_10 : decode cX11_asks 10 = .ok (.ifCond .eq 12, 3) := by decide +kernel
theorem dX11_asks_13 : decode cX11_asks 13 = .ok (.iload_n 2, 1) := by decide +kernel
theorem dX11_asks_14 : decode cX11_asks 14 = .ok (.iconst 0, 1) := by decide +kernel
theorem dX11_asks_15 : decode cX11_asks 15 = .ok (.iconst 2, 1) := by decide +kernel
theorem dX11_asks_16 : decode cX11_asks 16 = .ok (.invokestatic 204, 3) := by decide +kernel
theorem dX11_asks_19 : decode cX11_asks 19 = .ok (.ifCond .ne 5, 3) := by decide +kernel
theorem dX11_asks_22 : decode cX11_asks 22 = .ok (.iconst (-1), 1) := by decide +kernel
theorem dX11_asks_23 : decode cX11_asks 23 = .ok (.ireturn, 1) := by decide +kernel
theorem dX11_asks_24 : decode cX11_asks 24 = .ok (.iload_n 2, 1) := by decide +kernel
theorem dX11_asks_25 : decode cX11_asks 25 = .ok (.ifCond .ne 20, 3) := by decide +kernel
theorem dX11_asks_28 : decode cX11_asks 28 = .ok (.aload_n 0, 1) := by decide +kernel
theorem dX11_asks_29 : decode cX11_asks 29 = .ok (.iload_n 1, 1) := by decide +kernel
theorem dX11_asks_30 : decode cX11_asks 30 = .ok (.iconst (-1), 1) := by decide +kernel
theorem dX11_asks_31 : decode cX11_asks 31 = .ok (.invokevirtual 224, 3) := by decide +kernel
theorem dX11_asks_34 : decode cX11_asks 34 = .ok (.ifCond .eq 7, 3) := by decide +kernel
theorem dX11_asks_37 : decode cX11_asks 37 = .ok (.iconst 1, 1) := by decide +kernel
theorem dX11_asks_38 : decode cX11_asks 38 = .ok (.goto 27, 3) := by decide +kernel
theorem dX11_asks_41 : decode cX11_asks 41 = .ok (.iconst 0, 1) := by decide +kernel
theorem dX11_asks_42 : decode cX11_asks 42 = .ok (.goto 23, 3) := by decide +kernel
theorem dX11_asks_45 : decode cX11_asks 45 = .ok (.iload_n 2, 1) := by decide +kernel
theorem dX11_asks_46 : decode cX11_asks 46 = .ok (.iconst 1, 1) := by decide +kernel
theorem dX11_asks_47 : decode cX11_asks 47 = .ok (.if_icmp .ne 12, 3) := by decide +kernel
theorem dX11_asks_50 : decode cX11_asks 50 = .ok (.aload_n 0, 1) := by decide +kernel
theorem dX11_asks_51 : decode cX11_asks 51 = .ok (.iload_n 1, 1) := by decide +kernel
theorem dX11_asks_52 : decode cX11_asks 52 = .ok (.iconst (-1), 1) := by decide +kernel
theorem dX11_asks_53 : decode cX11_asks 53 = .ok (.invokevirtual 227, 3) := by decide +kernel
theorem dX11_asks_56 : decode cX11_asks 56 = .ok (.goto 9, 3) := by decide +kernel
theorem dX11_asks_59 : decode cX11_asks 59 = .ok (.aload_n 0, 1) := by decide +kernel
theorem dX11_asks_60 : decode cX11_asks 60 = .ok (.iload_n 1, 1) := by decide +kernel
theorem dX11_asks_61 : decode cX11_asks 61 = .ok (.iconst (-1), 1) := by decide +kernel
theorem dX11_asks_62 : decode cX11_asks 62 = .ok (.invokevirtual 230, 3) := by decide +kernel
theorem dX11_asks_65 : decode cX11_asks 65 = .ok (.ireturn, 1) := by decide +kernel
theorem dX11_isHolder_0 : decode cX11_isHolder 0 = .ok (.iload_n 0, 1) := by decide +kernel
theorem dX11_isHolder_1 : decode cX11_isHolder 1 = .ok (.ifCond .lt 13, 3) := by decide +kernel
theorem dX11_isHolder_4 : decode cX11_isHolder 4 = .ok (.iload_n 0, 1) := by decide +kernel
theorem dX11_isHolder_5 : decode cX11_isHolder 5 = .ok (.bipush 8, 2) := by decide +kernel
theorem dX11_isHolder_7 : decode cX11_isHolder 7 = .ok (.if_icmp .ge 7, 3) := by decide +kernel
theorem dX11_isHolder_10 : decode cX11_isHolder 10 = .ok (.iconst 1, 1) := by decide +kernel
theorem dX11_isHolder_11 : decode cX11_isHolder 11 = .ok (.goto 4, 3) := by decide +kernel
theorem dX11_isHolder_14 : decode cX11_isHolder 14 = .ok (.iconst 0, 1) := by decide +kernel
theorem dX11_isHolder_15 : decode cX11_isHolder 15 = .ok (.ireturn, 1) := by decide +kernel
theorem dX11_rent_0 : decode cX11_rent 0 = .ok (.aload_n 0, 1) := by decide +kernel
theorem dX11_rent_1 : decode cX11_rent 1 = .ok (.iconst 0, 1) := by decide +kernel
theorem dX11_rent_2 : decode cX11_rent 2 = .ok (.putfield 129, 3) := by decide +kernel
theorem dX11_rent_5 : decode cX11_rent 5 = .ok (.aload_n 0, 1) := by decide +kernel
theorem dX11_rent_6 : decode cX11_rent 6 = .ok (.getfield 233, 3) := by decide +kernel
theorem dX11_rent_9 : decode cX11_rent 9 = .ok (.bipush 16, 2) := by decide +kernel
theorem dX11_rent_11 : decode cX11_rent 11 = .ok (.if_icmp .eq 56, 3) := by decide +kernel
theorem dX11_rent_14 : decode cX11_rent 14 = .ok (.iload_n 1, 1) := by decide +kernel
theorem dX11_rent_15 : decode cX11_rent 15 = .ok (.invokestatic 236, 3) := by decide +kernel
theorem dX11_rent_18 : decode cX11_rent 18 = .ok (.ifCond .eq 49, 3) := by decide +kernel
theorem dX11_rent_21 : decode cX11_rent 21 = .ok (.aload_n 0, 1) := by decide +kernel
theorem dX11_rent_22 : decode cX11_rent 22 = .ok (.iload_n 2, 1) := by decide +kernel
theorem dX11_rent_23 : decode cX11_rent 23 = .ok (.invokevirtual 221, 3) := by decide +kernel
theorem dX11_rent_26 : decode cX11_rent 26 = .ok (.ifCond .eq 41, 3) := by decide +kernel
theorem dX11_rent_29 : decode cX11_rent 29 = .ok (.iload_n 3, 1) := by decide +kernel
theorem dX11_rent_30 : decode cX11_rent 30 = .ok (.iconst (-1), 1) := by decide +kernel
theorem dX11_rent_31 : decode cX11_rent 31 = .ok (.if_icmp .eq 16, 3) := by decide +kernel
theorem dX11_rent_34 : decode cX11_rent 34 = .ok (.aload_n 0, 1) := by decide +kernel
theorem dX11_rent_35 : decode cX11_rent 35 = .ok (.iload_n 3, 1) := by decide +kernel
theorem dX11_rent_36 : decode cX11_rent 36 = .ok (.invokevirtual 221, 3) := by decide +kernel
theorem dX11_rent_39 : decode cX11_rent 39 = .ok (.ifCond .eq 28, 3) := by decide +kernel
theorem dX11_rent_42 : decode cX11_rent 42 = .ok (.iload_n 2, 1) := by decide +kernel
theorem dX11_rent_43 : decode cX11_rent 43 = .ok (.iload_n 3, 1) := by decide +kernel
theorem dX11_rent_44 : decode cX11_rent 44 = .ok (.if_icmp .eq 23, 3) := by decide +kernel
theorem dX11_rent_47 : decode cX11_rent 47 = .ok (.iload 4, 2) := by decide +kernel
theorem dX11_rent_49 : decode cX11_rent 49 = .ok (.iconst 1, 1) := by decide +kernel
theorem dX11_rent_50 : decode cX11_rent 50 = .ok (.bipush 99, 2) := by decide +kernel
theorem dX11_rent_52 : decode cX11_rent 52 = .ok (.invokestatic 204, 3) := by decide +kernel
theorem dX11_rent_55 : decode cX11_rent 55 = .ok (.ifCond .eq 12, 3) := by decide +kernel
theorem dX11_rent_58 : decode cX11_rent 58 = .ok (.aload_n 0, 1) := by decide +kernel
theorem dX11_rent_59 : decode cX11_rent 59 = .ok (.iload_n 2, 1) := by decide +kernel
theorem dX11_rent_60 : decode cX11_rent 60 = .ok (.iload_n 3, 1) := by decide +kernel
theorem dX11_rent_61 : decode cX11_rent 61 = .ok (.invokevirtual 224, 3) := by decide +kernel
theorem dX11_rent_64 : decode cX11_rent 64 = .ok (.ifCond .ne 5, 3) := by decide +kernel
theorem dX11_rent_67 : decode cX11_rent 67 = .ok (.iconst (-1), 1) := by decide +kernel
theorem dX11_rent_68 : decode cX11_rent 68 = .ok (.ireturn, 1) := by decide +kernel
theorem dX11_rent_69 : decode cX11_rent 69 = .ok (.aload_n 0, 1) := by decide +kernel
theorem dX11_rent_70 : decode cX11_rent 70 = .ok (.getfield 19, 3) := by decide +kernel
theorem dX11_rent_73 : decode cX11_rent 73 = .ok (.aload_n 0, 1) := by decide +kernel
theorem dX11_rent_74 : decode cX11_rent 74 = .ok (.getfield 233, 3) := by decide +kernel
theorem dX11_rent_77 : decode cX11_rent 77 = .ok (.aload_n 0, 1) := by decide +kernel
theorem dX11_rent_78 : decode cX11_rent 78 = .ok (.getfield 208, 3) := by decide +kernel
theorem dX11_rent_81 : decode cX11_rent 81 = .ok (.iastore, 1) := by decide +kernel
theorem dX11_rent_82 : decode cX11_rent 82 = .ok (.aload_n 0, 1) := by decide +kernel
theorem dX11_rent_83 : decode cX11_rent 83 = .ok (.getfield 22, 3) := by decide +kernel
theorem dX11_rent_86 : decode cX11_rent 86 = .ok (.aload_n 0, 1) := by decide +kernel
theorem dX11_rent_87 : decode cX11_rent 87 = .ok (.getfield 233, 3) := by decide +kernel
theorem dX11_rent_90 : decode cX11_rent 90 = .ok (.iload_n 1, 1) := by decide +kernel
theorem dX11_rent_91 : decode cX11_rent 91 = .ok (.iastore, 1) := by decide +kernel
theorem dX11_rent_92 : decode cX11_rent 92 = .ok (.aload_n 0, 1) := by decide +kernel
theorem dX11_rent_93 : decode cX11_rent 93 = .ok (.getfield 25, 3) := by decide +kernel
theorem dX11_rent_96 : decode cX11_rent 96 = .ok (.aload_n 0, 1) := by decide +kernel
theorem dX11_rent_97 : decode cX11_rent 97 = .ok (.getfield 233, 3) := by decide +kernel
theorem dX11_rent_100 : decode cX11_rent 100 = .ok (.iload_n 2, 1) := by decide +kernel
theorem dX11_rent_101 : decode cX11_rent 101 = .ok (.iastore, 1) := by decide +kernel
theorem dX11_rent_102 : decode cX11_rent 102 = .ok (.aload_n 0, 1) := by decide +kernel
theorem dX11_rent_103 : decode cX11_rent 103 = .ok (.getfield 28, 3) := by decide +kernel
theorem dX11_rent_106 : decode cX11_rent 106 = .ok (.aload_n 0, 1) := by decide +kernel
theorem dX11_rent_107 : decode cX11_rent 107 = .ok (.getfield 233, 3) := by decide +kernel
theorem dX11_rent_110 : decode cX11_rent 110 = .ok (.iload_n 3, 1) := by decide +kernel
theorem dX11_rent_111 : decode cX11_rent 111 = .ok (.iastore, 1) := by decide +kernel
theorem dX11_rent_112 : decode cX11_rent 112 = .ok (.aload_n 0, 1) := by decide +kernel
theorem dX11_rent_113 : decode cX11_rent 113 = .ok (.getfield 31, 3) := by decide +kernel
theorem dX11_rent_116 : decode cX11_rent 116 = .ok (.aload_n 0, 1) := by decide +kernel
theorem dX11_rent_117 : decode cX11_rent 117 = .ok (.getfield 233, 3) := by decide +kernel
theorem dX11_rent_120 : decode cX11_rent 120 = .ok (.iload 4, 2) := by decide +kernel
theorem dX11_rent_122 : decode cX11_rent 122 = .ok (.iastore, 1) := by decide +kernel
theorem dX11_rent_123 : decode cX11_rent 123 = .ok (.aload_n 0, 1) := by decide +kernel
theorem dX11_rent_124 : decode cX11_rent 124 = .ok (.getfield 34, 3) := by decide +kernel
theorem dX11_rent_127 : decode cX11_rent 127 = .ok (.aload_n 0, 1) := by decide +kernel
theorem dX11_rent_128 : decode cX11_rent 128 = .ok (.getfield 233, 3) := by decide +kernel
theorem dX11_rent_131 : decode cX11_rent 131 = .ok (.iload 4, 2) := by decide +kernel
theorem dX11_rent_133 : decode cX11_rent 133 = .ok (.aload_n 0, 1) := by decide +kernel
theorem dX11_rent_134 : decode cX11_rent 134 = .ok (.iload_n 2, 1) := by decide +kernel
theorem dX11_rent_135 : decode cX11_rent 135 = .ok (.iload_n 3, 1) := by decide +kernel
theorem dX11_rent_136 : decode cX11_rent 136 = .ok (.invokevirtual 227, 3) := by decide +kernel
theorem dX11_rent_139 : decode cX11_rent 139 = .ok (.imul, 1) := by decide +kernel
theorem dX11_rent_140 : decode cX11_rent 140 = .ok (.iastore, 1) := by decide +kernel
theorem dX11_rent_141 : decode cX11_rent 141 = .ok (.aload_n 0, 1) := by decide +kernel
theorem dX11_rent_142 : decode cX11_rent 142 = .ok (.dup, 1) := by decide +kernel
theorem dX11_rent_143 : decode cX11_rent 143 = .ok (.getfield 233, 3) := by decide +kernel
theorem dX11_rent_146 : decode cX11_rent 146 = .ok (.iconst 1, 1) := by decide +kernel
theorem dX11_rent_147 : decode cX11_rent 147 = .ok (.iadd, 1) := by decide +kernel
theorem dX11_rent_148 : decode cX11_rent 148 = .ok (.putfield 233, 3) := by decide +kernel
theorem dX11_rent_151 : decode cX11_rent 151 = .ok (.aload_n 0, 1) := by decide +kernel
theorem dX11_rent_152 : decode cX11_rent 152 = .ok (.getfield 233, 3) := by decide +kernel
theorem dX11_rent_155 : decode cX11_rent 155 = .ok (.iconst 1, 1) := by decide +kernel
theorem dX11_rent_156 : decode cX11_rent 156 = .ok (.isub, 1) := by decide +kernel
theorem dX11_rent_157 : decode cX11_rent 157 = .ok (.ireturn, 1) := by decide +kernel
theorem dX11_isRent_0 : decode cX11_isRent 0 = .ok (.iload_n 1, 1) := by decide +kernel
theorem dX11_isRent_1 : decode cX11_isRent 1 = .ok (.ifCond .lt 15, 3) := by decide +kernel
theorem dX11_isRent_4 : decode cX11_isRent 4 = .ok (.iload_n 1, 1) := by decide +kernel
theorem dX11_isRent_5 : decode cX11_isRent 5 = .ok (.aload_n 0, 1) := by decide +kernel
theorem dX11_isRent_6 : decode cX11_isRent 6 = .ok (.getfield 233, 3) := by decide +kernel
theorem dX11_isRent_9 : decode cX11_isRent 9 = .ok (.if_icmp .ge 7, 3) := by decide +kernel
theorem dX11_isRent_12 : decode cX11_isRent 12 = .ok (.iconst 1, 1) := by decide +kernel
theorem dX11_isRent_13 : decode cX11_isRent 13 = .ok (.goto 4, 3) := by decide +kernel
theorem dX11_isRent_16 : decode cX11_isRent 16 = .ok (.iconst 0, 1) := by decide +kernel
theorem dX11_isRent_17 : decode cX11_isRent 17 = .ok (.ireturn, 1) := by decide +kernel
theorem dX11_partsOf_0 : decode cX11_partsOf 0 = .ok (.iload_n 3, 1) := by decide +kernel
theorem dX11_partsOf_1 : decode cX11_partsOf 1 = .ok (.aload_n 0, 1) := by decide +kernel
theorem dX11_partsOf_2 : decode cX11_partsOf 2 = .ok (.getfield 19, 3) := by decide +kernel
theorem dX11_partsOf_5 : decode cX11_partsOf 5 = .ok (.iload_n 1, 1) := by decide +kernel
theorem dX11_partsOf_6 : decode cX11_partsOf 6 = .ok (.iaload, 1) := by decide +kernel
theorem dX11_partsOf_7 : decode cX11_partsOf 7 = .ok (.if_icmp .ge 5, 3) := by decide +kernel
theorem dX11_partsOf_10 : decode cX11_partsOf 10 = .ok (.iconst 0, 1) := by decide +kernel
theorem dX11_partsOf_11 : decode cX11_partsOf 11 = .ok (.ireturn, 1) := by decide +kernel
theorem dX11_partsOf_12 : decode cX11_partsOf 12 = .ok (.iload_n 2, 1) := by decide +kernel
theorem dX11_partsOf_13 : decode cX11_partsOf 13 = .ok (.aload_n 0, 1) := by decide +kernel
theorem dX11_partsOf_14 : decode cX11_partsOf 14 = .ok (.getfield 22, 3) := by decide +kernel
theorem dX11_partsOf_17 : decode cX11_partsOf 17 = .ok (.iload_n 1, 1) := by decide +kernel
theorem dX11_partsOf_18 : decode cX11_partsOf 18 = .ok (.iaload, 1) := by decide +kernel
theorem dX11_partsOf_19 : decode cX11_partsOf 19 = .ok (.if_icmp .ne 8, 3) := by decide +kernel
theorem dX11_partsOf_22 : decode cX11_partsOf 22 = .ok (.bipush 60, 2) := by decide +kernel
theorem dX11_partsOf_24 : decode cX11_partsOf 24 = .ok (.goto 4, 3) := by decide +kernel
theorem dX11_partsOf_27 : decode cX11_partsOf 27 = .ok (.iconst 0, 1) := by decide +kernel
theorem dX11_partsOf_28 : decode cX11_partsOf 28 = .ok (.istore 4, 2) := by decide +kernel
theorem dX11_partsOf_30 : decode cX11_partsOf 30 = .ok (.iconst 0, 1) := by decide +kernel
theorem dX11_partsOf_31 : decode cX11_partsOf 31 = .ok (.istore 5, 2) := by decide +kernel
theorem dX11_partsOf_33 : decode cX11_partsOf 33 = .ok (.iload 5, 2) := by decide +kernel
theorem dX11_partsOf_35 : decode cX11_partsOf 35 = .ok (.aload_n 0, 1) := by decide +kernel
theorem dX11_partsOf_36 : decode cX11_partsOf 36 = .ok (.getfield 239, 3) := by decide +kernel
theorem dX11_partsOf_39 : decode cX11_partsOf 39 = .ok (.if_icmp .ge 106, 3) := by decide +kernel
theorem dX11_partsOf_42 : decode cX11_partsOf 42 = .ok (.aload_n 0, 1) := by decide +kernel
theorem dX11_partsOf_43 : decode cX11_partsOf 43 = .ok (.getfield 37, 3) := by decide +kernel
theorem dX11_partsOf_46 : decode cX11_partsOf 46 = .ok (.iconst 5, 1) := by decide +kernel
theorem dX11_partsOf_47 : decode cX11_partsOf 47 = .ok (.iload 5, 2) := by decide +kernel
theorem dX11_partsOf_49 : decode cX11_partsOf 49 = .ok (.imul, 1) := by decide +kernel
theorem dX11_partsOf_50 : decode cX11_partsOf 50 = .ok (.iaload, 1) := by decide +kernel
theorem dX11_partsOf_51 : decode cX11_partsOf 51 = .ok (.iload_n 1, 1) := by decide +kernel
theorem dX11_partsOf_52 : decode cX11_partsOf 52 = .ok (.if_icmp .ne 87, 3) := by decide +kernel
theorem dX11_partsOf_55 : decode cX11_partsOf 55 = .ok (.aload_n 0, 1) := by decide +kernel
theorem dX11_partsOf_56 : decode cX11_partsOf 56 = .ok (.getfield 37, 3) := by decide +kernel
theorem dX11_partsOf_59 : decode cX11_partsOf 59 = .ok (.iconst 5, 1) := by decide +kernel
theorem dX11_partsOf_60 : decode cX11_partsOf 60 = .ok (.iload 5, 2) := by decide +kernel
theorem dX11_partsOf_62 : decode cX11_partsOf 62 = .ok (.imul, 1) := by decide +kernel
theorem dX11_partsOf_63 : decode cX11_partsOf 63 = .ok (.iconst 4, 1) := by decide +kernel
theorem dX11_partsOf_64 : decode cX11_partsOf 64 = .ok (.iadd, 1) := by decide +kernel
theorem dX11_partsOf_65 : decode cX11_partsOf 65 = .ok (.iaload, 1) := by decide +kernel
theorem dX11_partsOf_66 : decode cX11_partsOf 66 = .ok (.iload_n 3, 1) := by decide +kernel
theorem dX11_partsOf_67 : decode cX11_partsOf 67 = .ok (.if_icmp .le 6, 3) := by decide +kernel
theorem dX11_partsOf_70 : decode cX11_partsOf 70 = .ok (.goto 69, 3) := by decide +kernel
theorem dX11_partsOf_73 : decode cX11_partsOf 73 = .ok (.iload 4, 2) := by decide +kernel
theorem dX11_partsOf_75 : decode cX11_partsOf 75 = .ok (.aload_n 0, 1) := by decide +kernel
theorem dX11_partsOf_76 : decode cX11_partsOf 76 = .ok (.getfield 37, 3) := by decide +kernel
theorem dX11_partsOf_79 : decode cX11_partsOf 79 = .ok (.iconst 5, 1) := by decide +kernel
theorem dX11_partsOf_80 : decode cX11_partsOf 80 = .ok (.iload 5, 2) := by decide +kernel
theorem dX11_partsOf_82 : decode cX11_partsOf 82 = .ok (.imul, 1) := by decide +kernel
theorem dX11_partsOf_83 : decode cX11_partsOf 83 = .ok (.iconst 2, 1) := by decide +kernel
theorem dX11_partsOf_84 : decode cX11_partsOf 84 = .ok (.iadd, 1) := by decide +kernel
theorem dX11_partsOf_85 : decode cX11_partsOf 85 = .ok (.iaload, 1) := by decide +kernel
theorem dX11_partsOf_86 : decode cX11_partsOf 86 = .ok (.iload_n 2, 1) := by decide +kernel
theorem dX11_partsOf_87 : decode cX11_partsOf 87 = .ok (.if_icmp .ne 17, 3) := by decide +kernel
theorem dX11_partsOf_90 : decode cX11_partsOf 90 = .ok (.aload_n 0, 1) := by decide +kernel
theorem dX11_partsOf_91 : decode cX11_partsOf 91 = .ok (.getfield 37, 3) := by decide +kernel
theorem dX11_partsOf_94 : decode cX11_partsOf 94 = .ok (.iconst 5, 1) := by decide +kernel
theorem dX11_partsOf_95 : decode cX11_partsOf 95 = .ok (.iload 5, 2) := by decide +kernel
theorem dX11_partsOf_97 : decode cX11_partsOf 97 = .ok (.imul, 1) := by decide +kernel
theorem dX11_partsOf_98 : decode cX11_partsOf 98 = .ok (.iconst 3, 1) := by decide +kernel
theorem dX11_partsOf_99 : decode cX11_partsOf 99 = .ok (.iadd, 1) := by decide +kernel
theorem dX11_partsOf_100 : decode cX11_partsOf 100 = .ok (.iaload, 1) := by decide +kernel
theorem dX11_partsOf_101 : decode cX11_partsOf 101 = .ok (.goto 4, 3) := by decide +kernel
theorem dX11_partsOf_104 : decode cX11_partsOf 104 = .ok (.iconst 0, 1) := by decide +kernel
theorem dX11_partsOf_105 : decode cX11_partsOf 105 = .ok (.aload_n 0, 1) := by decide +kernel
theorem dX11_partsOf_106 : decode cX11_partsOf 106 = .ok (.getfield 37, 3) := by decide +kernel
theorem dX11_partsOf_109 : decode cX11_partsOf 109 = .ok (.iconst 5, 1) := by decide +kernel
theorem dX11_partsOf_110 : decode cX11_partsOf 110 = .ok (.iload 5, 2) := by decide +kernel
theorem dX11_partsOf_112 : decode cX11_partsOf 112 = .ok (.imul, 1) := by decide +kernel
theorem dX11_partsOf_113 : decode cX11_partsOf 113 = .ok (.iconst 1, 1) := by decide +kernel
theorem dX11_partsOf_114 : decode cX11_partsOf 114 = .ok (.iadd, 1) := by decide +kernel
theorem dX11_partsOf_115 : decode cX11_partsOf 115 = .ok (.iaload, 1) := by decide +kernel
theorem dX11_partsOf_116 : decode cX11_partsOf 116 = .ok (.iload_n 2, 1) := by decide +kernel
theorem dX11_partsOf_117 : decode cX11_partsOf 117 = .ok (.if_icmp .ne 17, 3) := by decide +kernel
theorem dX11_partsOf_120 : decode cX11_partsOf 120 = .ok (.aload_n 0, 1) := by decide +kernel
theorem dX11_partsOf_121 : decode cX11_partsOf 121 = .ok (.getfield 37, 3) := by decide +kernel
theorem dX11_partsOf_124 : decode cX11_partsOf 124 = .ok (.iconst 5, 1) := by decide +kernel
theorem dX11_partsOf_125 : decode cX11_partsOf 125 = .ok (.iload 5, 2) := by decide +kernel
theorem dX11_partsOf_127 : decode cX11_partsOf 127 = .ok (.imul, 1) := by decide +kernel
theorem dX11_partsOf_128 : decode cX11_partsOf 128 = .ok (.iconst 3, 1) := by decide +kernel
theorem dX11_partsOf_129 : decode cX11_partsOf 129 = .ok (.iadd, 1) := by decide +kernel
theorem dX11_partsOf_130 : decode cX11_partsOf 130 = .ok (.iaload, 1) := by decide +kernel
theorem dX11_partsOf_131 : decode cX11_partsOf 131 = .ok (.goto 4, 3) := by decide +kernel
theorem dX11_partsOf_134 : decode cX11_partsOf 134 = .ok (.iconst 0, 1) := by decide +kernel
theorem dX11_partsOf_135 : decode cX11_partsOf 135 = .ok (.isub, 1) := by decide +kernel
theorem dX11_partsOf_136 : decode cX11_partsOf 136 = .ok (.iadd, 1) := by decide +kernel
theorem dX11_partsOf_137 : decode cX11_partsOf 137 = .ok (.istore 4, 2) := by decide +kernel
theorem dX11_partsOf_139 : decode cX11_partsOf 139 = .ok (.iinc 5 1, 3) := by decide +kernel
theorem dX11_partsOf_142 : decode cX11_partsOf 142 = .ok (.goto (-109), 3) := by decide +kernel
theorem dX11_partsOf_145 : decode cX11_partsOf 145 = .ok (.iload 4, 2) := by decide +kernel
theorem dX11_partsOf_147 : decode cX11_partsOf 147 = .ok (.ireturn, 1) := by decide +kernel
theorem dX11_sell_0 : decode cX11_sell 0 = .ok (.aload_n 0, 1) := by decide +kernel
theorem dX11_sell_1 : decode cX11_sell 1 = .ok (.iconst 0, 1) := by decide +kernel
theorem dX11_sell_2 : decode cX11_sell 2 = .ok (.putfield 129, 3) := by decide +kernel
theorem dX11_sell_5 : decode cX11_sell 5 = .ok (.aload_n 0, 1) := by decide +kernel
theorem dX11_sell_6 : decode cX11_sell 6 = .ok (.iload_n 1, 1) := by decide +kernel
theorem dX11_sell_7 : decode cX11_sell 7 = .ok (.invokevirtual 242, 3) := by decide +kernel
theorem dX11_sell_10 : decode cX11_sell 10 = .ok (.ifCond .eq 52, 3) := by decide +kernel
theorem dX11_sell_13 : decode cX11_sell 13 = .ok (.iload_n 2, 1) := by decide +kernel
theorem dX11_sell_14 : decode cX11_sell 14 = .ok (.invokestatic 236, 3) := by decide +kernel
theorem dX11_sell_17 : decode cX11_sell 17 = .ok (.ifCond .eq 45, 3) := by decide +kernel
theorem dX11_sell_20 : decode cX11_sell 20 = .ok (.iload_n 3, 1) := by decide +kernel
theorem dX11_sell_21 : decode cX11_sell 21 = .ok (.invokestatic 236, 3) := by decide +kernel
theorem dX11_sell_24 : decode cX11_sell 24 = .ok (.ifCond .eq 38, 3) := by decide +kernel
theorem dX11_sell_27 : decode cX11_sell 27 = .ok (.iload_n 2, 1) := by decide +kernel
theorem dX11_sell_28 : decode cX11_sell 28 = .ok (.iload_n 3, 1) := by decide +kernel
theorem dX11_sell_29 : decode cX11_sell 29 = .ok (.if_icmp .eq 33, 3) := by decide +kernel
theorem dX11_sell_32 : decode cX11_sell 32 = .ok (.iload 4, 2) := by decide +kernel
theorem dX11_sell_34 : decode cX11_sell 34 = .ok (.iconst 1, 1) := by decide +kernel
theorem dX11_sell_35 : decode cX11_sell 35 = .ok (.if_icmp .lt 27, 3) := by decide +kernel
theorem dX11_sell_38 : decode cX11_sell 38 = .ok (.iload 4, 2) := by decide +kernel
theorem dX11_sell_40 : decode cX11_sell 40 = .ok (.aload_n 0, 1) := by decide +kernel
theorem dX11_sell_41 : decode cX11_sell 41 = .ok (.iload_n 1, 1) := by decide +kernel
theorem dX11_sell_42 : decode cX11_sell 42 = .ok (.iload_n 2, 1) := by decide +kernel
theorem dX11_sell_43 : decode cX11_sell 43 = .ok (.aload_n 0, 1) := by decide +kernel
theorem dX11_sell_44 : decode cX11_sell 44 = .ok (.getfield 208, 3) := by decide +kernel
theorem dX11_sell_47 : decode cX11_sell 47 = .ok (.invokevirtual 245, 3) := by decide +kernel
theorem dX11_sell_50 : decode cX11_sell 50 = .ok (.if_icmp .gt 12, 3) := by decide +kernel
theorem dX11_sell_53 : decode cX11_sell 53 = .ok (.aload_n 0, 1) := by decide +kernel
theorem dX11_sell_54 : decode cX11_sell 54 = .ok (.getfield 239, 3) := by decide +kernel
theorem dX11_sell_57 : decode cX11_sell 57 = .ok (.bipush 40, 2) := by decide +kernel
theorem dX11_sell_59 : decode cX11_sell 59 = .ok (.if_icmp .ne 5, 3) := by decide +kernel
theorem dX11_sell_62 : decode cX11_sell 62 = .ok (.iconst 0, 1) := by decide +kernel
theorem dX11_sell_63 : decode cX11_sell 63 = .ok (.ireturn, 1) := by decide +kernel
theorem dX11_sell_64 : decode cX11_sell 64 = .ok (.aload_n 0, 1) := by decide +kernel
theorem dX11_sell_65 : decode cX11_sell 65 = .ok (.getfield 37, 3) := by decide +kernel
theorem dX11_sell_68 : decode cX11_sell 68 = .ok (.iconst 5, 1) := by decide +kernel
theorem dX11_sell_69 : decode cX11_sell 69 = .ok (.aload_n 0, 1) := by decide +kernel
theorem dX11_sell_70 : decode cX11_sell 70 = .ok (.getfield 239, 3) := by decide +kernel
theorem dX11_sell_73 : decode cX11_sell 73 = .ok (.imul, 1) := by decide +kernel
theorem dX11_sell_74 : decode cX11_sell 74 = .ok (.iload_n 1, 1) := by decide +kernel
theorem dX11_sell_75 : decode cX11_sell 75 = .ok (.iastore, 1) := by decide +kernel
theorem dX11_sell_76 : decode cX11_sell 76 = .ok (.aload_n 0, 1) := by decide +kernel
theorem dX11_sell_77 : decode cX11_sell 77 = .ok (.getfield 37, 3) := by decide +kernel
theorem dX11_sell_80 : decode cX11_sell 80 = .ok (.iconst 5, 1) := by decide +kernel
theorem dX11_sell_81 : decode cX11_sell 81 = .ok (.aload_n 0, 1) := by decide +kernel
theorem dX11_sell_82 : decode cX11_sell 82 = .ok (.getfield 239, 3) := by decide +kernel
theorem dX11_sell_85 : decode cX11_sell 85 = .ok (.imul, 1) := by decide +kernel
theorem dX11_sell_86 : decode cX11_sell 86 = .ok (.iconst 1, 1) := by decide +kernel
theorem dX11_sell_87 : decode cX11_sell 87 = .ok (.iadd, 1) := by decide +kernel
theorem dX11_sell_88 : decode cX11_sell 88 = .ok (.iload_n 2, 1) := by decide +kernel
theorem dX11_sell_89 : decode cX11_sell 89 = .ok (.iastore, 1) := by decide +kernel
theorem dX11_sell_90 : decode cX11_sell 90 = .ok (.aload_n 0, 1) := by decide +kernel
theorem dX11_sell_91 : decode cX11_sell 91 = .ok (.getfield 37, 3) := by decide +kernel
theorem dX11_sell_94 : decode cX11_sell 94 = .ok (.iconst 5, 1) := by decide +kernel
theorem dX11_sell_95 : decode cX11_sell 95 = .ok (.aload_n 0, 1) := by decide +kernel
theorem dX11_sell_96 : decode cX11_sell 96 = .ok (.getfield 239, 3) := by decide +kernel
theorem dX11_sell_99 : decode cX11_sell 99 = .ok (.imul, 1) := by decide +kernel
theorem dX11_sell_100 : decode cX11_sell 100 = .ok (.iconst 2, 1) := by decide +kernel
theorem dX11_sell_101 : decode cX11_sell 101 = .ok (.iadd, 1) := by decide +kernel
theorem dX11_sell_102 : decode cX11_sell 102 = .ok (.iload_n 3, 1) := by decide +kernel
theorem dX11_sell_103 : decode cX11_sell 103 = .ok (.iastore, 1) := by decide +kernel
theorem dX11_sell_104 : decode cX11_sell 104 = .ok (.aload_n 0, 1) := by decide +kernel
theorem dX11_sell_105 : decode cX11_sell 105 = .ok (.getfield 37, 3) := by decide +kernel
theorem dX11_sell_108 : decode cX11_sell 108 = .ok (.iconst 5, 1) := by decide +kernel
theorem dX11_sell_109 : decode cX11_sell 109 = .ok (.aload_n 0, 1) := by decide +kernel
theorem dX11_sell_110 : decode cX11_sell 110 = .ok (.getfield 239, 3) := by decide +kernel
theorem dX11_sell_113 : decode cX11_sell 113 = .ok (.imul, 1) := by decide +kernel
theorem dX11_sell_114 : decode cX11_sell 114 = .ok (.iconst 3, 1) := by decide +kernel
theorem dX11_sell_115 : decode cX11_sell 115 = .ok (.iadd, 1) := by decide +kernel
theorem dX11_sell_116 : decode cX11_sell 116 = .ok (.iload 4, 2) := by decide +kernel
theorem dX11_sell_118 : decode cX11_sell 118 = .ok (.iastore, 1) := by decide +kernel
theorem dX11_sell_119 : decode cX11_sell 119 = .ok (.aload_n 0, 1) := by decide +kernel
theorem dX11_sell_120 : decode cX11_sell 120 = .ok (.getfield 37, 3) := by decide +kernel
theorem dX11_sell_123 : decode cX11_sell 123 = .ok (.iconst 5, 1) := by decide +kernel
theorem dX11_sell_124 : decode cX11_sell 124 = .ok (.aload_n 0, 1) := by decide +kernel
theorem dX11_sell_125 : decode cX11_sell 125 = .ok (.getfield 239, 3) := by decide +kernel
theorem dX11_sell_128 : decode cX11_sell 128 = .ok (.imul, 1) := by decide +kernel
theorem dX11_sell_129 : decode cX11_sell 129 = .ok (.iconst 4, 1) := by decide +kernel
theorem dX11_sell_130 : decode cX11_sell 130 = .ok (.iadd, 1) := by decide +kernel
theorem dX11_sell_131 : decode cX11_sell 131 = .ok (.aload_n 0, 1) := by decide +kernel
theorem dX11_sell_132 : decode cX11_sell 132 = .ok (.getfield 208, 3) := by decide +kernel
theorem dX11_sell_135 : decode cX11_sell 135 = .ok (.iastore, 1) := by decide +kernel
theorem dX11_sell_136 : decode cX11_sell 136 = .ok (.aload_n 0, 1) := by decide +kernel
theorem dX11_sell_137 : decode cX11_sell 137 = .ok (.dup, 1) := by decide +kernel
theorem dX11_sell_138 : decode cX11_sell 138 = .ok (.getfield 239, 3) := by decide +kernel
theorem dX11_sell_141 : decode cX11_sell 141 = .ok (.iconst 1, 1) := by decide +kernel
theorem dX11_sell_142 : decode cX11_sell 142 = .ok (.iadd, 1) := by decide +kernel
theorem dX11_sell_143 : decode cX11_sell 143 = .ok (.putfield 239, 3) := by decide +kernel
theorem dX11_sell_146 : decode cX11_sell 146 = .ok (.iconst 1, 1) := by decide +kernel
theorem dX11_sell_147 : decode cX11_sell 147 = .ok (.ireturn, 1) := by decide +kernel
theorem dX11_parts_0 : decode cX11_parts 0 = .ok (.aload_n 0, 1) := by decide +kernel
theorem dX11_parts_1 : decode cX11_parts 1 = .ok (.iconst 0, 1) := by decide +kernel
theorem dX11_parts_2 : decode cX11_parts 2 = .ok (.putfield 129, 3) := by decide +kernel
theorem dX11_parts_5 : decode cX11_parts 5 = .ok (.aload_n 0, 1) := by decide +kernel
theorem dX11_parts_6 : decode cX11_parts 6 = .ok (.iload_n 1, 1) := by decide +kernel
theorem dX11_parts_7 : decode cX11_parts 7 = .ok (.invokevirtual 242, 3) := by decide +kernel
theorem dX11_parts_10 : decode cX11_parts 10 = .ok (.ifCond .eq 27, 3) := by decide +kernel
theorem dX11_parts_13 : decode cX11_parts 13 = .ok (.iload_n 2, 1) := by decide +kernel
theorem dX11_parts_14 : decode cX11_parts 14 = .ok (.invokestatic 236, 3) := by decide +kernel
theorem dX11_parts_17 : decode cX11_parts 17 = .ok (.ifCond .eq 20, 3) := by decide +kernel
theorem dX11_parts_20 : decode cX11_parts 20 = .ok (.iload_n 3, 1) := by decide +kernel
theorem dX11_parts_21 : decode cX11_parts 21 = .ok (.invokestatic 249, 3) := by decide +kernel
theorem dX11_parts_24 : decode cX11_parts 24 = .ok (.ifCond .eq 13, 3) := by decide +kernel
theorem dX11_parts_27 : decode cX11_parts 27 = .ok (.aload_n 0, 1) := by decide +kernel
theorem dX11_parts_28 : decode cX11_parts 28 = .ok (.iload_n 1, 1) := by decide +kernel
theorem dX11_parts_29 : decode cX11_parts 29 = .ok (.iload_n 2, 1) := by decide +kernel
theorem dX11_parts_30 : decode cX11_parts 30 = .ok (.iload_n 3, 1) := by decide +kernel
theorem dX11_parts_31 : decode cX11_parts 31 = .ok (.invokevirtual 245, 3) := by decide +kernel
theorem dX11_parts_34 : decode cX11_parts 34 = .ok (.goto 4, 3) := by decide +kernel
theorem dX11_parts_37 : decode cX11_parts 37 = .ok (.iconst (-1), 1) := by decide +kernel
theorem dX11_parts_38 : decode cX11_parts 38 = .ok (.ireturn, 1) := by decide +kernel
theorem dX11_told_0 : decode cX11_told 0 = .ok (.aload_n 0, 1) := by decide +kernel
theorem dX11_told_1 : decode cX11_told 1 = .ok (.getfield 40, 3) := by decide +kernel
theorem dX11_told_4 : decode cX11_told 4 = .ok (.aload_n 0, 1) := by decide +kernel
theorem dX11_told_5 : decode cX11_told 5 = .ok (.getfield 252, 3) := by decide +kernel
theorem dX11_told_8 : decode cX11_told 8 = .ok (.iload_n 1, 1) := by decide +kernel
theorem dX11_told_9 : decode cX11_told 9 = .ok (.iastore, 1) := by decide +kernel
theorem dX11_told_10 : decode cX11_told 10 = .ok (.aload_n 0, 1) := by decide +kernel
theorem dX11_told_11 : decode cX11_told 11 = .ok (.getfield 43, 3) := by decide +kernel
theorem dX11_told_14 : decode cX11_told 14 = .ok (.aload_n 0, 1) := by decide +kernel
theorem dX11_told_15 : decode cX11_told 15 = .ok (.getfield 252, 3) := by decide +kernel
theorem dX11_told_18 : decode cX11_told 18 = .ok (.iload_n 2, 1) := by decide +kernel
theorem dX11_told_19 : decode cX11_told 19 = .ok (.iastore, 1) := by decide +kernel
theorem dX11_told_20 : decode cX11_told 20 = .ok (.aload_n 0, 1) := by decide +kernel
theorem dX11_told_21 : decode cX11_told 21 = .ok (.getfield 46, 3) := by decide +kernel
theorem dX11_told_24 : decode cX11_told 24 = .ok (.aload_n 0, 1) := by decide +kernel
theorem dX11_told_25 : decode cX11_told 25 = .ok (.getfield 252, 3) := by decide +kernel
theorem dX11_told_28 : decode cX11_told 28 = .ok (.iload_n 3, 1) := by decide +kernel
theorem dX11_told_29 : decode cX11_told 29 = .ok (.iastore, 1) := by decide +kernel
theorem dX11_told_30 : decode cX11_told 30 = .ok (.aload_n 0, 1) := by decide +kernel
theorem dX11_told_31 : decode cX11_told 31 = .ok (.getfield 49, 3) := by decide +kernel
theorem dX11_told_34 : decode cX11_told 34 = .ok (.aload_n 0, 1) := by decide +kernel
theorem dX11_told_35 : decode cX11_told 35 = .ok (.getfield 252, 3) := by decide +kernel
theorem dX11_told_38 : decode cX11_told 38 = .ok (.aload_n 0, 1) := by decide +kernel
theorem dX11_told_39 : decode cX11_told 39 = .ok (.getfield 208, 3) := by decide +kernel
theorem dX11_told_42 : decode cX11_told 42 = .ok (.iastore, 1) := by decide +kernel
theorem dX11_told_43 : decode cX11_told 43 = .ok (.aload_n 0, 1) := by decide +kernel
theorem dX11_told_44 : decode cX11_told 44 = .ok (.dup, 1) := by decide +kernel
theorem dX11_told_45 : decode cX11_told 45 = .ok (.getfield 252, 3) := by decide +kernel
theorem dX11_told_48 : decode cX11_told 48 = .ok (.iconst 1, 1) := by decide +kernel
theorem dX11_told_49 : decode cX11_told 49 = .ok (.iadd, 1) := by decide +kernel
theorem dX11_told_50 : decode cX11_told 50 = .ok (.putfield 252, 3) := by decide +kernel
theorem dX11_told_53 : decode cX11_told 53 = .ok (.aload_n 0, 1) := by decide +kernel
theorem dX11_told_54 : decode cX11_told 54 = .ok (.getfield 252, 3) := by decide +kernel
theorem dX11_told_57 : decode cX11_told 57 = .ok (.iconst 1, 1) := by decide +kernel
theorem dX11_told_58 : decode cX11_told 58 = .ok (.isub, 1) := by decide +kernel
theorem dX11_told_59 : decode cX11_told 59 = .ok (.ireturn, 1) := by decide +kernel
theorem dX11_note_0 : decode cX11_note 0 = .ok (.aload_n 0, 1) := by decide +kernel
theorem dX11_note_1 : decode cX11_note 1 = .ok (.iconst 0, 1) := by decide +kernel
theorem dX11_note_2 : decode cX11_note 2 = .ok (.putfield 129, 3) := by decide +kernel
theorem dX11_note_5 : decode cX11_note 5 = .ok (.aload_n 0, 1) := by decide +kernel
theorem dX11_note_6 : decode cX11_note 6 = .ok (.getfield 252, 3) := by decide +kernel
theorem dX11_note_9 : decode cX11_note 9 = .ok (.bipush 60, 2) := by decide +kernel
theorem dX11_note_11 : decode cX11_note 11 = .ok (.if_icmp .eq 23, 3) := by decide +kernel
theorem dX11_note_14 : decode cX11_note 14 = .ok (.aload_n 0, 1) := by decide +kernel
theorem dX11_note_15 : decode cX11_note 15 = .ok (.iload_n 1, 1) := by decide +kernel
theorem dX11_note_16 : decode cX11_note 16 = .ok (.invokevirtual 221, 3) := by decide +kernel
theorem dX11_note_19 : decode cX11_note 19 = .ok (.ifCond .eq 15, 3) := by decide +kernel
theorem dX11_note_22 : decode cX11_note 22 = .ok (.iload_n 2, 1) := by decide +kernel
theorem dX11_note_23 : decode cX11_note 23 = .ok (.iconst 0, 1) := by decide +kernel
theorem dX11_note_24 : decode cX11_note 24 = .ok (.aload_n 0, 1) := by decide +kernel
theorem dX11_note_25 : decode cX11_note 25 = .ok (.getfield 208, 3) := by decide +kernel
theorem dX11_note_28 : decode cX11_note 28 = .ok (.invokestatic 204, 3) := by decide +kernel
theorem dX11_note_31 : decode cX11_note 31 = .ok (.ifCond .ne 7, 3) := by decide +kernel
theorem dX11_note_34 : decode cX11_note 34 = .ok (.iconst (-1), 1) := by decide +kernel
theorem dX11_note_35 : decode cX11_note 35 = .ok (.goto 18, 3) := by decide +kernel
theorem dX11_note_38 : decode cX11_note 38 = .ok (.aload_n 0, 1) := by decide +kernel
theorem dX11_note_39 : decode cX11_note 39 = .ok (.iload_n 3, 1) := by decide +kernel
theorem dX11_note_40 : decode cX11_note 40 = .ok (.ifCond .eq 7, 3) := by decide +kernel
theorem dX11_note_43 : decode cX11_note 43 = .ok (.iconst 1, 1) := by decide +kernel
theorem dX11_note_44 : decode cX11_note 44 = .ok (.goto 4, 3) := by decide +kernel
theorem dX11_note_47 : decode cX11_note 47 = .ok (.iconst 0, 1) := by decide +kernel
theorem dX11_note_48 : decode cX11_note 48 = .ok (.iload_n 1, 1) := by decide +kernel
theorem dX11_note_49 : decode cX11_note 49 = .ok (.iload_n 2, 1) := by decide +kernel
theorem dX11_note_50 : decode cX11_note 50 = .ok (.invokevirtual 255, 3) := by decide +kernel
theorem dX11_note_53 : decode cX11_note 53 = .ok (.ireturn, 1) := by decide +kernel
theorem dX11_strike_0 : decode cX11_strike 0 = .ok (.aload_n 0, 1) := by decide +kernel
theorem dX11_strike_1 : decode cX11_strike 1 = .ok (.iconst 0, 1) := by decide +kernel
theorem dX11_strike_2 : decode cX11_strike 2 = .ok (.putfield 129, 3) := by decide +kernel
theorem dX11_strike_5 : decode cX11_strike 5 = .ok (.aload_n 0, 1) := by decide +kernel
theorem dX11_strike_6 : decode cX11_strike 6 = .ok (.getfield 252, 3) := by decide +kernel
theorem dX11_strike_9 : decode cX11_strike 9 = .ok (.bipush 60, 2) := by decide +kernel
theorem dX11_strike_11 : decode cX11_strike 11 = .ok (.if_icmp .eq 15, 3) := by decide +kernel
theorem dX11_strike_14 : decode cX11_strike 14 = .ok (.iload_n 1, 1) := by decide +kernel
theorem dX11_strike_15 : decode cX11_strike 15 = .ok (.ifCond .lt 11, 3) := by decide +kernel
theorem dX11_strike_18 : decode cX11_strike 18 = .ok (.iload_n 1, 1) := by decide +kernel
theorem dX11_strike_19 : decode cX11_strike 19 = .ok (.aload_n 0, 1) := by decide +kernel
theorem dX11_strike_20 : decode cX11_strike 20 = .ok (.getfield 252, 3) := by decide +kernel
theorem dX11_strike_23 : decode cX11_strike 23 = .ok (.if_icmp .lt 7, 3) := by decide +kernel
theorem dX11_strike_26 : decode cX11_strike 26 = .ok (.iconst (-1), 1) := by decide +kernel
theorem dX11_strike_27 : decode cX11_strike 27 = .ok (.goto 10, 3) := by decide +kernel
theorem dX11_strike_30 : decode cX11_strike 30 = .ok (.aload_n 0, 1) := by decide +kernel
theorem dX11_strike_31 : decode cX11_strike 31 = .ok (.iconst 2, 1) := by decide +kernel
theorem dX11_strike_32 : decode cX11_strike 32 = .ok (.iload_n 1, 1) := by decide +kernel
theorem dX11_strike_33 : decode cX11_strike 33 = .ok (.iconst 0, 1) := by decide +kernel
theorem dX11_strike_34 : decode cX11_strike 34 = .ok (.invokevirtual 255, 3) := by decide +kernel
theorem dX11_strike_37 : decode cX11_strike 37 = .ok (.ireturn, 1) := by decide +kernel
theorem dX11_know_0 : decode cX11_know 0 = .ok (.iconst 0, 1) := by decide +kernel
theorem dX11_know_1 : decode cX11_know 1 = .ok (.istore_n 2, 1) := by decide +kernel
theorem dX11_know_2 : decode cX11_know 2 = .ok (.iload_n 2, 1) := by decide +kernel
theorem dX11_know_3 : decode cX11_know 3 = .ok (.aload_n 0, 1) := by decide +kernel
theorem dX11_know_4 : decode cX11_know 4 = .ok (.getfield 252, 3) := by decide +kernel
theorem dX11_know_7 : decode cX11_know 7 = .ok (.if_icmp .ge 30, 3) := by decide +kernel
theorem dX11_know_10 : decode cX11_know 10 = .ok (.aload_n 0, 1) := by decide +kernel
theorem dX11_know_11 : decode cX11_know 11 = .ok (.getfield 93, 3) := by decide +kernel
theorem dX11_know_14 : decode cX11_know 14 = .ok (.iload_n 2, 1) := by decide +kernel
theorem dX11_know_15 : decode cX11_know 15 = .ok (.aload_n 0, 1) := by decide +kernel
theorem dX11_know_16 : decode cX11_know 16 = .ok (.getfield 49, 3) := by decide +kernel
theorem dX11_know_19 : decode cX11_know 19 = .ok (.iload_n 2, 1) := by decide +kernel
theorem dX11_know_20 : decode cX11_know 20 = .ok (.iaload, 1) := by decide +kernel
end
section
theorem dX11_know_21 : decode cX11_know 21 = .ok (.iload_n 1, 1) := by decide +kernel
theorem dX11_know_22 : decode cX11_know 22 = .ok (.if_icmp .gt 7, 3) := by decide +kernel
theorem dX11_know_25 : decode cX11_know 25 = .ok (.iconst 1, 1) := by decide +kernel
theorem dX11_know_26 : decode cX11_know 26 = .ok (.goto 4, 3) := by decide +kernel
theorem dX11_know_29 : decode cX11_know 29 = .ok (.iconst 0, 1) := by decide +kernel
theorem dX11_know_30 : decode cX11_know 30 = .ok (.bastore, 1) := by decide +kernel
theorem dX11_know_31 : decode cX11_know 31 = .ok (.iinc 2 1, 3) := by decide +kernel
theorem dX11_know_34 : decode cX11_know 34 = .ok (.goto (-32), 3) := by decide +kernel
theorem dX11_know_37 : decode cX11_know 37 = .ok (.aload_n 0, 1) := by decide +kernel
theorem dX11_know_38 : decode cX11_know 38 = .ok (.getfield 252, 3) := by decide +kernel
theorem dX11_know_41 : decode cX11_know 41 = .ok (.iconst 1, 1) := by decide +kernel
theorem dX11_know_42 : decode cX11_know 42 = .ok (.isub, 1) := by decide +kernel
theorem dX11_know_43 : decode cX11_know 43 = .ok (.istore_n 2, 1) := by decide +kernel
theorem dX11_know_44 : decode cX11_know 44 = .ok (.iload_n 2, 1) := by decide +kernel
theorem dX11_know_45 : decode cX11_know 45 = .ok (.ifCond .lt 40, 3) := by decide +kernel
theorem dX11_know_48 : decode cX11_know 48 = .ok (.aload_n 0, 1) := by decide +kernel
theorem dX11_know_49 : decode cX11_know 49 = .ok (.getfield 40, 3) := by decide +kernel
theorem dX11_know_52 : decode cX11_know 52 = .ok (.iload_n 2, 1) := by decide +kernel
theorem dX11_know_53 : decode cX11_know 53 = .ok (.iaload, 1) := by decide +kernel
theorem dX11_know_54 : decode cX11_know 54 = .ok (.iconst 2, 1) := by decide +kernel
theorem dX11_know_55 : decode cX11_know 55 = .ok (.if_icmp .ne 24, 3) := by decide +kernel
theorem dX11_know_58 : decode cX11_know 58 = .ok (.aload_n 0, 1) := by decide +kernel
theorem dX11_know_59 : decode cX11_know 59 = .ok (.getfield 93, 3) := by decide +kernel
theorem dX11_know_62 : decode cX11_know 62 = .ok (.iload_n 2, 1) := by decide +kernel
theorem dX11_know_63 : decode cX11_know 63 = .ok (.baload, 1) := by decide +kernel
theorem dX11_know_64 : decode cX11_know 64 = .ok (.ifCond .eq 15, 3) := by decide +kernel
theorem dX11_know_67 : decode cX11_know 67 = .ok (.aload_n 0, 1) := by decide +kernel
theorem dX11_know_68 : decode cX11_know 68 = .ok (.getfield 93, 3) := by decide +kernel
theorem dX11_know_71 : decode cX11_know 71 = .ok (.aload_n 0, 1) := by decide +kernel
theorem dX11_know_72 : decode cX11_know 72 = .ok (.getfield 43, 3) := by decide +kernel
theorem dX11_know_75 : decode cX11_know 75 = .ok (.iload_n 2, 1) := by decide +kernel
theorem dX11_know_76 : decode cX11_know 76 = .ok (.iaload, 1) := by decide +kernel
theorem dX11_know_77 : decode cX11_know 77 = .ok (.iconst 0, 1) := by decide +kernel
theorem dX11_know_78 : decode cX11_know 78 = .ok (.bastore, 1) := by decide +kernel
theorem dX11_know_79 : decode cX11_know 79 = .ok (.iinc 2 (-1), 3) := by decide +kernel
theorem dX11_know_82 : decode cX11_know 82 = .ok (.goto (-38), 3) := by decide +kernel
theorem dX11_know_85 : decode cX11_know 85 = .ok (.iconst 0, 1) := by decide +kernel
theorem dX11_know_86 : decode cX11_know 86 = .ok (.istore_n 2, 1) := by decide +kernel
theorem dX11_know_87 : decode cX11_know 87 = .ok (.iload_n 2, 1) := by decide +kernel
theorem dX11_know_88 : decode cX11_know 88 = .ok (.bipush 12, 2) := by decide +kernel
theorem dX11_know_90 : decode cX11_know 90 = .ok (.if_icmp .ge 16, 3) := by decide +kernel
theorem dX11_know_93 : decode cX11_know 93 = .ok (.aload_n 0, 1) := by decide +kernel
theorem dX11_know_94 : decode cX11_know 94 = .ok (.getfield 96, 3) := by decide +kernel
theorem dX11_know_97 : decode cX11_know 97 = .ok (.iload_n 2, 1) := by decide +kernel
theorem dX11_know_98 : decode cX11_know 98 = .ok (.iconst (-1), 1) := by decide +kernel
theorem dX11_know_99 : decode cX11_know 99 = .ok (.iastore, 1) := by decide +kernel
theorem dX11_know_100 : decode cX11_know 100 = .ok (.iinc 2 1, 3) := by decide +kernel
theorem dX11_know_103 : decode cX11_know 103 = .ok (.goto (-16), 3) := by decide +kernel
theorem dX11_know_106 : decode cX11_know 106 = .ok (.iconst 0, 1) := by decide +kernel
theorem dX11_know_107 : decode cX11_know 107 = .ok (.istore_n 2, 1) := by decide +kernel
theorem dX11_know_108 : decode cX11_know 108 = .ok (.iload_n 2, 1) := by decide +kernel
theorem dX11_know_109 : decode cX11_know 109 = .ok (.aload_n 0, 1) := by decide +kernel
theorem dX11_know_110 : decode cX11_know 110 = .ok (.getfield 252, 3) := by decide +kernel
theorem dX11_know_113 : decode cX11_know 113 = .ok (.if_icmp .ge 45, 3) := by decide +kernel
theorem dX11_know_116 : decode cX11_know 116 = .ok (.aload_n 0, 1) := by decide +kernel
theorem dX11_know_117 : decode cX11_know 117 = .ok (.getfield 40, 3) := by decide +kernel
theorem dX11_know_120 : decode cX11_know 120 = .ok (.iload_n 2, 1) := by decide +kernel
theorem dX11_know_121 : decode cX11_know 121 = .ok (.iaload, 1) := by decide +kernel
theorem dX11_know_122 : decode cX11_know 122 = .ok (.iconst 1, 1) := by decide +kernel
theorem dX11_know_123 : decode cX11_know 123 = .ok (.if_icmp .ne 29, 3) := by decide +kernel
theorem dX11_know_126 : decode cX11_know 126 = .ok (.aload_n 0, 1) := by decide +kernel
theorem dX11_know_127 : decode cX11_know 127 = .ok (.getfield 93, 3) := by decide +kernel
theorem dX11_know_130 : decode cX11_know 130 = .ok (.iload_n 2, 1) := by decide +kernel
theorem dX11_know_131 : decode cX11_know 131 = .ok (.baload, 1) := by decide +kernel
theorem dX11_know_132 : decode cX11_know 132 = .ok (.ifCond .eq 20, 3) := by decide +kernel
theorem dX11_know_135 : decode cX11_know 135 = .ok (.aload_n 0, 1) := by decide +kernel
theorem dX11_know_136 : decode cX11_know 136 = .ok (.getfield 96, 3) := by decide +kernel
theorem dX11_know_139 : decode cX11_know 139 = .ok (.aload_n 0, 1) := by decide +kernel
theorem dX11_know_140 : decode cX11_know 140 = .ok (.getfield 43, 3) := by decide +kernel
theorem dX11_know_143 : decode cX11_know 143 = .ok (.iload_n 2, 1) := by decide +kernel
theorem dX11_know_144 : decode cX11_know 144 = .ok (.iaload, 1) := by decide +kernel
theorem dX11_know_145 : decode cX11_know 145 = .ok (.aload_n 0, 1) := by decide +kernel
theorem dX11_know_146 : decode cX11_know 146 = .ok (.getfield 46, 3) := by decide +kernel
theorem dX11_know_149 : decode cX11_know 149 = .ok (.iload_n 2, 1) := by decide +kernel
theorem dX11_know_150 : decode cX11_know 150 = .ok (.iaload, 1) := by decide +kernel
theorem dX11_know_151 : decode cX11_know 151 = .ok (.iastore, 1) := by decide +kernel
theorem dX11_know_152 : decode cX11_know 152 = .ok (.iinc 2 1, 3) := by decide +kernel
theorem dX11_know_155 : decode cX11_know 155 = .ok (.goto (-47), 3) := by decide +kernel
theorem dX11_know_158 : decode cX11_know 158 = .ok (.return_, 1) := by decide +kernel
theorem dX11_isFalse_0 : decode cX11_isFalse 0 = .ok (.aload_n 0, 1) := by decide +kernel
theorem dX11_isFalse_1 : decode cX11_isFalse 1 = .ok (.getfield 43, 3) := by decide +kernel
theorem dX11_isFalse_4 : decode cX11_isFalse 4 = .ok (.iload_n 1, 1) := by decide +kernel
theorem dX11_isFalse_5 : decode cX11_isFalse 5 = .ok (.iaload, 1) := by decide +kernel
theorem dX11_isFalse_6 : decode cX11_isFalse 6 = .ok (.istore_n 2, 1) := by decide +kernel
theorem dX11_isFalse_7 : decode cX11_isFalse 7 = .ok (.aload_n 0, 1) := by decide +kernel
theorem dX11_isFalse_8 : decode cX11_isFalse 8 = .ok (.getfield 46, 3) := by decide +kernel
theorem dX11_isFalse_11 : decode cX11_isFalse 11 = .ok (.iload_n 1, 1) := by decide +kernel
theorem dX11_isFalse_12 : decode cX11_isFalse 12 = .ok (.iaload, 1) := by decide +kernel
theorem dX11_isFalse_13 : decode cX11_isFalse 13 = .ok (.aload_n 0, 1) := by decide +kernel
theorem dX11_isFalse_14 : decode cX11_isFalse 14 = .ok (.getfield 13, 3) := by decide +kernel
theorem dX11_isFalse_17 : decode cX11_isFalse 17 = .ok (.iload_n 2, 1) := by decide +kernel
theorem dX11_isFalse_18 : decode cX11_isFalse 18 = .ok (.iaload, 1) := by decide +kernel
theorem dX11_isFalse_19 : decode cX11_isFalse 19 = .ok (.if_icmp .lt 28, 3) := by decide +kernel
theorem dX11_isFalse_22 : decode cX11_isFalse 22 = .ok (.aload_n 0, 1) := by decide +kernel
theorem dX11_isFalse_23 : decode cX11_isFalse 23 = .ok (.getfield 96, 3) := by decide +kernel
theorem dX11_isFalse_26 : decode cX11_isFalse 26 = .ok (.iload_n 2, 1) := by decide +kernel
theorem dX11_isFalse_27 : decode cX11_isFalse 27 = .ok (.iaload, 1) := by decide +kernel
theorem dX11_isFalse_28 : decode cX11_isFalse 28 = .ok (.iconst (-1), 1) := by decide +kernel
theorem dX11_isFalse_29 : decode cX11_isFalse 29 = .ok (.if_icmp .eq 22, 3) := by decide +kernel
theorem dX11_isFalse_32 : decode cX11_isFalse 32 = .ok (.aload_n 0, 1) := by decide +kernel
theorem dX11_isFalse_33 : decode cX11_isFalse 33 = .ok (.getfield 46, 3) := by decide +kernel
theorem dX11_isFalse_36 : decode cX11_isFalse 36 = .ok (.iload_n 1, 1) := by decide +kernel
theorem dX11_isFalse_37 : decode cX11_isFalse 37 = .ok (.iaload, 1) := by decide +kernel
theorem dX11_isFalse_38 : decode cX11_isFalse 38 = .ok (.aload_n 0, 1) := by decide +kernel
theorem dX11_isFalse_39 : decode cX11_isFalse 39 = .ok (.getfield 96, 3) := by decide +kernel
theorem dX11_isFalse_42 : decode cX11_isFalse 42 = .ok (.iload_n 2, 1) := by decide +kernel
theorem dX11_isFalse_43 : decode cX11_isFalse 43 = .ok (.iaload, 1) := by decide +kernel
theorem dX11_isFalse_44 : decode cX11_isFalse 44 = .ok (.if_icmp .le 7, 3) := by decide +kernel
theorem dX11_isFalse_47 : decode cX11_isFalse 47 = .ok (.iconst 1, 1) := by decide +kernel
theorem dX11_isFalse_48 : decode cX11_isFalse 48 = .ok (.goto 4, 3) := by decide +kernel
theorem dX11_isFalse_51 : decode cX11_isFalse 51 = .ok (.iconst 0, 1) := by decide +kernel
theorem dX11_isFalse_52 : decode cX11_isFalse 52 = .ok (.ireturn, 1) := by decide +kernel
theorem dX11_dead_0 : decode cX11_dead 0 = .ok (.aload_n 0, 1) := by decide +kernel
theorem dX11_dead_1 : decode cX11_dead 1 = .ok (.iconst 0, 1) := by decide +kernel
theorem dX11_dead_2 : decode cX11_dead 2 = .ok (.putfield 129, 3) := by decide +kernel
theorem dX11_dead_5 : decode cX11_dead 5 = .ok (.aload_n 0, 1) := by decide +kernel
theorem dX11_dead_6 : decode cX11_dead 6 = .ok (.iload_n 1, 1) := by decide +kernel
theorem dX11_dead_7 : decode cX11_dead 7 = .ok (.invokevirtual 221, 3) := by decide +kernel
theorem dX11_dead_10 : decode cX11_dead 10 = .ok (.ifCond .eq 10, 3) := by decide +kernel
theorem dX11_dead_13 : decode cX11_dead 13 = .ok (.iload_n 2, 1) := by decide +kernel
theorem dX11_dead_14 : decode cX11_dead 14 = .ok (.invokestatic 249, 3) := by decide +kernel
theorem dX11_dead_17 : decode cX11_dead 17 = .ok (.ifCond .ne 6, 3) := by decide +kernel
theorem dX11_dead_20 : decode cX11_dead 20 = .ok (.bipush (-2), 2) := by decide +kernel
theorem dX11_dead_22 : decode cX11_dead 22 = .ok (.ireturn, 1) := by decide +kernel
theorem dX11_dead_23 : decode cX11_dead 23 = .ok (.aload_n 0, 1) := by decide +kernel
theorem dX11_dead_24 : decode cX11_dead 24 = .ok (.iload_n 2, 1) := by decide +kernel
theorem dX11_dead_25 : decode cX11_dead 25 = .ok (.invokevirtual 257, 3) := by decide +kernel
theorem dX11_dead_28 : decode cX11_dead 28 = .ok (.aload_n 0, 1) := by decide +kernel
theorem dX11_dead_29 : decode cX11_dead 29 = .ok (.getfield 96, 3) := by decide +kernel
theorem dX11_dead_32 : decode cX11_dead 32 = .ok (.iload_n 1, 1) := by decide +kernel
theorem dX11_dead_33 : decode cX11_dead 33 = .ok (.iaload, 1) := by decide +kernel
theorem dX11_dead_34 : decode cX11_dead 34 = .ok (.ireturn, 1) := by decide +kernel
theorem dX11_holds_0 : decode cX11_holds 0 = .ok (.aload_n 0, 1) := by decide +kernel
theorem dX11_holds_1 : decode cX11_holds 1 = .ok (.iconst 0, 1) := by decide +kernel
theorem dX11_holds_2 : decode cX11_holds 2 = .ok (.putfield 129, 3) := by decide +kernel
theorem dX11_holds_5 : decode cX11_holds 5 = .ok (.iload_n 1, 1) := by decide +kernel
theorem dX11_holds_6 : decode cX11_holds 6 = .ok (.ifCond .lt 18, 3) := by decide +kernel
theorem dX11_holds_9 : decode cX11_holds 9 = .ok (.iload_n 1, 1) := by decide +kernel
theorem dX11_holds_10 : decode cX11_holds 10 = .ok (.aload_n 0, 1) := by decide +kernel
theorem dX11_holds_11 : decode cX11_holds 11 = .ok (.getfield 252, 3) := by decide +kernel
theorem dX11_holds_14 : decode cX11_holds 14 = .ok (.if_icmp .ge 10, 3) := by decide +kernel
theorem dX11_holds_17 : decode cX11_holds 17 = .ok (.iload_n 2, 1) := by decide +kernel
theorem dX11_holds_18 : decode cX11_holds 18 = .ok (.invokestatic 249, 3) := by decide +kernel
theorem dX11_holds_21 : decode cX11_holds 21 = .ok (.ifCond .ne 5, 3) := by decide +kernel
theorem dX11_holds_24 : decode cX11_holds 24 = .ok (.iconst (-1), 1) := by decide +kernel
theorem dX11_holds_25 : decode cX11_holds 25 = .ok (.ireturn, 1) := by decide +kernel
theorem dX11_holds_26 : decode cX11_holds 26 = .ok (.aload_n 0, 1) := by decide +kernel
theorem dX11_holds_27 : decode cX11_holds 27 = .ok (.iload_n 2, 1) := by decide +kernel
theorem dX11_holds_28 : decode cX11_holds 28 = .ok (.invokevirtual 257, 3) := by decide +kernel
theorem dX11_holds_31 : decode cX11_holds 31 = .ok (.aload_n 0, 1) := by decide +kernel
theorem dX11_holds_32 : decode cX11_holds 32 = .ok (.getfield 93, 3) := by decide +kernel
theorem dX11_holds_35 : decode cX11_holds 35 = .ok (.iload_n 1, 1) := by decide +kernel
theorem dX11_holds_36 : decode cX11_holds 36 = .ok (.baload, 1) := by decide +kernel
theorem dX11_holds_37 : decode cX11_holds 37 = .ok (.ifCond .ne 7, 3) := by decide +kernel
theorem dX11_holds_40 : decode cX11_holds 40 = .ok (.iconst 0, 1) := by decide +kernel
theorem dX11_holds_41 : decode cX11_holds 41 = .ok (.goto 25, 3) := by decide +kernel
theorem dX11_holds_44 : decode cX11_holds 44 = .ok (.aload_n 0, 1) := by decide +kernel
theorem dX11_holds_45 : decode cX11_holds 45 = .ok (.getfield 40, 3) := by decide +kernel
theorem dX11_holds_48 : decode cX11_holds 48 = .ok (.iload_n 1, 1) := by decide +kernel
theorem dX11_holds_49 : decode cX11_holds 49 = .ok (.iaload, 1) := by decide +kernel
theorem dX11_holds_50 : decode cX11_holds 50 = .ok (.ifCond .ne 15, 3) := by decide +kernel
theorem dX11_holds_53 : decode cX11_holds 53 = .ok (.aload_n 0, 1) := by decide +kernel
theorem dX11_holds_54 : decode cX11_holds 54 = .ok (.iload_n 1, 1) := by decide +kernel
theorem dX11_holds_55 : decode cX11_holds 55 = .ok (.invokevirtual 261, 3) := by decide +kernel
theorem dX11_holds_58 : decode cX11_holds 58 = .ok (.ifCond .eq 7, 3) := by decide +kernel
theorem dX11_holds_61 : decode cX11_holds 61 = .ok (.iconst 2, 1) := by decide +kernel
theorem dX11_holds_62 : decode cX11_holds 62 = .ok (.goto 4, 3) := by decide +kernel
theorem dX11_holds_65 : decode cX11_holds 65 = .ok (.iconst 1, 1) := by decide +kernel
theorem dX11_holds_66 : decode cX11_holds 66 = .ok (.ireturn, 1) := by decide +kernel
theorem dX11_lives_0 : decode cX11_lives 0 = .ok (.iload_n 1, 1) := by decide +kernel
theorem dX11_lives_1 : decode cX11_lives 1 = .ok (.iconst (-1), 1) := by decide +kernel
theorem dX11_lives_2 : decode cX11_lives 2 = .ok (.if_icmp .eq 27, 3) := by decide +kernel
theorem dX11_lives_5 : decode cX11_lives 5 = .ok (.aload_n 0, 1) := by decide +kernel
theorem dX11_lives_6 : decode cX11_lives 6 = .ok (.getfield 96, 3) := by decide +kernel
theorem dX11_lives_9 : decode cX11_lives 9 = .ok (.iload_n 1, 1) := by decide +kernel
theorem dX11_lives_10 : decode cX11_lives 10 = .ok (.iaload, 1) := by decide +kernel
theorem dX11_lives_11 : decode cX11_lives 11 = .ok (.iconst (-1), 1) := by decide +kernel
theorem dX11_lives_12 : decode cX11_lives 12 = .ok (.if_icmp .eq 13, 3) := by decide +kernel
theorem dX11_lives_15 : decode cX11_lives 15 = .ok (.aload_n 0, 1) := by decide +kernel
theorem dX11_lives_16 : decode cX11_lives 16 = .ok (.getfield 96, 3) := by decide +kernel
theorem dX11_lives_19 : decode cX11_lives 19 = .ok (.iload_n 1, 1) := by decide +kernel
theorem dX11_lives_20 : decode cX11_lives 20 = .ok (.iaload, 1) := by decide +kernel
theorem dX11_lives_21 : decode cX11_lives 21 = .ok (.iload_n 2, 1) := by decide +kernel
theorem dX11_lives_22 : decode cX11_lives 22 = .ok (.if_icmp .lt 7, 3) := by decide +kernel
theorem dX11_lives_25 : decode cX11_lives 25 = .ok (.iconst 1, 1) := by decide +kernel
theorem dX11_lives_26 : decode cX11_lives 26 = .ok (.goto 4, 3) := by decide +kernel
theorem dX11_lives_29 : decode cX11_lives 29 = .ok (.iconst 0, 1) := by decide +kernel
theorem dX11_lives_30 : decode cX11_lives 30 = .ok (.ireturn, 1) := by decide +kernel
theorem dX11_isDue_0 : decode cX11_isDue 0 = .ok (.iload_n 2, 1) := by decide +kernel
theorem dX11_isDue_1 : decode cX11_isDue 1 = .ok (.aload_n 0, 1) := by decide +kernel
theorem dX11_isDue_2 : decode cX11_isDue 2 = .ok (.getfield 19, 3) := by decide +kernel
theorem dX11_isDue_5 : decode cX11_isDue 5 = .ok (.iload_n 1, 1) := by decide +kernel
theorem dX11_isDue_6 : decode cX11_isDue 6 = .ok (.iaload, 1) := by decide +kernel
theorem dX11_isDue_7 : decode cX11_isDue 7 = .ok (.if_icmp .le 35, 3) := by decide +kernel
theorem dX11_isDue_10 : decode cX11_isDue 10 = .ok (.aload_n 0, 1) := by decide +kernel
theorem dX11_isDue_11 : decode cX11_isDue 11 = .ok (.aload_n 0, 1) := by decide +kernel
theorem dX11_isDue_12 : decode cX11_isDue 12 = .ok (.getfield 25, 3) := by decide +kernel
theorem dX11_isDue_15 : decode cX11_isDue 15 = .ok (.iload_n 1, 1) := by decide +kernel
theorem dX11_isDue_16 : decode cX11_isDue 16 = .ok (.iaload, 1) := by decide +kernel
theorem dX11_isDue_17 : decode cX11_isDue 17 = .ok (.iload_n 2, 1) := by decide +kernel
theorem dX11_isDue_18 : decode cX11_isDue 18 = .ok (.invokevirtual 264, 3) := by decide +kernel
theorem dX11_isDue_21 : decode cX11_isDue 21 = .ok (.ifCond .ne 17, 3) := by decide +kernel
theorem dX11_isDue_24 : decode cX11_isDue 24 = .ok (.aload_n 0, 1) := by decide +kernel
theorem dX11_isDue_25 : decode cX11_isDue 25 = .ok (.aload_n 0, 1) := by decide +kernel
theorem dX11_isDue_26 : decode cX11_isDue 26 = .ok (.getfield 28, 3) := by decide +kernel
theorem dX11_isDue_29 : decode cX11_isDue 29 = .ok (.iload_n 1, 1) := by decide +kernel
theorem dX11_isDue_30 : decode cX11_isDue 30 = .ok (.iaload, 1) := by decide +kernel
theorem dX11_isDue_31 : decode cX11_isDue 31 = .ok (.iload_n 2, 1) := by decide +kernel
theorem dX11_isDue_32 : decode cX11_isDue 32 = .ok (.invokevirtual 264, 3) := by decide +kernel
theorem dX11_isDue_35 : decode cX11_isDue 35 = .ok (.ifCond .eq 7, 3) := by decide +kernel
theorem dX11_isDue_38 : decode cX11_isDue 38 = .ok (.iconst 1, 1) := by decide +kernel
theorem dX11_isDue_39 : decode cX11_isDue 39 = .ok (.goto 4, 3) := by decide +kernel
theorem dX11_isDue_42 : decode cX11_isDue 42 = .ok (.iconst 0, 1) := by decide +kernel
theorem dX11_isDue_43 : decode cX11_isDue 43 = .ok (.ireturn, 1) := by decide +kernel
theorem dX11_isProved_0 : decode cX11_isProved 0 = .ok (.iconst 0, 1) := by decide +kernel
theorem dX11_isProved_1 : decode cX11_isProved 1 = .ok (.istore_n 3, 1) := by decide +kernel
theorem dX11_isProved_2 : decode cX11_isProved 2 = .ok (.iload_n 3, 1) := by decide +kernel
theorem dX11_isProved_3 : decode cX11_isProved 3 = .ok (.aload_n 0, 1) := by decide +kernel
theorem dX11_isProved_4 : decode cX11_isProved 4 = .ok (.getfield 252, 3) := by decide +kernel
theorem dX11_isProved_7 : decode cX11_isProved 7 = .ok (.if_icmp .ge 100, 3) := by decide +kernel
theorem dX11_isProved_10 : decode cX11_isProved 10 = .ok (.aload_n 0, 1) := by decide +kernel
theorem dX11_isProved_11 : decode cX11_isProved 11 = .ok (.getfield 40, 3) := by decide +kernel
theorem dX11_isProved_14 : decode cX11_isProved 14 = .ok (.iload_n 3, 1) := by decide +kernel
theorem dX11_isProved_15 : decode cX11_isProved 15 = .ok (.iaload, 1) := by decide +kernel
theorem dX11_isProved_16 : decode cX11_isProved 16 = .ok (.ifCond .ne 46, 3) := by decide +kernel
theorem dX11_isProved_19 : decode cX11_isProved 19 = .ok (.aload_n 0, 1) := by decide +kernel
theorem dX11_isProved_20 : decode cX11_isProved 20 = .ok (.getfield 93, 3) := by decide +kernel
theorem dX11_isProved_23 : decode cX11_isProved 23 = .ok (.iload_n 3, 1) := by decide +kernel
theorem dX11_isProved_24 : decode cX11_isProved 24 = .ok (.baload, 1) := by decide +kernel
theorem dX11_isProved_25 : decode cX11_isProved 25 = .ok (.ifCond .eq 37, 3) := by decide +kernel
theorem dX11_isProved_28 : decode cX11_isProved 28 = .ok (.aload_n 0, 1) := by decide +kernel
theorem dX11_isProved_29 : decode cX11_isProved 29 = .ok (.getfield 43, 3) := by decide +kernel
theorem dX11_isProved_32 : decode cX11_isProved 32 = .ok (.iload_n 3, 1) := by decide +kernel
theorem dX11_isProved_33 : decode cX11_isProved 33 = .ok (.iaload, 1) := by decide +kernel
theorem dX11_isProved_34 : decode cX11_isProved 34 = .ok (.aload_n 0, 1) := by decide +kernel
theorem dX11_isProved_35 : decode cX11_isProved 35 = .ok (.getfield 25, 3) := by decide +kernel
theorem dX11_isProved_38 : decode cX11_isProved 38 = .ok (.iload_n 1, 1) := by decide +kernel
theorem dX11_isProved_39 : decode cX11_isProved 39 = .ok (.iaload, 1) := by decide +kernel
theorem dX11_isProved_40 : decode cX11_isProved 40 = .ok (.if_icmp .eq 18, 3) := by decide +kernel
theorem dX11_isProved_43 : decode cX11_isProved 43 = .ok (.aload_n 0, 1) := by decide +kernel
theorem dX11_isProved_44 : decode cX11_isProved 44 = .ok (.getfield 43, 3) := by decide +kernel
theorem dX11_isProved_47 : decode cX11_isProved 47 = .ok (.iload_n 3, 1) := by decide +kernel
theorem dX11_isProved_48 : decode cX11_isProved 48 = .ok (.iaload, 1) := by decide +kernel
theorem dX11_isProved_49 : decode cX11_isProved 49 = .ok (.aload_n 0, 1) := by decide +kernel
theorem dX11_isProved_50 : decode cX11_isProved 50 = .ok (.getfield 28, 3) := by decide +kernel
theorem dX11_isProved_53 : decode cX11_isProved 53 = .ok (.iload_n 1, 1) := by decide +kernel
theorem dX11_isProved_54 : decode cX11_isProved 54 = .ok (.iaload, 1) := by decide +kernel
theorem dX11_isProved_55 : decode cX11_isProved 55 = .ok (.if_icmp .ne 7, 3) := by decide +kernel
theorem dX11_isProved_58 : decode cX11_isProved 58 = .ok (.iconst 1, 1) := by decide +kernel
theorem dX11_isProved_59 : decode cX11_isProved 59 = .ok (.goto 4, 3) := by decide +kernel
theorem dX11_isProved_62 : decode cX11_isProved 62 = .ok (.iconst 0, 1) := by decide +kernel
theorem dX11_isProved_63 : decode cX11_isProved 63 = .ok (.istore 4, 2) := by decide +kernel
theorem dX11_isProved_65 : decode cX11_isProved 65 = .ok (.iload 4, 2) := by decide +kernel
theorem dX11_isProved_67 : decode cX11_isProved 67 = .ok (.ifCond .eq 34, 3) := by decide +kernel
theorem dX11_isProved_70 : decode cX11_isProved 70 = .ok (.aload_n 0, 1) := by decide +kernel
theorem dX11_isProved_71 : decode cX11_isProved 71 = .ok (.getfield 46, 3) := by decide +kernel
theorem dX11_isProved_74 : decode cX11_isProved 74 = .ok (.iload_n 3, 1) := by decide +kernel
theorem dX11_isProved_75 : decode cX11_isProved 75 = .ok (.iaload, 1) := by decide +kernel
theorem dX11_isProved_76 : decode cX11_isProved 76 = .ok (.iload_n 2, 1) := by decide +kernel
theorem dX11_isProved_77 : decode cX11_isProved 77 = .ok (.iload_n 2, 1) := by decide +kernel
theorem dX11_isProved_78 : decode cX11_isProved 78 = .ok (.aload_n 0, 1) := by decide +kernel
theorem dX11_isProved_79 : decode cX11_isProved 79 = .ok (.getfield 86, 3) := by decide +kernel
theorem dX11_isProved_82 : decode cX11_isProved 82 = .ok (.iconst 1, 1) := by decide +kernel
theorem dX11_isProved_83 : decode cX11_isProved 83 = .ok (.iaload, 1) := by decide +kernel
theorem dX11_isProved_84 : decode cX11_isProved 84 = .ok (.iadd, 1) := by decide +kernel
theorem dX11_isProved_85 : decode cX11_isProved 85 = .ok (.invokestatic 204, 3) := by decide +kernel
theorem dX11_isProved_88 : decode cX11_isProved 88 = .ok (.ifCond .eq 13, 3) := by decide +kernel
theorem dX11_isProved_91 : decode cX11_isProved 91 = .ok (.aload_n 0, 1) := by decide +kernel
theorem dX11_isProved_92 : decode cX11_isProved 92 = .ok (.iload_n 3, 1) := by decide +kernel
theorem dX11_isProved_93 : decode cX11_isProved 93 = .ok (.invokevirtual 261, 3) := by decide +kernel
theorem dX11_isProved_96 : decode cX11_isProved 96 = .ok (.ifCond .ne 5, 3) := by decide +kernel
theorem dX11_isProved_99 : decode cX11_isProved 99 = .ok (.iconst 1, 1) := by decide +kernel
theorem dX11_isProved_100 : decode cX11_isProved 100 = .ok (.ireturn, 1) := by decide +kernel
theorem dX11_isProved_101 : decode cX11_isProved 101 = .ok (.iinc 3 1, 3) := by decide +kernel
theorem dX11_isProved_104 : decode cX11_isProved 104 = .ok (.goto (-102), 3) := by decide +kernel
theorem dX11_isProved_107 : decode cX11_isProved 107 = .ok (.iconst 0, 1) := by decide +kernel
theorem dX11_isProved_108 : decode cX11_isProved 108 = .ok (.ireturn, 1) := by decide +kernel
theorem dX11_pays_0 : decode cX11_pays 0 = .ok (.iconst 0, 1) := by decide +kernel
theorem dX11_pays_1 : decode cX11_pays 1 = .ok (.istore_n 2, 1) := by decide +kernel
theorem dX11_pays_2 : decode cX11_pays 2 = .ok (.iload_n 2, 1) := by decide +kernel
theorem dX11_pays_3 : decode cX11_pays 3 = .ok (.sipush 1280, 3) := by decide +kernel
theorem dX11_pays_6 : decode cX11_pays 6 = .ok (.if_icmp .ge 16, 3) := by decide +kernel
theorem dX11_pays_9 : decode cX11_pays 9 = .ok (.aload_n 0, 1) := by decide +kernel
theorem dX11_pays_10 : decode cX11_pays 10 = .ok (.getfield 99, 3) := by decide +kernel
theorem dX11_pays_13 : decode cX11_pays 13 = .ok (.iload_n 2, 1) := by decide +kernel
theorem dX11_pays_14 : decode cX11_pays 14 = .ok (.iconst (-1), 1) := by decide +kernel
theorem dX11_pays_15 : decode cX11_pays 15 = .ok (.iastore, 1) := by decide +kernel
theorem dX11_pays_16 : decode cX11_pays 16 = .ok (.iinc 2 1, 3) := by decide +kernel
theorem dX11_pays_19 : decode cX11_pays 19 = .ok (.goto (-17), 3) := by decide +kernel
theorem dX11_pays_22 : decode cX11_pays 22 = .ok (.iconst 0, 1) := by decide +kernel
theorem dX11_pays_23 : decode cX11_pays 23 = .ok (.istore_n 2, 1) := by decide +kernel
theorem dX11_pays_24 : decode cX11_pays 24 = .ok (.iload_n 2, 1) := by decide +kernel
theorem dX11_pays_25 : decode cX11_pays 25 = .ok (.bipush 8, 2) := by decide +kernel
theorem dX11_pays_27 : decode cX11_pays 27 = .ok (.if_icmp .ge 16, 3) := by decide +kernel
theorem dX11_pays_30 : decode cX11_pays 30 = .ok (.aload_n 0, 1) := by decide +kernel
theorem dX11_pays_31 : decode cX11_pays 31 = .ok (.getfield 102, 3) := by decide +kernel
theorem dX11_pays_34 : decode cX11_pays 34 = .ok (.iload_n 2, 1) := by decide +kernel
theorem dX11_pays_35 : decode cX11_pays 35 = .ok (.iconst 0, 1) := by decide +kernel
theorem dX11_pays_36 : decode cX11_pays 36 = .ok (.iastore, 1) := by decide +kernel
theorem dX11_pays_37 : decode cX11_pays 37 = .ok (.iinc 2 1, 3) := by decide +kernel
theorem dX11_pays_40 : decode cX11_pays 40 = .ok (.goto (-16), 3) := by decide +kernel
theorem dX11_pays_43 : decode cX11_pays 43 = .ok (.aload_n 0, 1) := by decide +kernel
theorem dX11_pays_44 : decode cX11_pays 44 = .ok (.iconst 0, 1) := by decide +kernel
theorem dX11_pays_45 : decode cX11_pays 45 = .ok (.putfield 266, 3) := by decide +kernel
theorem dX11_pays_48 : decode cX11_pays 48 = .ok (.iconst 0, 1) := by decide +kernel
theorem dX11_pays_49 : decode cX11_pays 49 = .ok (.istore_n 2, 1) := by decide +kernel
theorem dX11_pays_50 : decode cX11_pays 50 = .ok (.iload_n 2, 1) := by decide +kernel
theorem dX11_pays_51 : decode cX11_pays 51 = .ok (.iload_n 1, 1) := by decide +kernel
theorem dX11_pays_52 : decode cX11_pays 52 = .ok (.if_icmp .gt 125, 3) := by decide +kernel
theorem dX11_pays_55 : decode cX11_pays 55 = .ok (.aload_n 0, 1) := by decide +kernel
theorem dX11_pays_56 : decode cX11_pays 56 = .ok (.iload_n 2, 1) := by decide +kernel
theorem dX11_pays_57 : decode cX11_pays 57 = .ok (.invokevirtual 257, 3) := by decide +kernel
theorem dX11_pays_60 : decode cX11_pays 60 = .ok (.iconst 0, 1) := by decide +kernel
theorem dX11_pays_61 : decode cX11_pays 61 = .ok (.istore_n 3, 1) := by decide +kernel
theorem dX11_pays_62 : decode cX11_pays 62 = .ok (.iload_n 3, 1) := by decide +kernel
theorem dX11_pays_63 : decode cX11_pays 63 = .ok (.aload_n 0, 1) := by decide +kernel
theorem dX11_pays_64 : decode cX11_pays 64 = .ok (.getfield 233, 3) := by decide +kernel
theorem dX11_pays_67 : decode cX11_pays 67 = .ok (.if_icmp .ge 104, 3) := by decide +kernel
theorem dX11_pays_70 : decode cX11_pays 70 = .ok (.iload_n 2, 1) := by decide +kernel
theorem dX11_pays_71 : decode cX11_pays 71 = .ok (.aload_n 0, 1) := by decide +kernel
theorem dX11_pays_72 : decode cX11_pays 72 = .ok (.getfield 86, 3) := by decide +kernel
theorem dX11_pays_75 : decode cX11_pays 75 = .ok (.iconst 0, 1) := by decide +kernel
theorem dX11_pays_76 : decode cX11_pays 76 = .ok (.iaload, 1) := by decide +kernel
theorem dX11_pays_77 : decode cX11_pays 77 = .ok (.isub, 1) := by decide +kernel
theorem dX11_pays_78 : decode cX11_pays 78 = .ok (.ifCond .ge 7, 3) := by decide +kernel
theorem dX11_pays_81 : decode cX11_pays 81 = .ok (.iconst 0, 1) := by decide +kernel
theorem dX11_pays_82 : decode cX11_pays 82 = .ok (.goto 11, 3) := by decide +kernel
theorem dX11_pays_85 : decode cX11_pays 85 = .ok (.iload_n 2, 1) := by decide +kernel
theorem dX11_pays_86 : decode cX11_pays 86 = .ok (.aload_n 0, 1) := by decide +kernel
theorem dX11_pays_87 : decode cX11_pays 87 = .ok (.getfield 86, 3) := by decide +kernel
theorem dX11_pays_90 : decode cX11_pays 90 = .ok (.iconst 0, 1) := by decide +kernel
theorem dX11_pays_91 : decode cX11_pays 91 = .ok (.iaload, 1) := by decide +kernel
theorem dX11_pays_92 : decode cX11_pays 92 = .ok (.isub, 1) := by decide +kernel
theorem dX11_pays_93 : decode cX11_pays 93 = .ok (.istore 4, 2) := by decide +kernel
theorem dX11_pays_95 : decode cX11_pays 95 = .ok (.iload 4, 2) := by decide +kernel
theorem dX11_pays_97 : decode cX11_pays 97 = .ok (.iload_n 2, 1) := by decide +kernel
theorem dX11_pays_98 : decode cX11_pays 98 = .ok (.if_icmp .gt 67, 3) := by decide +kernel
theorem dX11_pays_101 : decode cX11_pays 101 = .ok (.aload_n 0, 1) := by decide +kernel
theorem dX11_pays_102 : decode cX11_pays 102 = .ok (.getfield 99, 3) := by decide +kernel
theorem dX11_pays_105 : decode cX11_pays 105 = .ok (.bipush 80, 2) := by decide +kernel
theorem dX11_pays_107 : decode cX11_pays 107 = .ok (.iload_n 3, 1) := by decide +kernel
theorem dX11_pays_108 : decode cX11_pays 108 = .ok (.imul, 1) := by decide +kernel
theorem dX11_pays_109 : decode cX11_pays 109 = .ok (.iload 4, 2) := by decide +kernel
theorem dX11_pays_111 : decode cX11_pays 111 = .ok (.iadd, 1) := by decide +kernel
theorem dX11_pays_112 : decode cX11_pays 112 = .ok (.iaload, 1) := by decide +kernel
theorem dX11_pays_113 : decode cX11_pays 113 = .ok (.iconst (-1), 1) := by decide +kernel
theorem dX11_pays_114 : decode cX11_pays 114 = .ok (.if_icmp .ne 45, 3) := by decide +kernel
theorem dX11_pays_117 : decode cX11_pays 117 = .ok (.aload_n 0, 1) := by decide +kernel
theorem dX11_pays_118 : decode cX11_pays 118 = .ok (.iload_n 3, 1) := by decide +kernel
theorem dX11_pays_119 : decode cX11_pays 119 = .ok (.iload 4, 2) := by decide +kernel
theorem dX11_pays_121 : decode cX11_pays 121 = .ok (.invokevirtual 269, 3) := by decide +kernel
theorem dX11_pays_124 : decode cX11_pays 124 = .ok (.ifCond .eq 35, 3) := by decide +kernel
theorem dX11_pays_127 : decode cX11_pays 127 = .ok (.aload_n 0, 1) := by decide +kernel
theorem dX11_pays_128 : decode cX11_pays 128 = .ok (.iload_n 3, 1) := by decide +kernel
theorem dX11_pays_129 : decode cX11_pays 129 = .ok (.iload 4, 2) := by decide +kernel
theorem dX11_pays_131 : decode cX11_pays 131 = .ok (.invokevirtual 272, 3) := by decide +kernel
theorem dX11_pays_134 : decode cX11_pays 134 = .ok (.ifCond .ne 6, 3) := by decide +kernel
theorem dX11_pays_137 : decode cX11_pays 137 = .ok (.goto 22, 3) := by decide +kernel
theorem dX11_pays_140 : decode cX11_pays 140 = .ok (.aload_n 0, 1) := by decide +kernel
theorem dX11_pays_141 : decode cX11_pays 141 = .ok (.getfield 99, 3) := by decide +kernel
theorem dX11_pays_144 : decode cX11_pays 144 = .ok (.bipush 80, 2) := by decide +kernel
theorem dX11_pays_146 : decode cX11_pays 146 = .ok (.iload_n 3, 1) := by decide +kernel
theorem dX11_pays_147 : decode cX11_pays 147 = .ok (.imul, 1) := by decide +kernel
theorem dX11_pays_148 : decode cX11_pays 148 = .ok (.iload 4, 2) := by decide +kernel
theorem dX11_pays_150 : decode cX11_pays 150 = .ok (.iadd, 1) := by decide +kernel
theorem dX11_pays_151 : decode cX11_pays 151 = .ok (.iload_n 2, 1) := by decide +kernel
theorem dX11_pays_152 : decode cX11_pays 152 = .ok (.iastore, 1) := by decide +kernel
theorem dX11_pays_153 : decode cX11_pays 153 = .ok (.aload_n 0, 1) := by decide +kernel
theorem dX11_pays_154 : decode cX11_pays 154 = .ok (.iload_n 3, 1) := by decide +kernel
theorem dX11_pays_155 : decode cX11_pays 155 = .ok (.iload_n 2, 1) := by decide +kernel
theorem dX11_pays_156 : decode cX11_pays 156 = .ok (.invokevirtual 275, 3) := by decide +kernel
theorem dX11_pays_159 : decode cX11_pays 159 = .ok (.iinc 4 1, 3) := by decide +kernel
theorem dX11_pays_162 : decode cX11_pays 162 = .ok (.goto (-67), 3) := by decide +kernel
theorem dX11_pays_165 : decode cX11_pays 165 = .ok (.iinc 3 1, 3) := by decide +kernel
theorem dX11_pays_168 : decode cX11_pays 168 = .ok (.goto (-106), 3) := by decide +kernel
theorem dX11_pays_171 : decode cX11_pays 171 = .ok (.iinc 2 1, 3) := by decide +kernel
theorem dX11_pays_174 : decode cX11_pays 174 = .ok (.goto (-124), 3) := by decide +kernel
theorem dX11_pays_177 : decode cX11_pays 177 = .ok (.return_, 1) := by decide +kernel
theorem dX11_shares_0 : decode cX11_shares 0 = .ok (.aload_n 0, 1) := by decide +kernel
theorem dX11_shares_1 : decode cX11_shares 1 = .ok (.getfield 31, 3) := by decide +kernel
theorem dX11_shares_4 : decode cX11_shares 4 = .ok (.iload_n 1, 1) := by decide +kernel
theorem dX11_shares_5 : decode cX11_shares 5 = .ok (.iaload, 1) := by decide +kernel
theorem dX11_shares_6 : decode cX11_shares 6 = .ok (.istore_n 3, 1) := by decide +kernel
theorem dX11_shares_7 : decode cX11_shares 7 = .ok (.iconst 0, 1) := by decide +kernel
theorem dX11_shares_8 : decode cX11_shares 8 = .ok (.istore 4, 2) := by decide +kernel
theorem dX11_shares_10 : decode cX11_shares 10 = .ok (.iconst 0, 1) := by decide +kernel
theorem dX11_shares_11 : decode cX11_shares 11 = .ok (.istore 5, 2) := by decide +kernel
theorem dX11_shares_13 : decode cX11_shares 13 = .ok (.iconst 0, 1) := by decide +kernel
theorem dX11_shares_14 : decode cX11_shares 14 = .ok (.istore 6, 2) := by decide +kernel
theorem dX11_shares_16 : decode cX11_shares 16 = .ok (.iload 6, 2) := by decide +kernel
theorem dX11_shares_18 : decode cX11_shares 18 = .ok (.bipush 8, 2) := by decide +kernel
theorem dX11_shares_20 : decode cX11_shares 20 = .ok (.if_icmp .ge 65, 3) := by decide +kernel
theorem dX11_shares_23 : decode cX11_shares 23 = .ok (.aload_n 0, 1) := by decide +kernel
theorem dX11_shares_24 : decode cX11_shares 24 = .ok (.iload_n 1, 1) := by decide +kernel
theorem dX11_shares_25 : decode cX11_shares 25 = .ok (.iload 6, 2) := by decide +kernel
theorem dX11_shares_27 : decode cX11_shares 27 = .ok (.iload_n 2, 1) := by decide +kernel
theorem dX11_shares_28 : decode cX11_shares 28 = .ok (.invokevirtual 245, 3) := by decide +kernel
theorem dX11_shares_31 : decode cX11_shares 31 = .ok (.istore 7, 2) := by decide +kernel
theorem dX11_shares_33 : decode cX11_shares 33 = .ok (.aload_n 0, 1) := by decide +kernel
theorem dX11_shares_34 : decode cX11_shares 34 = .ok (.getfield 31, 3) := by decide +kernel
theorem dX11_shares_37 : decode cX11_shares 37 = .ok (.iload_n 1, 1) := by decide +kernel
theorem dX11_shares_38 : decode cX11_shares 38 = .ok (.iaload, 1) := by decide +kernel
theorem dX11_shares_39 : decode cX11_shares 39 = .ok (.iload 7, 2) := by decide +kernel
theorem dX11_shares_41 : decode cX11_shares 41 = .ok (.imul, 1) := by decide +kernel
theorem dX11_shares_42 : decode cX11_shares 42 = .ok (.bipush 60, 2) := by decide +kernel
theorem dX11_shares_44 : decode cX11_shares 44 = .ok (.idiv, 1) := by decide +kernel
theorem dX11_shares_45 : decode cX11_shares 45 = .ok (.istore 8, 2) := by decide +kernel
theorem dX11_shares_47 : decode cX11_shares 47 = .ok (.aload_n 0, 1) := by decide +kernel
theorem dX11_shares_48 : decode cX11_shares 48 = .ok (.getfield 102, 3) := by decide +kernel
theorem dX11_shares_51 : decode cX11_shares 51 = .ok (.iload 6, 2) := by decide +kernel
theorem dX11_shares_53 : decode cX11_shares 53 = .ok (.dup2, 1) := by decide +kernel
theorem dX11_shares_54 : decode cX11_shares 54 = .ok (.iaload, 1) := by decide +kernel
theorem dX11_shares_55 : decode cX11_shares 55 = .ok (.iload 8, 2) := by decide +kernel
theorem dX11_shares_57 : decode cX11_shares 57 = .ok (.iadd, 1) := by decide +kernel
theorem dX11_shares_58 : decode cX11_shares 58 = .ok (.iastore, 1) := by decide +kernel
theorem dX11_shares_59 : decode cX11_shares 59 = .ok (.iload_n 3, 1) := by decide +kernel
theorem dX11_shares_60 : decode cX11_shares 60 = .ok (.iload 8, 2) := by decide +kernel
theorem dX11_shares_62 : decode cX11_shares 62 = .ok (.isub, 1) := by decide +kernel
theorem dX11_shares_63 : decode cX11_shares 63 = .ok (.istore_n 3, 1) := by decide +kernel
theorem dX11_shares_64 : decode cX11_shares 64 = .ok (.iload 7, 2) := by decide +kernel
theorem dX11_shares_66 : decode cX11_shares 66 = .ok (.iload 4, 2) := by decide +kernel
theorem dX11_shares_68 : decode cX11_shares 68 = .ok (.if_icmp .le 11, 3) := by decide +kernel
theorem dX11_shares_71 : decode cX11_shares 71 = .ok (.iload 7, 2) := by decide +kernel
theorem dX11_shares_73 : decode cX11_shares 73 = .ok (.istore 4, 2) := by decide +kernel
theorem dX11_shares_75 : decode cX11_shares 75 = .ok (.iload 6, 2) := by decide +kernel
theorem dX11_shares_77 : decode cX11_shares 77 = .ok (.istore 5, 2) := by decide +kernel
theorem dX11_shares_79 : decode cX11_shares 79 = .ok (.iinc 6 1, 3) := by decide +kernel
theorem dX11_shares_82 : decode cX11_shares 82 = .ok (.goto (-66), 3) := by decide +kernel
theorem dX11_shares_85 : decode cX11_shares 85 = .ok (.aload_n 0, 1) := by decide +kernel
theorem dX11_shares_86 : decode cX11_shares 86 = .ok (.getfield 102, 3) := by decide +kernel
theorem dX11_shares_89 : decode cX11_shares 89 = .ok (.iload 5, 2) := by decide +kernel
theorem dX11_shares_91 : decode cX11_shares 91 = .ok (.dup2, 1) := by decide +kernel
theorem dX11_shares_92 : decode cX11_shares 92 = .ok (.iaload, 1) := by decide +kernel
theorem dX11_shares_93 : decode cX11_shares 93 = .ok (.iload_n 3, 1) := by decide +kernel
theorem dX11_shares_94 : decode cX11_shares 94 = .ok (.iadd, 1) := by decide +kernel
theorem dX11_shares_95 : decode cX11_shares 95 = .ok (.iastore, 1) := by decide +kernel
theorem dX11_shares_96 : decode cX11_shares 96 = .ok (.aload_n 0, 1) := by decide +kernel
theorem dX11_shares_97 : decode cX11_shares 97 = .ok (.dup, 1) := by decide +kernel
theorem dX11_shares_98 : decode cX11_shares 98 = .ok (.getfield 266, 3) := by decide +kernel
theorem dX11_shares_101 : decode cX11_shares 101 = .ok (.aload_n 0, 1) := by decide +kernel
theorem dX11_shares_102 : decode cX11_shares 102 = .ok (.getfield 31, 3) := by decide +kernel
theorem dX11_shares_105 : decode cX11_shares 105 = .ok (.iload_n 1, 1) := by decide +kernel
theorem dX11_shares_106 : decode cX11_shares 106 = .ok (.iaload, 1) := by decide +kernel
theorem dX11_shares_107 : decode cX11_shares 107 = .ok (.iadd, 1) := by decide +kernel
theorem dX11_shares_108 : decode cX11_shares 108 = .ok (.putfield 266, 3) := by decide +kernel
theorem dX11_shares_111 : decode cX11_shares 111 = .ok (.return_, 1) := by decide +kernel
theorem dX11_paid_0 : decode cX11_paid 0 = .ok (.aload_n 0, 1) := by decide +kernel
theorem dX11_paid_1 : decode cX11_paid 1 = .ok (.iconst 0, 1) := by decide +kernel
theorem dX11_paid_2 : decode cX11_paid 2 = .ok (.putfield 129, 3) := by decide +kernel
theorem dX11_paid_5 : decode cX11_paid 5 = .ok (.aload_n 0, 1) := by decide +kernel
theorem dX11_paid_6 : decode cX11_paid 6 = .ok (.iload_n 1, 1) := by decide +kernel
theorem dX11_paid_7 : decode cX11_paid 7 = .ok (.invokevirtual 242, 3) := by decide +kernel
theorem dX11_paid_10 : decode cX11_paid 10 = .ok (.ifCond .eq 19, 3) := by decide +kernel
theorem dX11_paid_13 : decode cX11_paid 13 = .ok (.iload_n 2, 1) := by decide +kernel
theorem dX11_paid_14 : decode cX11_paid 14 = .ok (.invokestatic 249, 3) := by decide +kernel
theorem dX11_paid_17 : decode cX11_paid 17 = .ok (.ifCond .eq 12, 3) := by decide +kernel
theorem dX11_paid_20 : decode cX11_paid 20 = .ok (.iload_n 3, 1) := by decide +kernel
theorem dX11_paid_21 : decode cX11_paid 21 = .ok (.iconst 0, 1) := by decide +kernel
theorem dX11_paid_22 : decode cX11_paid 22 = .ok (.iconst 2, 1) := by decide +kernel
theorem dX11_paid_23 : decode cX11_paid 23 = .ok (.invokestatic 204, 3) := by decide +kernel
theorem dX11_paid_26 : decode cX11_paid 26 = .ok (.ifCond .ne 5, 3) := by decide +kernel
theorem dX11_paid_29 : decode cX11_paid 29 = .ok (.iconst (-1), 1) := by decide +kernel
theorem dX11_paid_30 : decode cX11_paid 30 = .ok (.ireturn, 1) := by decide +kernel
theorem dX11_paid_31 : decode cX11_paid 31 = .ok (.aload_n 0, 1) := by decide +kernel
theorem dX11_paid_32 : decode cX11_paid 32 = .ok (.aload_n 0, 1) := by decide +kernel
theorem dX11_paid_33 : decode cX11_paid 33 = .ok (.getfield 208, 3) := by decide +kernel
theorem dX11_paid_36 : decode cX11_paid 36 = .ok (.invokevirtual 279, 3) := by decide +kernel
theorem dX11_paid_39 : decode cX11_paid 39 = .ok (.iload_n 3, 1) := by decide +kernel
theorem dX11_paid_40 : decode cX11_paid 40 = .ok (.ifCond .ne 17, 3) := by decide +kernel
theorem dX11_paid_43 : decode cX11_paid 43 = .ok (.aload_n 0, 1) := by decide +kernel
theorem dX11_paid_44 : decode cX11_paid 44 = .ok (.getfield 99, 3) := by decide +kernel
theorem dX11_paid_47 : decode cX11_paid 47 = .ok (.bipush 80, 2) := by decide +kernel
theorem dX11_paid_49 : decode cX11_paid 49 = .ok (.iload_n 1, 1) := by decide +kernel
theorem dX11_paid_50 : decode cX11_paid 50 = .ok (.imul, 1) := by decide +kernel
theorem dX11_paid_51 : decode cX11_paid 51 = .ok (.iload_n 2, 1) := by decide +kernel
theorem dX11_paid_52 : decode cX11_paid 52 = .ok (.iadd, 1) := by decide +kernel
theorem dX11_paid_53 : decode cX11_paid 53 = .ok (.iaload, 1) := by decide +kernel
theorem dX11_paid_54 : decode cX11_paid 54 = .ok (.goto 34, 3) := by decide +kernel
theorem dX11_paid_57 : decode cX11_paid 57 = .ok (.iload_n 3, 1) := by decide +kernel
theorem dX11_paid_58 : decode cX11_paid 58 = .ok (.iconst 1, 1) := by decide +kernel
theorem dX11_paid_59 : decode cX11_paid 59 = .ok (.if_icmp .ne 15, 3) := by decide +kernel
theorem dX11_paid_62 : decode cX11_paid 62 = .ok (.aload_n 0, 1) := by decide +kernel
theorem dX11_paid_63 : decode cX11_paid 63 = .ok (.iload_n 1, 1) := by decide +kernel
theorem dX11_paid_64 : decode cX11_paid 64 = .ok (.iload_n 2, 1) := by decide +kernel
theorem dX11_paid_65 : decode cX11_paid 65 = .ok (.invokevirtual 269, 3) := by decide +kernel
theorem dX11_paid_68 : decode cX11_paid 68 = .ok (.ifCond .eq 19, 3) := by decide +kernel
theorem dX11_paid_71 : decode cX11_paid 71 = .ok (.goto 12, 3) := by decide +kernel
theorem dX11_paid_74 : decode cX11_paid 74 = .ok (.aload_n 0, 1) := by decide +kernel
theorem dX11_paid_75 : decode cX11_paid 75 = .ok (.iload_n 1, 1) := by decide +kernel
theorem dX11_paid_76 : decode cX11_paid 76 = .ok (.iload_n 2, 1) := by decide +kernel
theorem dX11_paid_77 : decode cX11_paid 77 = .ok (.invokevirtual 272, 3) := by decide +kernel
theorem dX11_paid_80 : decode cX11_paid 80 = .ok (.ifCond .eq 7, 3) := by decide +kernel
theorem dX11_paid_83 : decode cX11_paid 83 = .ok (.iconst 1, 1) := by decide +kernel
theorem dX11_paid_84 : decode cX11_paid 84 = .ok (.goto 4, 3) := by decide +kernel
theorem dX11_paid_87 : decode cX11_paid 87 = .ok (.iconst 0, 1) := by decide +kernel
theorem dX11_paid_88 : decode cX11_paid 88 = .ok (.ireturn, 1) := by decide +kernel
theorem dX11_got_0 : decode cX11_got 0 = .ok (.aload_n 0, 1) := by decide +kernel
theorem dX11_got_1 : decode cX11_got 1 = .ok (.iconst 0, 1) := by decide +kernel
theorem dX11_got_2 : decode cX11_got 2 = .ok (.putfield 129, 3) := by decide +kernel
theorem dX11_got_5 : decode cX11_got 5 = .ok (.iload_n 1, 1) := by decide +kernel
theorem dX11_got_6 : decode cX11_got 6 = .ok (.invokestatic 236, 3) := by decide +kernel
theorem dX11_got_9 : decode cX11_got 9 = .ok (.ifCond .eq 15, 3) := by decide +kernel
theorem dX11_got_12 : decode cX11_got 12 = .ok (.iload_n 2, 1) := by decide +kernel
theorem dX11_got_13 : decode cX11_got 13 = .ok (.iconst 0, 1) := by decide +kernel
theorem dX11_got_14 : decode cX11_got 14 = .ok (.aload_n 0, 1) := by decide +kernel
theorem dX11_got_15 : decode cX11_got 15 = .ok (.getfield 208, 3) := by decide +kernel
theorem dX11_got_18 : decode cX11_got 18 = .ok (.invokestatic 204, 3) := by decide +kernel
theorem dX11_got_21 : decode cX11_got 21 = .ok (.ifCond .ne 5, 3) := by decide +kernel
theorem dX11_got_24 : decode cX11_got 24 = .ok (.iconst (-1), 1) := by decide +kernel
theorem dX11_got_25 : decode cX11_got 25 = .ok (.ireturn, 1) := by decide +kernel
theorem dX11_got_26 : decode cX11_got 26 = .ok (.aload_n 0, 1) := by decide +kernel
theorem dX11_got_27 : decode cX11_got 27 = .ok (.iload_n 2, 1) := by decide +kernel
theorem dX11_got_28 : decode cX11_got 28 = .ok (.invokevirtual 279, 3) := by decide +kernel
theorem dX11_got_31 : decode cX11_got 31 = .ok (.aload_n 0, 1) := by decide +kernel
theorem dX11_got_32 : decode cX11_got 32 = .ok (.getfield 102, 3) := by decide +kernel
theorem dX11_got_35 : decode cX11_got 35 = .ok (.iload_n 1, 1) := by decide +kernel
theorem dX11_got_36 : decode cX11_got 36 = .ok (.iaload, 1) := by decide +kernel
theorem dX11_got_37 : decode cX11_got 37 = .ok (.ireturn, 1) := by decide +kernel
theorem dX11_owedOf_0 : decode cX11_owedOf 0 = .ok (.iconst 0, 1) := by decide +kernel
theorem dX11_owedOf_1 : decode cX11_owedOf 1 = .ok (.istore_n 2, 1) := by decide +kernel
theorem dX11_owedOf_2 : decode cX11_owedOf 2 = .ok (.iconst 0, 1) := by decide +kernel
theorem dX11_owedOf_3 : decode cX11_owedOf 3 = .ok (.istore_n 3, 1) := by decide +kernel
theorem dX11_owedOf_4 : decode cX11_owedOf 4 = .ok (.iload_n 3, 1) := by decide +kernel
theorem dX11_owedOf_5 : decode cX11_owedOf 5 = .ok (.bipush 80, 2) := by decide +kernel
theorem dX11_owedOf_7 : decode cX11_owedOf 7 = .ok (.if_icmp .ge 46, 3) := by decide +kernel
theorem dX11_owedOf_10 : decode cX11_owedOf 10 = .ok (.iload_n 2, 1) := by decide +kernel
theorem dX11_owedOf_11 : decode cX11_owedOf 11 = .ok (.aload_n 0, 1) := by decide +kernel
theorem dX11_owedOf_12 : decode cX11_owedOf 12 = .ok (.getfield 99, 3) := by decide +kernel
theorem dX11_owedOf_15 : decode cX11_owedOf 15 = .ok (.bipush 80, 2) := by decide +kernel
theorem dX11_owedOf_17 : decode cX11_owedOf 17 = .ok (.iload_n 1, 1) := by decide +kernel
theorem dX11_owedOf_18 : decode cX11_owedOf 18 = .ok (.imul, 1) := by decide +kernel
theorem dX11_owedOf_19 : decode cX11_owedOf 19 = .ok (.iload_n 3, 1) := by decide +kernel
theorem dX11_owedOf_20 : decode cX11_owedOf 20 = .ok (.iadd, 1) := by decide +kernel
theorem dX11_owedOf_21 : decode cX11_owedOf 21 = .ok (.iaload, 1) := by decide +kernel
theorem dX11_owedOf_22 : decode cX11_owedOf 22 = .ok (.iconst (-1), 1) := by decide +kernel
theorem dX11_owedOf_23 : decode cX11_owedOf 23 = .ok (.if_icmp .eq 21, 3) := by decide +kernel
theorem dX11_owedOf_26 : decode cX11_owedOf 26 = .ok (.aload_n 0, 1) := by decide +kernel
theorem dX11_owedOf_27 : decode cX11_owedOf 27 = .ok (.iload_n 1, 1) := by decide +kernel
theorem dX11_owedOf_28 : decode cX11_owedOf 28 = .ok (.iload_n 3, 1) := by decide +kernel
theorem dX11_owedOf_29 : decode cX11_owedOf 29 = .ok (.invokevirtual 269, 3) := by decide +kernel
theorem dX11_owedOf_32 : decode cX11_owedOf 32 = .ok (.ifCond .ne 12, 3) := by decide +kernel
theorem dX11_owedOf_35 : decode cX11_owedOf 35 = .ok (.aload_n 0, 1) := by decide +kernel
theorem dX11_owedOf_36 : decode cX11_owedOf 36 = .ok (.getfield 31, 3) := by decide +kernel
theorem dX11_owedOf_39 : decode cX11_owedOf 39 = .ok (.iload_n 1, 1) := by decide +kernel
theorem dX11_owedOf_40 : decode cX11_owedOf 40 = .ok (.iaload, 1) := by decide +kernel
theorem dX11_owedOf_41 : decode cX11_owedOf 41 = .ok (.goto 4, 3) := by decide +kernel
theorem dX11_owedOf_44 : decode cX11_owedOf 44 = .ok (.iconst 0, 1) := by decide +kernel
theorem dX11_owedOf_45 : decode cX11_owedOf 45 = .ok (.iadd, 1) := by decide +kernel
theorem dX11_owedOf_46 : decode cX11_owedOf 46 = .ok (.istore_n 2, 1) := by decide +kernel
theorem dX11_owedOf_47 : decode cX11_owedOf 47 = .ok (.iinc 3 1, 3) := by decide +kernel
theorem dX11_owedOf_50 : decode cX11_owedOf 50 = .ok (.goto (-46), 3) := by decide +kernel
theorem dX11_owedOf_53 : decode cX11_owedOf 53 = .ok (.iload_n 2, 1) := by decide +kernel
theorem dX11_owedOf_54 : decode cX11_owedOf 54 = .ok (.ireturn, 1) := by decide +kernel
theorem dX11_owed_0 : decode cX11_owed 0 = .ok (.aload_n 0, 1) := by decide +kernel
theorem dX11_owed_1 : decode cX11_owed 1 = .ok (.iconst 0, 1) := by decide +kernel
theorem dX11_owed_2 : decode cX11_owed 2 = .ok (.putfield 129, 3) := by decide +kernel
theorem dX11_owed_5 : decode cX11_owed 5 = .ok (.aload_n 0, 1) := by decide +kernel
theorem dX11_owed_6 : decode cX11_owed 6 = .ok (.iload_n 1, 1) := by decide +kernel
theorem dX11_owed_7 : decode cX11_owed 7 = .ok (.invokevirtual 242, 3) := by decide +kernel
theorem dX11_owed_10 : decode cX11_owed 10 = .ok (.ifCond .eq 15, 3) := by decide +kernel
theorem dX11_owed_13 : decode cX11_owed 13 = .ok (.iload_n 2, 1) := by decide +kernel
theorem dX11_owed_14 : decode cX11_owed 14 = .ok (.iconst 0, 1) := by decide +kernel
theorem dX11_owed_15 : decode cX11_owed 15 = .ok (.aload_n 0, 1) := by decide +kernel
theorem dX11_owed_16 : decode cX11_owed 16 = .ok (.getfield 208, 3) := by decide +kernel
theorem dX11_owed_19 : decode cX11_owed 19 = .ok (.invokestatic 204, 3) := by decide +kernel
theorem dX11_owed_22 : decode cX11_owed 22 = .ok (.ifCond .ne 5, 3) := by decide +kernel
theorem dX11_owed_25 : decode cX11_owed 25 = .ok (.iconst (-1), 1) := by decide +kernel
theorem dX11_owed_26 : decode cX11_owed 26 = .ok (.ireturn, 1) := by decide +kernel
theorem dX11_owed_27 : decode cX11_owed 27 = .ok (.aload_n 0, 1) := by decide +kernel
theorem dX11_owed_28 : decode cX11_owed 28 = .ok (.iload_n 2, 1) := by decide +kernel
theorem dX11_owed_29 : decode cX11_owed 29 = .ok (.invokevirtual 279, 3) := by decide +kernel
theorem dX11_owed_32 : decode cX11_owed 32 = .ok (.aload_n 0, 1) := by decide +kernel
theorem dX11_owed_33 : decode cX11_owed 33 = .ok (.iload_n 1, 1) := by decide +kernel
theorem dX11_owed_34 : decode cX11_owed 34 = .ok (.invokevirtual 282, 3) := by decide +kernel
theorem dX11_owed_37 : decode cX11_owed 37 = .ok (.ireturn, 1) := by decide +kernel
theorem dX11_state_0 : decode cX11_state 0 = .ok (.aload_n 0, 1) := by decide +kernel
theorem dX11_state_1 : decode cX11_state 1 = .ok (.iconst 0, 1) := by decide +kernel
theorem dX11_state_2 : decode cX11_state 2 = .ok (.putfield 129, 3) := by decide +kernel
theorem dX11_state_5 : decode cX11_state 5 = .ok (.iload_n 1, 1) := by decide +kernel
theorem dX11_state_6 : decode cX11_state 6 = .ok (.iconst 0, 1) := by decide +kernel
theorem dX11_state_7 : decode cX11_state 7 = .ok (.aload_n 0, 1) := by decide +kernel
theorem dX11_state_8 : decode cX11_state 8 = .ok (.getfield 208, 3) := by decide +kernel
theorem dX11_state_11 : decode cX11_state 11 = .ok (.invokestatic 204, 3) := by decide +kernel
theorem dX11_state_14 : decode cX11_state 14 = .ok (.ifCond .eq 12, 3) := by decide +kernel
theorem dX11_state_17 : decode cX11_state 17 = .ok (.iload_n 2, 1) := by decide +kernel
theorem dX11_state_18 : decode cX11_state 18 = .ok (.iconst 0, 1) := by decide +kernel
theorem dX11_state_19 : decode cX11_state 19 = .ok (.iconst 2, 1) := by decide +kernel
theorem dX11_state_20 : decode cX11_state 20 = .ok (.invokestatic 204, 3) := by decide +kernel
theorem dX11_state_23 : decode cX11_state 23 = .ok (.ifCond .ne 5, 3) := by decide +kernel
theorem dX11_state_26 : decode cX11_state 26 = .ok (.iconst (-1), 1) := by decide +kernel
theorem dX11_state_27 : decode cX11_state 27 = .ok (.ireturn, 1) := by decide +kernel
theorem dX11_state_28 : decode cX11_state 28 = .ok (.aload_n 0, 1) := by decide +kernel
theorem dX11_state_29 : decode cX11_state 29 = .ok (.iload_n 1, 1) := by decide +kernel
theorem dX11_state_30 : decode cX11_state 30 = .ok (.invokevirtual 279, 3) := by decide +kernel
theorem dX11_state_33 : decode cX11_state 33 = .ok (.iload_n 2, 1) := by decide +kernel
theorem dX11_state_34 : decode cX11_state 34 = .ok (.iconst 1, 1) := by decide +kernel
theorem dX11_state_35 : decode cX11_state 35 = .ok (.if_icmp .ne 10, 3) := by decide +kernel
theorem dX11_state_38 : decode cX11_state 38 = .ok (.aload_n 0, 1) := by decide +kernel
theorem dX11_state_39 : decode cX11_state 39 = .ok (.getfield 266, 3) := by decide +kernel
theorem dX11_state_42 : decode cX11_state 42 = .ok (.goto 4, 3) := by decide +kernel
theorem dX11_state_45 : decode cX11_state 45 = .ok (.iconst 0, 1) := by decide +kernel
theorem dX11_state_46 : decode cX11_state 46 = .ok (.istore_n 3, 1) := by decide +kernel
theorem dX11_state_47 : decode cX11_state 47 = .ok (.iconst 0, 1) := by decide +kernel
theorem dX11_state_48 : decode cX11_state 48 = .ok (.istore 4, 2) := by decide +kernel
theorem dX11_state_50 : decode cX11_state 50 = .ok (.iload 4, 2) := by decide +kernel
theorem dX11_state_52 : decode cX11_state 52 = .ok (.aload_n 0, 1) := by decide +kernel
theorem dX11_state_53 : decode cX11_state 53 = .ok (.getfield 233, 3) := by decide +kernel
theorem dX11_state_56 : decode cX11_state 56 = .ok (.if_icmp .ge 53, 3) := by decide +kernel
theorem dX11_state_59 : decode cX11_state 59 = .ok (.iload_n 2, 1) := by decide +kernel
theorem dX11_state_60 : decode cX11_state 60 = .ok (.iconst 1, 1) := by decide +kernel
theorem dX11_state_61 : decode cX11_state 61 = .ok (.if_icmp .eq 48, 3) := by decide +kernel
theorem dX11_state_64 : decode cX11_state 64 = .ok (.iload_n 3, 1) := by decide +kernel
theorem dX11_state_65 : decode cX11_state 65 = .ok (.iload_n 2, 1) := by decide +kernel
theorem dX11_state_66 : decode cX11_state 66 = .ok (.iconst 2, 1) := by decide +kernel
theorem dX11_state_67 : decode cX11_state 67 = .ok (.if_icmp .ne 12, 3) := by decide +kernel
theorem dX11_state_70 : decode cX11_state 70 = .ok (.aload_n 0, 1) := by decide +kernel
theorem dX11_state_71 : decode cX11_state 71 = .ok (.iload 4, 2) := by decide +kernel
theorem dX11_state_73 : decode cX11_state 73 = .ok (.invokevirtual 282, 3) := by decide +kernel
theorem dX11_state_76 : decode cX11_state 76 = .ok (.goto 25, 3) := by decide +kernel
theorem dX11_state_79 : decode cX11_state 79 = .ok (.aload_n 0, 1) := by decide +kernel
theorem dX11_state_80 : decode cX11_state 80 = .ok (.getfield 19, 3) := by decide +kernel
theorem dX11_state_83 : decode cX11_state 83 = .ok (.iload 4, 2) := by decide +kernel
theorem dX11_state_85 : decode cX11_state 85 = .ok (.iaload, 1) := by decide +kernel
theorem dX11_state_86 : decode cX11_state 86 = .ok (.iload_n 1, 1) := by decide +kernel
theorem dX11_state_87 : decode cX11_state 87 = .ok (.if_icmp .gt 13, 3) := by decide +kernel
theorem dX11_state_90 : decode cX11_state 90 = .ok (.aload_n 0, 1) := by decide +kernel
theorem dX11_state_91 : decode cX11_state 91 = .ok (.getfield 34, 3) := by decide +kernel
theorem dX11_state_94 : decode cX11_state 94 = .ok (.iload 4, 2) := by decide +kernel
theorem dX11_state_96 : decode cX11_state 96 = .ok (.iaload, 1) := by decide +kernel
theorem dX11_state_97 : decode cX11_state 97 = .ok (.goto 4, 3) := by decide +kernel
theorem dX11_state_100 : decode cX11_state 100 = .ok (.iconst 0, 1) := by decide +kernel
theorem dX11_state_101 : decode cX11_state 101 = .ok (.iadd, 1) := by decide +kernel
theorem dX11_state_102 : decode cX11_state 102 = .ok (.istore_n 3, 1) := by decide +kernel
theorem dX11_state_103 : decode cX11_state 103 = .ok (.iinc 4 1, 3) := by decide +kernel
theorem dX11_state_106 : decode cX11_state 106 = .ok (.goto (-56), 3) := by decide +kernel
theorem dX11_state_109 : decode cX11_state 109 = .ok (.iload_n 3, 1) := by decide +kernel
theorem dX11_state_110 : decode cX11_state 110 = .ok (.ireturn, 1) := by decide +kernel
theorem dX11_sold_0 : decode cX11_sold 0 = .ok (.aload_n 0, 1) := by decide +kernel
theorem dX11_sold_1 : decode cX11_sold 1 = .ok (.iconst 0, 1) := by decide +kernel
theorem dX11_sold_2 : decode cX11_sold 2 = .ok (.putfield 129, 3) := by decide +kernel
theorem dX11_sold_5 : decode cX11_sold 5 = .ok (.iload_n 1, 1) := by decide +kernel
theorem dX11_sold_6 : decode cX11_sold 6 = .ok (.iconst 0, 1) := by decide +kernel
theorem dX11_sold_7 : decode cX11_sold 7 = .ok (.iconst 3, 1) := by decide +kernel
theorem dX11_sold_8 : decode cX11_sold 8 = .ok (.invokestatic 204, 3) := by decide +kernel
theorem dX11_sold_11 : decode cX11_sold 11 = .ok (.ifCond .eq 24, 3) := by decide +kernel
theorem dX11_sold_14 : decode cX11_sold 14 = .ok (.iload_n 2, 1) := by decide +kernel
theorem dX11_sold_15 : decode cX11_sold 15 = .ok (.iconst 0, 1) := by decide +kernel
theorem dX11_sold_16 : decode cX11_sold 16 = .ok (.bipush 9, 2) := by decide +kernel
theorem dX11_sold_18 : decode cX11_sold 18 = .ok (.invokestatic 204, 3) := by decide +kernel
theorem dX11_sold_21 : decode cX11_sold 21 = .ok (.ifCond .eq 14, 3) := by decide +kernel
theorem dX11_sold_24 : decode cX11_sold 24 = .ok (.iload_n 3, 1) := by decide +kernel
theorem dX11_sold_25 : decode cX11_sold 25 = .ok (.iconst 0, 1) := by decide +kernel
theorem dX11_sold_26 : decode cX11_sold 26 = .ok (.sipush 1000, 3) := by decide +kernel
theorem dX11_sold_29 : decode cX11_sold 29 = .ok (.invokestatic 204, 3) := by decide +kernel
theorem dX11_sold_32 : decode cX11_sold 32 = .ok (.ifCond .ne 5, 3) := by decide +kernel
theorem dX11_sold_35 : decode cX11_sold 35 = .ok (.iconst 0, 1) := by decide +kernel
theorem dX11_sold_36 : decode cX11_sold 36 = .ok (.ireturn, 1) := by decide +kernel
theorem dX11_sold_37 : decode cX11_sold 37 = .ok (.aload_n 0, 1) := by decide +kernel
theorem dX11_sold_38 : decode cX11_sold 38 = .ok (.getfield 52, 3) := by decide +kernel
theorem dX11_sold_41 : decode cX11_sold 41 = .ok (.bipush 10, 2) := by decide +kernel
theorem dX11_sold_43 : decode cX11_sold 43 = .ok (.iload_n 1, 1) := by decide +kernel
theorem dX11_sold_44 : decode cX11_sold 44 = .ok (.imul, 1) := by decide +kernel
theorem dX11_sold_45 : decode cX11_sold 45 = .ok (.iload_n 2, 1) := by decide +kernel
theorem dX11_sold_46 : decode cX11_sold 46 = .ok (.iadd, 1) := by decide +kernel
theorem dX11_sold_47 : decode cX11_sold 47 = .ok (.iload_n 3, 1) := by decide +kernel
theorem dX11_sold_48 : decode cX11_sold 48 = .ok (.iastore, 1) := by decide +kernel
theorem dX11_sold_49 : decode cX11_sold 49 = .ok (.iconst 1, 1) := by decide +kernel
theorem dX11_sold_50 : decode cX11_sold 50 = .ok (.ireturn, 1) := by decide +kernel
theorem dX11_groupOf_0 : decode cX11_groupOf 0 = .ok (.iload_n 0, 1) := by decide +kernel
theorem dX11_groupOf_1 : decode cX11_groupOf 1 = .ok (.bipush 99, 2) := by decide +kernel
theorem dX11_groupOf_3 : decode cX11_groupOf 3 = .ok (.if_icmp .le 8, 3) := by decide +kernel
theorem dX11_groupOf_6 : decode cX11_groupOf 6 = .ok (.bipush 9, 2) := by decide +kernel
theorem dX11_groupOf_8 : decode cX11_groupOf 8 = .ok (.goto 7, 3) := by decide +kernel
theorem dX11_groupOf_11 : decode cX11_groupOf 11 = .ok (.iload_n 0, 1) := by decide +kernel
theorem dX11_groupOf_12 : decode cX11_groupOf 12 = .ok (.bipush 10, 2) := by decide +kernel
theorem dX11_groupOf_14 : decode cX11_groupOf 14 = .ok (.idiv, 1) := by decide +kernel
theorem dX11_groupOf_15 : decode cX11_groupOf 15 = .ok (.ireturn, 1) := by decide +kernel
theorem dX11_years_0 : decode cX11_years 0 = .ok (.aload_n 0, 1) := by decide +kernel
theorem dX11_years_1 : decode cX11_years 1 = .ok (.iconst 0, 1) := by decide +kernel
theorem dX11_years_2 : decode cX11_years 2 = .ok (.putfield 286, 3) := by decide +kernel
theorem dX11_years_5 : decode cX11_years 5 = .ok (.aload_n 0, 1) := by decide +kernel
theorem dX11_years_6 : decode cX11_years 6 = .ok (.iconst 0, 1) := by decide +kernel
theorem dX11_years_7 : decode cX11_years 7 = .ok (.putfield 289, 3) := by decide +kernel
theorem dX11_years_10 : decode cX11_years 10 = .ok (.iconst 0, 1) := by decide +kernel
theorem dX11_years_11 : decode cX11_years 11 = .ok (.istore 4, 2) := by decide +kernel
theorem dX11_years_13 : decode cX11_years 13 = .ok (.iload 4, 2) := by decide +kernel
theorem dX11_years_15 : decode cX11_years 15 = .ok (.aload_n 0, 1) := by decide +kernel
theorem dX11_years_16 : decode cX11_years 16 = .ok (.getfield 211, 3) := by decide +kernel
theorem dX11_years_19 : decode cX11_years 19 = .ok (.if_icmp .ge 165, 3) := by decide +kernel
theorem dX11_years_22 : decode cX11_years 22 = .ok (.aload_n 0, 1) := by decide +kernel
theorem dX11_years_23 : decode cX11_years 23 = .ok (.getfield 16, 3) := by decide +kernel
theorem dX11_years_26 : decode cX11_years 26 = .ok (.iload 4, 2) := by decide +kernel
theorem dX11_years_28 : decode cX11_years 28 = .ok (.iaload, 1) := by decide +kernel
theorem dX11_years_29 : decode cX11_years 29 = .ok (.iload_n 1, 1) := by decide +kernel
theorem dX11_years_30 : decode cX11_years 30 = .ok (.if_icmp .eq 6, 3) := by decide +kernel
theorem dX11_years_33 : decode cX11_years 33 = .ok (.goto 145, 3) := by decide +kernel
theorem dX11_years_36 : decode cX11_years 36 = .ok (.bipush 10, 2) := by decide +kernel
theorem dX11_years_38 : decode cX11_years 38 = .ok (.iload_n 2, 1) := by decide +kernel
theorem dX11_years_39 : decode cX11_years 39 = .ok (.imul, 1) := by decide +kernel
theorem dX11_years_40 : decode cX11_years 40 = .ok (.istore 5, 2) := by decide +kernel
theorem dX11_years_42 : decode cX11_years 42 = .ok (.iload_n 2, 1) := by decide +kernel
theorem dX11_years_43 : decode cX11_years 43 = .ok (.bipush 9, 2) := by decide +kernel
theorem dX11_years_45 : decode cX11_years 45 = .ok (.if_icmp .ne 14, 3) := by decide +kernel
theorem dX11_years_48 : decode cX11_years 48 = .ok (.iload 5, 2) := by decide +kernel
theorem dX11_years_50 : decode cX11_years 50 = .ok (.sipush 130, 3) := by decide +kernel
theorem dX11_years_53 : decode cX11_years 53 = .ok (.if_icmp .ge 125, 3) := by decide +kernel
theorem dX11_years_56 : decode cX11_years 56 = .ok (.goto 15, 3) := by decide +kernel
theorem dX11_years_59 : decode cX11_years 59 = .ok (.iload 5, 2) := by decide +kernel
theorem dX11_years_61 : decode cX11_years 61 = .ok (.bipush 10, 2) := by decide +kernel
theorem dX11_years_63 : decode cX11_years 63 = .ok (.iload_n 2, 1) := by decide +kernel
theorem dX11_years_64 : decode cX11_years 64 = .ok (.imul, 1) := by decide +kernel
theorem dX11_years_65 : decode cX11_years 65 = .ok (.bipush 10, 2) := by decide +kernel
theorem dX11_years_67 : decode cX11_years 67 = .ok (.iadd, 1) := by decide +kernel
theorem dX11_years_68 : decode cX11_years 68 = .ok (.if_icmp .ge 110, 3) := by decide +kernel
theorem dX11_years_71 : decode cX11_years 71 = .ok (.aload_n 0, 1) := by decide +kernel
theorem dX11_years_72 : decode cX11_years 72 = .ok (.getfield 13, 3) := by decide +kernel
theorem dX11_years_75 : decode cX11_years 75 = .ok (.iload 4, 2) := by decide +kernel
theorem dX11_years_77 : decode cX11_years 77 = .ok (.iaload, 1) := by decide +kernel
theorem dX11_years_78 : decode cX11_years 78 = .ok (.iconst 2, 1) := by decide +kernel
theorem dX11_years_79 : decode cX11_years 79 = .ok (.iload 5, 2) := by decide +kernel
theorem dX11_years_81 : decode cX11_years 81 = .ok (.imul, 1) := by decide +kernel
theorem dX11_years_82 : decode cX11_years 82 = .ok (.iadd, 1) := by decide +kernel
theorem dX11_years_83 : decode cX11_years 83 = .ok (.istore 6, 2) := by decide +kernel
theorem dX11_years_85 : decode cX11_years 85 = .ok (.iload 6, 2) := by decide +kernel
theorem dX11_years_87 : decode cX11_years 87 = .ok (.ifCond .lt 85, 3) := by decide +kernel
theorem dX11_years_90 : decode cX11_years 90 = .ok (.iload 6, 2) := by decide +kernel
theorem dX11_years_92 : decode cX11_years 92 = .ok (.iload_n 3, 1) := by decide +kernel
theorem dX11_years_93 : decode cX11_years 93 = .ok (.if_icmp .gt 79, 3) := by decide +kernel
theorem dX11_years_96 : decode cX11_years 96 = .ok (.aload_n 0, 1) := by decide +kernel
theorem dX11_years_97 : decode cX11_years 97 = .ok (.getfield 96, 3) := by decide +kernel
theorem dX11_years_100 : decode cX11_years 100 = .ok (.iload 4, 2) := by decide +kernel
theorem dX11_years_102 : decode cX11_years 102 = .ok (.iaload, 1) := by decide +kernel
theorem dX11_years_103 : decode cX11_years 103 = .ok (.iconst (-1), 1) := by decide +kernel
theorem dX11_years_104 : decode cX11_years 104 = .ok (.if_icmp .eq 18, 3) := by decide +kernel
theorem dX11_years_107 : decode cX11_years 107 = .ok (.iload 6, 2) := by decide +kernel
theorem dX11_years_109 : decode cX11_years 109 = .ok (.aload_n 0, 1) := by decide +kernel
theorem dX11_years_110 : decode cX11_years 110 = .ok (.getfield 96, 3) := by decide +kernel
theorem dX11_years_113 : decode cX11_years 113 = .ok (.iload 4, 2) := by decide +kernel
theorem dX11_years_115 : decode cX11_years 115 = .ok (.iaload, 1) := by decide +kernel
theorem dX11_years_116 : decode cX11_years 116 = .ok (.if_icmp .le 6, 3) := by decide +kernel
theorem dX11_years_119 : decode cX11_years 119 = .ok (.goto 53, 3) := by decide +kernel
theorem dX11_years_122 : decode cX11_years 122 = .ok (.aload_n 0, 1) := by decide +kernel
theorem dX11_years_123 : decode cX11_years 123 = .ok (.dup, 1) := by decide +kernel
theorem dX11_years_124 : decode cX11_years 124 = .ok (.getfield 286, 3) := by decide +kernel
theorem dX11_years_127 : decode cX11_years 127 = .ok (.iconst 1, 1) := by decide +kernel
theorem dX11_years_128 : decode cX11_years 128 = .ok (.iadd, 1) := by decide +kernel
theorem dX11_years_129 : decode cX11_years 129 = .ok (.putfield 286, 3) := by decide +kernel
theorem dX11_years_132 : decode cX11_years 132 = .ok (.aload_n 0, 1) := by decide +kernel
theorem dX11_years_133 : decode cX11_years 133 = .ok (.dup, 1) := by decide +kernel
theorem dX11_years_134 : decode cX11_years 134 = .ok (.getfield 289, 3) := by decide +kernel
theorem dX11_years_137 : decode cX11_years 137 = .ok (.aload_n 0, 1) := by decide +kernel
theorem dX11_years_138 : decode cX11_years 138 = .ok (.getfield 96, 3) := by decide +kernel
theorem dX11_years_141 : decode cX11_years 141 = .ok (.iload 4, 2) := by decide +kernel
theorem dX11_years_143 : decode cX11_years 143 = .ok (.iaload, 1) := by decide +kernel
theorem dX11_years_144 : decode cX11_years 144 = .ok (.iload 6, 2) := by decide +kernel
theorem dX11_years_146 : decode cX11_years 146 = .ok (.if_icmp .eq 17, 3) := by decide +kernel
theorem dX11_years_149 : decode cX11_years 149 = .ok (.aload_n 0, 1) := by decide +kernel
theorem dX11_years_150 : decode cX11_years 150 = .ok (.getfield 96, 3) := by decide +kernel
theorem dX11_years_153 : decode cX11_years 153 = .ok (.iload 4, 2) := by decide +kernel
theorem dX11_years_155 : decode cX11_years 155 = .ok (.iaload, 1) := by decide +kernel
theorem dX11_years_156 : decode cX11_years 156 = .ok (.iload 6, 2) := by decide +kernel
theorem dX11_years_158 : decode cX11_years 158 = .ok (.iconst 1, 1) := by decide +kernel
theorem dX11_years_159 : decode cX11_years 159 = .ok (.iadd, 1) := by decide +kernel
theorem dX11_years_160 : decode cX11_years 160 = .ok (.if_icmp .ne 7, 3) := by decide +kernel
theorem dX11_years_163 : decode cX11_years 163 = .ok (.iconst 1, 1) := by decide +kernel
theorem dX11_years_164 : decode cX11_years 164 = .ok (.goto 4, 3) := by decide +kernel
theorem dX11_years_167 : decode cX11_years 167 = .ok (.iconst 0, 1) := by decide +kernel
theorem dX11_years_168 : decode cX11_years 168 = .ok (.iadd, 1) := by decide +kernel
theorem dX11_years_169 : decode cX11_years 169 = .ok (.putfield 289, 3) := by decide +kernel
theorem dX11_years_172 : decode cX11_years 172 = .ok (.iinc 5 1, 3) := by decide +kernel
theorem dX11_years_175 : decode cX11_years 175 = .ok (.goto (-133), 3) := by decide +kernel
theorem dX11_years_178 : decode cX11_years 178 = .ok (.iinc 4 1, 3) := by decide +kernel
theorem dX11_years_181 : decode cX11_years 181 = .ok (.goto (-168), 3) := by decide +kernel
theorem dX11_years_184 : decode cX11_years 184 = .ok (.return_, 1) := by decide +kernel
theorem dX11_lived_0 : decode cX11_lived 0 = .ok (.aload_n 0, 1) := by decide +kernel
theorem dX11_lived_1 : decode cX11_lived 1 = .ok (.getfield 286, 3) := by decide +kernel
theorem dX11_lived_4 : decode cX11_lived 4 = .ok (.ifCond .ne 15, 3) := by decide +kernel
theorem dX11_lived_7 : decode cX11_lived 7 = .ok (.aload_n 0, 1) := by decide +kernel
theorem dX11_lived_8 : decode cX11_lived 8 = .ok (.getfield 52, 3) := by decide +kernel
theorem dX11_lived_11 : decode cX11_lived 11 = .ok (.bipush 10, 2) := by decide +kernel
theorem dX11_lived_13 : decode cX11_lived 13 = .ok (.iload_n 1, 1) := by decide +kernel
theorem dX11_lived_14 : decode cX11_lived 14 = .ok (.imul, 1) := by decide +kernel
theorem dX11_lived_15 : decode cX11_lived 15 = .ok (.iload_n 2, 1) := by decide +kernel
theorem dX11_lived_16 : decode cX11_lived 16 = .ok (.iadd, 1) := by decide +kernel
theorem dX11_lived_17 : decode cX11_lived 17 = .ok (.iaload, 1) := by decide +kernel
theorem dX11_lived_18 : decode cX11_lived 18 = .ok (.ireturn, 1) := by decide +kernel
theorem dX11_lived_19 : decode cX11_lived 19 = .ok (.aload_n 0, 1) := by decide +kernel
theorem dX11_lived_20 : decode cX11_lived 20 = .ok (.getfield 289, 3) := by decide +kernel
theorem dX11_lived_23 : decode cX11_lived 23 = .ok (.iload_n 3, 1) := by decide +kernel
theorem dX11_lived_24 : decode cX11_lived 24 = .ok (.iadd, 1) := by decide +kernel
theorem dX11_lived_25 : decode cX11_lived 25 = .ok (.istore 4, 2) := by decide +kernel
theorem dX11_lived_27 : decode cX11_lived 27 = .ok (.iload 4, 2) := by decide +kernel
theorem dX11_lived_29 : decode cX11_lived 29 = .ok (.ifCond .ge 7, 3) := by decide +kernel
theorem dX11_lived_32 : decode cX11_lived 32 = .ok (.iconst 0, 1) := by decide +kernel
theorem dX11_lived_33 : decode cX11_lived 33 = .ok (.goto 21, 3) := by decide +kernel
theorem dX11_lived_36 : decode cX11_lived 36 = .ok (.iload 4, 2) := by decide +kernel
theorem dX11_lived_38 : decode cX11_lived 38 = .ok (.aload_n 0, 1) := by decide +kernel
theorem dX11_lived_39 : decode cX11_lived 39 = .ok (.getfield 286, 3) := by decide +kernel
theorem dX11_lived_42 : decode cX11_lived 42 = .ok (.if_icmp .le 10, 3) := by decide +kernel
theorem dX11_lived_45 : decode cX11_lived 45 = .ok (.aload_n 0, 1) := by decide +kernel
theorem dX11_lived_46 : decode cX11_lived 46 = .ok (.getfield 286, 3) := by decide +kernel
theorem dX11_lived_49 : decode cX11_lived 49 = .ok (.goto 5, 3) := by decide +kernel
theorem dX11_lived_52 : decode cX11_lived 52 = .ok (.iload 4, 2) := by decide +kernel
theorem dX11_lived_54 : decode cX11_lived 54 = .ok (.istore 4, 2) := by decide +kernel
theorem dX11_lived_56 : decode cX11_lived 56 = .ok (.sipush 1000, 3) := by decide +kernel
theorem dX11_lived_59 : decode cX11_lived 59 = .ok (.aload_n 0, 1) := by decide +kernel
theorem dX11_lived_60 : decode cX11_lived 60 = .ok (.getfield 286, 3) := by decide +kernel
theorem dX11_lived_63 : decode cX11_lived 63 = .ok (.iload 4, 2) := by decide +kernel
theorem dX11_lived_65 : decode cX11_lived 65 = .ok (.isub, 1) := by decide +kernel
theorem dX11_lived_66 : decode cX11_lived 66 = .ok (.imul, 1) := by decide +kernel
theorem dX11_lived_67 : decode cX11_lived 67 = .ok (.aload_n 0, 1) := by decide +kernel
theorem dX11_lived_68 : decode cX11_lived 68 = .ok (.getfield 286, 3) := by decide +kernel
theorem dX11_lived_71 : decode cX11_lived 71 = .ok (.idiv, 1) := by decide +kernel
theorem dX11_lived_72 : decode cX11_lived 72 = .ok (.ireturn, 1) := by decide +kernel
theorem dX11_own_0 : decode cX11_own 0 = .ok (.aload_n 0, 1) := by decide +kernel
theorem dX11_own_1 : decode cX11_own 1 = .ok (.iconst 0, 1) := by decide +kernel
theorem dX11_own_2 : decode cX11_own 2 = .ok (.putfield 129, 3) := by decide +kernel
theorem dX11_own_5 : decode cX11_own 5 = .ok (.iload_n 1, 1) := by decide +kernel
theorem dX11_own_6 : decode cX11_own 6 = .ok (.iconst 0, 1) := by decide +kernel
theorem dX11_own_7 : decode cX11_own 7 = .ok (.iconst 3, 1) := by decide +kernel
theorem dX11_own_8 : decode cX11_own 8 = .ok (.invokestatic 204, 3) := by decide +kernel
theorem dX11_own_11 : decode cX11_own 11 = .ok (.ifCond .eq 30, 3) := by decide +kernel
theorem dX11_own_14 : decode cX11_own 14 = .ok (.iload_n 2, 1) := by decide +kernel
theorem dX11_own_15 : decode cX11_own 15 = .ok (.iconst 0, 1) := by decide +kernel
theorem dX11_own_16 : decode cX11_own 16 = .ok (.bipush 9, 2) := by decide +kernel
theorem dX11_own_18 : decode cX11_own 18 = .ok (.invokestatic 204, 3) := by decide +kernel
theorem dX11_own_21 : decode cX11_own 21 = .ok (.ifCond .eq 20, 3) := by decide +kernel
theorem dX11_own_24 : decode cX11_own 24 = .ok (.iload_n 3, 1) := by decide +kernel
theorem dX11_own_25 : decode cX11_own 25 = .ok (.invokestatic 249, 3) := by decide +kernel
theorem dX11_own_28 : decode cX11_own 28 = .ok (.ifCond .eq 13, 3) := by decide +kernel
theorem dX11_own_31 : decode cX11_own 31 = .ok (.iload 4, 2) := by decide +kernel
theorem dX11_own_33 : decode cX11_own 33 = .ok (.iconst 0, 1) := by decide +kernel
theorem dX11_own_34 : decode cX11_own 34 = .ok (.iconst 4, 1) := by decide +kernel
theorem dX11_own_35 : decode cX11_own 35 = .ok (.invokestatic 204, 3) := by decide +kernel
theorem dX11_own_38 : decode cX11_own 38 = .ok (.ifCond .ne 5, 3) := by decide +kernel
theorem dX11_own_41 : decode cX11_own 41 = .ok (.iconst (-1), 1) := by decide +kernel
theorem dX11_own_42 : decode cX11_own 42 = .ok (.ireturn, 1) := by decide +kernel
theorem dX11_own_43 : decode cX11_own 43 = .ok (.aload_n 0, 1) := by decide +kernel
theorem dX11_own_44 : decode cX11_own 44 = .ok (.iload_n 3, 1) := by decide +kernel
theorem dX11_own_45 : decode cX11_own 45 = .ok (.invokevirtual 257, 3) := by decide +kernel
theorem dX11_own_48 : decode cX11_own 48 = .ok (.aload_n 0, 1) := by decide +kernel
theorem dX11_own_49 : decode cX11_own 49 = .ok (.iload_n 1, 1) := by decide +kernel
theorem dX11_own_50 : decode cX11_own 50 = .ok (.iload_n 2, 1) := by decide +kernel
theorem dX11_own_51 : decode cX11_own 51 = .ok (.iload_n 3, 1) := by decide +kernel
theorem dX11_own_52 : decode cX11_own 52 = .ok (.invokevirtual 292, 3) := by decide +kernel
theorem dX11_own_55 : decode cX11_own 55 = .ok (.iload 4, 2) := by decide +kernel
theorem dX11_own_57 : decode cX11_own 57 = .ok (.ifCond .ne 10, 3) := by decide +kernel
theorem dX11_own_60 : decode cX11_own 60 = .ok (.aload_n 0, 1) := by decide +kernel
theorem dX11_own_61 : decode cX11_own 61 = .ok (.getfield 286, 3) := by decide +kernel
theorem dX11_own_64 : decode cX11_own 64 = .ok (.goto 43, 3) := by decide +kernel
theorem dX11_own_67 : decode cX11_own 67 = .ok (.iload 4, 2) := by decide +kernel
theorem dX11_own_69 : decode cX11_own 69 = .ok (.iconst 1, 1) := by decide +kernel
theorem dX11_own_70 : decode cX11_own 70 = .ok (.if_icmp .ne 10, 3) := by decide +kernel
theorem dX11_own_73 : decode cX11_own 73 = .ok (.aload_n 0, 1) := by decide +kernel
theorem dX11_own_74 : decode cX11_own 74 = .ok (.getfield 289, 3) := by decide +kernel
theorem dX11_own_77 : decode cX11_own 77 = .ok (.goto 30, 3) := by decide +kernel
theorem dX11_own_80 : decode cX11_own 80 = .ok (.aload_n 0, 1) := by decide +kernel
theorem dX11_own_81 : decode cX11_own 81 = .ok (.iload_n 1, 1) := by decide +kernel
theorem dX11_own_82 : decode cX11_own 82 = .ok (.iload_n 2, 1) := by decide +kernel
theorem dX11_own_83 : decode cX11_own 83 = .ok (.iload 4, 2) := by decide +kernel
theorem dX11_own_85 : decode cX11_own 85 = .ok (.iconst 2, 1) := by decide +kernel
theorem dX11_own_86 : decode cX11_own 86 = .ok (.if_icmp .ne 7, 3) := by decide +kernel
theorem dX11_own_89 : decode cX11_own 89 = .ok (.iconst 0, 1) := by decide +kernel
theorem dX11_own_90 : decode cX11_own 90 = .ok (.goto 14, 3) := by decide +kernel
theorem dX11_own_93 : decode cX11_own 93 = .ok (.iload 4, 2) := by decide +kernel
theorem dX11_own_95 : decode cX11_own 95 = .ok (.iconst 3, 1) := by decide +kernel
theorem dX11_own_96 : decode cX11_own 96 = .ok (.if_icmp .ne 7, 3) := by decide +kernel
theorem dX11_own_99 : decode cX11_own 99 = .ok (.iconst 1, 1) := by decide +kernel
theorem dX11_own_100 : decode cX11_own 100 = .ok (.goto 4, 3) := by decide +kernel
theorem dX11_own_103 : decode cX11_own 103 = .ok (.iconst (-1), 1) := by decide +kernel
theorem dX11_own_104 : decode cX11_own 104 = .ok (.invokevirtual 296, 3) := by decide +kernel
theorem dX11_own_107 : decode cX11_own 107 = .ok (.ireturn, 1) := by decide +kernel
theorem dX11_lay_0 : decode cX11_lay 0 = .ok (.iload_n 1, 1) := by decide +kernel
theorem dX11_lay_1 : decode cX11_lay 1 = .ok (.ifCond .le 11, 3) := by decide +kernel
theorem dX11_lay_4 : decode cX11_lay 4 = .ok (.aload_n 0, 1) := by decide +kernel
theorem dX11_lay_5 : decode cX11_lay 5 = .ok (.aload_n 0, 1) := by decide +kernel
theorem dX11_lay_6 : decode cX11_lay 6 = .ok (.getfield 208, 3) := by decide +kernel
theorem dX11_lay_9 : decode cX11_lay 9 = .ok (.invokevirtual 257, 3) := by decide +kernel
theorem dX11_lay_12 : decode cX11_lay 12 = .ok (.iconst 0, 1) := by decide +kernel
theorem dX11_lay_13 : decode cX11_lay 13 = .ok (.istore_n 2, 1) := by decide +kernel
theorem dX11_lay_14 : decode cX11_lay 14 = .ok (.iload_n 2, 1) := by decide +kernel
theorem dX11_lay_15 : decode cX11_lay 15 = .ok (.iconst 4, 1) := by decide +kernel
theorem dX11_lay_16 : decode cX11_lay 16 = .ok (.if_icmp .ge 91, 3) := by decide +kernel
theorem dX11_lay_19 : decode cX11_lay 19 = .ok (.iconst 0, 1) := by decide +kernel
theorem dX11_lay_20 : decode cX11_lay 20 = .ok (.istore_n 3, 1) := by decide +kernel
theorem dX11_lay_21 : decode cX11_lay 21 = .ok (.iload_n 3, 1) := by decide +kernel
theorem dX11_lay_22 : decode cX11_lay 22 = .ok (.bipush 10, 2) := by decide +kernel
theorem dX11_lay_24 : decode cX11_lay 24 = .ok (.if_icmp .ge 77, 3) := by decide +kernel
theorem dX11_lay_27 : decode cX11_lay 27 = .ok (.iload_n 1, 1) := by decide +kernel
theorem dX11_lay_28 : decode cX11_lay 28 = .ok (.ifCond .le 13, 3) := by decide +kernel
theorem dX11_lay_31 : decode cX11_lay 31 = .ok (.aload_n 0, 1) := by decide +kernel
theorem dX11_lay_32 : decode cX11_lay 32 = .ok (.iload_n 2, 1) := by decide +kernel
theorem dX11_lay_33 : decode cX11_lay 33 = .ok (.iload_n 3, 1) := by decide +kernel
theorem dX11_lay_34 : decode cX11_lay 34 = .ok (.aload_n 0, 1) := by decide +kernel
theorem dX11_lay_35 : decode cX11_lay 35 = .ok (.getfield 208, 3) := by decide +kernel
theorem dX11_lay_38 : decode cX11_lay 38 = .ok (.invokevirtual 292, 3) := by decide +kernel
theorem dX11_lay_41 : decode cX11_lay 41 = .ok (.aload_n 0, 1) := by decide +kernel
theorem dX11_lay_42 : decode cX11_lay 42 = .ok (.getfield 105, 3) := by decide +kernel
theorem dX11_lay_45 : decode cX11_lay 45 = .ok (.bipush 10, 2) := by decide +kernel
theorem dX11_lay_47 : decode cX11_lay 47 = .ok (.iload_n 2, 1) := by decide +kernel
theorem dX11_lay_48 : decode cX11_lay 48 = .ok (.imul, 1) := by decide +kernel
theorem dX11_lay_49 : decode cX11_lay 49 = .ok (.iload_n 3, 1) := by decide +kernel
theorem dX11_lay_50 : decode cX11_lay 50 = .ok (.iadd, 1) := by decide +kernel
theorem dX11_lay_51 : decode cX11_lay 51 = .ok (.iload_n 1, 1) := by decide +kernel
theorem dX11_lay_52 : decode cX11_lay 52 = .ok (.ifCond .ne 17, 3) := by decide +kernel
theorem dX11_lay_55 : decode cX11_lay 55 = .ok (.aload_n 0, 1) := by decide +kernel
theorem dX11_lay_56 : decode cX11_lay 56 = .ok (.getfield 52, 3) := by decide +kernel
theorem dX11_lay_59 : decode cX11_lay 59 = .ok (.bipush 10, 2) := by decide +kernel
theorem dX11_lay_61 : decode cX11_lay 61 = .ok (.iload_n 2, 1) := by decide +kernel
theorem dX11_lay_62 : decode cX11_lay 62 = .ok (.imul, 1) := by decide +kernel
theorem dX11_lay_63 : decode cX11_lay 63 = .ok (.iload_n 3, 1) := by decide +kernel
theorem dX11_lay_64 : decode cX11_lay 64 = .ok (.iadd, 1) := by decide +kernel
theorem dX11_lay_65 : decode cX11_lay 65 = .ok (.iaload, 1) := by decide +kernel
theorem dX11_lay_66 : decode cX11_lay 66 = .ok (.goto 28, 3) := by decide +kernel
theorem dX11_lay_69 : decode cX11_lay 69 = .ok (.aload_n 0, 1) := by decide +kernel
theorem dX11_lay_70 : decode cX11_lay 70 = .ok (.iload_n 2, 1) := by decide +kernel
theorem dX11_lay_71 : decode cX11_lay 71 = .ok (.iload_n 3, 1) := by decide +kernel
theorem dX11_lay_72 : decode cX11_lay 72 = .ok (.iload_n 1, 1) := by decide +kernel
theorem dX11_lay_73 : decode cX11_lay 73 = .ok (.iconst 1, 1) := by decide +kernel
theorem dX11_lay_74 : decode cX11_lay 74 = .ok (.if_icmp .ne 7, 3) := by decide +kernel
theorem dX11_lay_77 : decode cX11_lay 77 = .ok (.iconst 0, 1) := by decide +kernel
theorem dX11_lay_78 : decode cX11_lay 78 = .ok (.goto 13, 3) := by decide +kernel
theorem dX11_lay_81 : decode cX11_lay 81 = .ok (.iload_n 1, 1) := by decide +kernel
theorem dX11_lay_82 : decode cX11_lay 82 = .ok (.iconst 2, 1) := by decide +kernel
theorem dX11_lay_83 : decode cX11_lay 83 = .ok (.if_icmp .ne 7, 3) := by decide +kernel
theorem dX11_lay_86 : decode cX11_lay 86 = .ok (.iconst 1, 1) := by decide +kernel
theorem dX11_lay_87 : decode cX11_lay 87 = .ok (.goto 4, 3) := by decide +kernel
theorem dX11_lay_90 : decode cX11_lay 90 = .ok (.iconst (-1), 1) := by decide +kernel
theorem dX11_lay_91 : decode cX11_lay 91 = .ok (.invokevirtual 296, 3) := by decide +kernel
theorem dX11_lay_94 : decode cX11_lay 94 = .ok (.iastore, 1) := by decide +kernel
theorem dX11_lay_95 : decode cX11_lay 95 = .ok (.iinc 3 1, 3) := by decide +kernel
theorem dX11_lay_98 : decode cX11_lay 98 = .ok (.goto (-77), 3) := by decide +kernel
theorem dX11_lay_101 : decode cX11_lay 101 = .ok (.iinc 2 1, 3) := by decide +kernel
theorem dX11_lay_104 : decode cX11_lay 104 = .ok (.goto (-90), 3) := by decide +kernel
theorem dX11_lay_107 : decode cX11_lay 107 = .ok (.return_, 1) := by decide +kernel
theorem dX11_liveOf_0 : decode cX11_liveOf 0 = .ok (.aload_n 0, 1) := by decide +kernel
theorem dX11_liveOf_1 : decode cX11_liveOf 1 = .ok (.getfield 105, 3) := by decide +kernel
theorem dX11_liveOf_4 : decode cX11_liveOf 4 = .ok (.bipush 10, 2) := by decide +kernel
theorem dX11_liveOf_6 : decode cX11_liveOf 6 = .ok (.aload_n 0, 1) := by decide +kernel
theorem dX11_liveOf_7 : decode cX11_liveOf 7 = .ok (.getfield 16, 3) := by decide +kernel
theorem dX11_liveOf_10 : decode cX11_liveOf 10 = .ok (.iload_n 1, 1) := by decide +kernel
theorem dX11_liveOf_11 : decode cX11_liveOf 11 = .ok (.iaload, 1) := by decide +kernel
theorem dX11_liveOf_12 : decode cX11_liveOf 12 = .ok (.imul, 1) := by decide +kernel
theorem dX11_liveOf_13 : decode cX11_liveOf 13 = .ok (.iload_n 2, 1) := by decide +kernel
theorem dX11_liveOf_14 : decode cX11_liveOf 14 = .ok (.invokestatic 299, 3) := by decide +kernel
theorem dX11_liveOf_17 : decode cX11_liveOf 17 = .ok (.iadd, 1) := by decide +kernel
theorem dX11_liveOf_18 : decode cX11_liveOf 18 = .ok (.iaload, 1) := by decide +kernel
theorem dX11_liveOf_19 : decode cX11_liveOf 19 = .ok (.ireturn, 1) := by decide +kernel
theorem dX11_yearBack_0 : decode cX11_yearBack 0 = .ok (.sipush 1000, 3) := by decide +kernel
theorem dX11_yearBack_3 : decode cX11_yearBack 3 = .ok (.iload_n 1, 1) := by decide +kernel
theorem dX11_yearBack_4 : decode cX11_yearBack 4 = .ok (.iadd, 1) := by decide +kernel
theorem dX11_yearBack_5 : decode cX11_yearBack 5 = .ok (.iload_n 2, 1) := by decide +kernel
theorem dX11_yearBack_6 : decode cX11_yearBack 6 = .ok (.imul, 1) := by decide +kernel
theorem dX11_yearBack_7 : decode cX11_yearBack 7 = .ok (.sipush 1000, 3) := by decide +kernel
theorem dX11_yearBack_10 : decode cX11_yearBack 10 = .ok (.idiv, 1) := by decide +kernel
theorem dX11_yearBack_11 : decode cX11_yearBack 11 = .ok (.aload_n 0, 1) := by decide +kernel
theorem dX11_yearBack_12 : decode cX11_yearBack 12 = .ok (.getfield 86, 3) := by decide +kernel
theorem dX11_yearBack_15 : decode cX11_yearBack 15 = .ok (.iconst 2, 1) := by decide +kernel
theorem dX11_yearBack_16 : decode cX11_yearBack 16 = .ok (.iaload, 1) := by decide +kernel
theorem dX11_yearBack_17 : decode cX11_yearBack 17 = .ok (.imul, 1) := by decide +kernel
theorem dX11_yearBack_18 : decode cX11_yearBack 18 = .ok (.aload_n 0, 1) := by decide +kernel
theorem dX11_yearBack_19 : decode cX11_yearBack 19 = .ok (.getfield 86, 3) := by decide +kernel
theorem dX11_yearBack_22 : decode cX11_yearBack 22 = .ok (.iconst 2, 1) := by decide +kernel
theorem dX11_yearBack_23 : decode cX11_yearBack 23 = .ok (.iaload, 1) := by decide +kernel
theorem dX11_yearBack_24 : decode cX11_yearBack 24 = .ok (.iconst 1, 1) := by decide +kernel
theorem dX11_yearBack_25 : decode cX11_yearBack 25 = .ok (.iadd, 1) := by decide +kernel
theorem dX11_yearBack_26 : decode cX11_yearBack 26 = .ok (.idiv, 1) := by decide +kernel
theorem dX11_yearBack_27 : decode cX11_yearBack 27 = .ok (.ireturn, 1) := by decide +kernel
theorem dX11_worthOf_0 : decode cX11_worthOf 0 = .ok (.iconst 0, 1) := by decide +kernel
theorem dX11_worthOf_1 : decode cX11_worthOf 1 = .ok (.istore_n 2, 1) := by decide +kernel
theorem dX11_worthOf_2 : decode cX11_worthOf 2 = .ok (.bipush 99, 2) := by decide +kernel
theorem dX11_worthOf_4 : decode cX11_worthOf 4 = .ok (.istore_n 3, 1) := by decide +kernel
theorem dX11_worthOf_5 : decode cX11_worthOf 5 = .ok (.iload_n 3, 1) := by decide +kernel
theorem dX11_worthOf_6 : decode cX11_worthOf 6 = .ok (.aload_n 0, 1) := by decide +kernel
theorem dX11_worthOf_7 : decode cX11_worthOf 7 = .ok (.iload_n 1, 1) := by decide +kernel
theorem dX11_worthOf_8 : decode cX11_worthOf 8 = .ok (.aload_n 0, 1) := by decide +kernel
theorem dX11_worthOf_9 : decode cX11_worthOf 9 = .ok (.getfield 208, 3) := by decide +kernel
theorem dX11_worthOf_12 : decode cX11_worthOf 12 = .ok (.invokevirtual 214, 3) := by decide +kernel
theorem dX11_worthOf_15 : decode cX11_worthOf 15 = .ok (.if_icmp .lt 21, 3) := by decide +kernel
theorem dX11_worthOf_18 : decode cX11_worthOf 18 = .ok (.aload_n 0, 1) := by decide +kernel
theorem dX11_worthOf_19 : decode cX11_worthOf 19 = .ok (.iload_n 2, 1) := by decide +kernel
theorem dX11_worthOf_20 : decode cX11_worthOf 20 = .ok (.aload_n 0, 1) := by decide +kernel
theorem dX11_worthOf_21 : decode cX11_worthOf 21 = .ok (.iload_n 1, 1) := by decide +kernel
theorem dX11_worthOf_22 : decode cX11_worthOf 22 = .ok (.iload_n 3, 1) := by decide +kernel
theorem dX11_worthOf_23 : decode cX11_worthOf 23 = .ok (.invokevirtual 302, 3) := by decide +kernel
theorem dX11_worthOf_26 : decode cX11_worthOf 26 = .ok (.invokevirtual 305, 3) := by decide +kernel
theorem dX11_worthOf_29 : decode cX11_worthOf 29 = .ok (.istore_n 2, 1) := by decide +kernel
theorem dX11_worthOf_30 : decode cX11_worthOf 30 = .ok (.iinc 3 (-1), 3) := by decide +kernel
theorem dX11_worthOf_33 : decode cX11_worthOf 33 = .ok (.goto (-28), 3) := by decide +kernel
theorem dX11_worthOf_36 : decode cX11_worthOf 36 = .ok (.iload_n 2, 1) := by decide +kernel
theorem dX11_worthOf_37 : decode cX11_worthOf 37 = .ok (.ireturn, 1) := by decide +kernel
theorem dX11_bothOf_0 : decode cX11_bothOf 0 = .ok (.aload_n 0, 1) := by decide +kernel
theorem dX11_bothOf_1 : decode cX11_bothOf 1 = .ok (.iload_n 1, 1) := by decide +kernel
theorem dX11_bothOf_2 : decode cX11_bothOf 2 = .ok (.aload_n 0, 1) := by decide +kernel
theorem dX11_bothOf_3 : decode cX11_bothOf 3 = .ok (.getfield 208, 3) := by decide +kernel
theorem dX11_bothOf_6 : decode cX11_bothOf 6 = .ok (.invokevirtual 214, 3) := by decide +kernel
theorem dX11_bothOf_9 : decode cX11_bothOf 9 = .ok (.istore_n 3, 1) := by decide +kernel
theorem dX11_bothOf_10 : decode cX11_bothOf 10 = .ok (.aload_n 0, 1) := by decide +kernel
theorem dX11_bothOf_11 : decode cX11_bothOf 11 = .ok (.iload_n 2, 1) := by decide +kernel
theorem dX11_bothOf_12 : decode cX11_bothOf 12 = .ok (.aload_n 0, 1) := by decide +kernel
theorem dX11_bothOf_13 : decode cX11_bothOf 13 = .ok (.getfield 208, 3) := by decide +kernel
theorem dX11_bothOf_16 : decode cX11_bothOf 16 = .ok (.invokevirtual 214, 3) := by decide +kernel
theorem dX11_bothOf_19 : decode cX11_bothOf 19 = .ok (.istore 4, 2) := by decide +kernel
theorem dX11_bothOf_21 : decode cX11_bothOf 21 = .ok (.iconst 0, 1) := by decide +kernel
theorem dX11_bothOf_22 : decode cX11_bothOf 22 = .ok (.istore 5, 2) := by decide +kernel
theorem dX11_bothOf_24 : decode cX11_bothOf 24 = .ok (.bipush 99, 2) := by decide +kernel
theorem dX11_bothOf_26 : decode cX11_bothOf 26 = .ok (.iload_n 3, 1) := by decide +kernel
theorem dX11_bothOf_27 : decode cX11_bothOf 27 = .ok (.iload 4, 2) := by decide +kernel
theorem dX11_bothOf_29 : decode cX11_bothOf 29 = .ok (.if_icmp .le 7, 3) := by decide +kernel
theorem dX11_bothOf_32 : decode cX11_bothOf 32 = .ok (.iload_n 3, 1) := by decide +kernel
theorem dX11_bothOf_33 : decode cX11_bothOf 33 = .ok (.goto 5, 3) := by decide +kernel
theorem dX11_bothOf_36 : decode cX11_bothOf 36 = .ok (.iload 4, 2) := by decide +kernel
theorem dX11_bothOf_38 : decode cX11_bothOf 38 = .ok (.isub, 1) := by decide +kernel
theorem dX11_bothOf_39 : decode cX11_bothOf 39 = .ok (.istore 6, 2) := by decide +kernel
theorem dX11_bothOf_41 : decode cX11_bothOf 41 = .ok (.iload 6, 2) := by decide +kernel
theorem dX11_bothOf_43 : decode cX11_bothOf 43 = .ok (.ifCond .lt 41, 3) := by decide +kernel
theorem dX11_bothOf_46 : decode cX11_bothOf 46 = .ok (.aload_n 0, 1) := by decide +kernel
theorem dX11_bothOf_47 : decode cX11_bothOf 47 = .ok (.iload 5, 2) := by decide +kernel
theorem dX11_bothOf_49 : decode cX11_bothOf 49 = .ok (.aload_n 0, 1) := by decide +kernel
theorem dX11_bothOf_50 : decode cX11_bothOf 50 = .ok (.iload_n 1, 1) := by decide +kernel
theorem dX11_bothOf_51 : decode cX11_bothOf 51 = .ok (.iload_n 3, 1) := by decide +kernel
theorem dX11_bothOf_52 : decode cX11_bothOf 52 = .ok (.iload 6, 2) := by decide +kernel
theorem dX11_bothOf_54 : decode cX11_bothOf 54 = .ok (.iadd, 1) := by decide +kernel
theorem dX11_bothOf_55 : decode cX11_bothOf 55 = .ok (.invokevirtual 302, 3) := by decide +kernel
theorem dX11_bothOf_58 : decode cX11_bothOf 58 = .ok (.aload_n 0, 1) := by decide +kernel
theorem dX11_bothOf_59 : decode cX11_bothOf 59 = .ok (.iload_n 2, 1) := by decide +kernel
theorem dX11_bothOf_60 : decode cX11_bothOf 60 = .ok (.iload 4, 2) := by decide +kernel
theorem dX11_bothOf_62 : decode cX11_bothOf 62 = .ok (.iload 6, 2) := by decide +kernel
theorem dX11_bothOf_64 : decode cX11_bothOf 64 = .ok (.iadd, 1) := by decide +kernel
theorem dX11_bothOf_65 : decode cX11_bothOf 65 = .ok (.invokevirtual 302, 3) := by decide +kernel
theorem dX11_bothOf_68 : decode cX11_bothOf 68 = .ok (.imul, 1) := by decide +kernel
theorem dX11_bothOf_69 : decode cX11_bothOf 69 = .ok (.sipush 1000, 3) := by decide +kernel
theorem dX11_bothOf_72 : decode cX11_bothOf 72 = .ok (.idiv, 1) := by decide +kernel
theorem dX11_bothOf_73 : decode cX11_bothOf 73 = .ok (.invokevirtual 305, 3) := by decide +kernel
theorem dX11_bothOf_76 : decode cX11_bothOf 76 = .ok (.istore 5, 2) := by decide +kernel
theorem dX11_bothOf_78 : decode cX11_bothOf 78 = .ok (.iinc 6 (-1), 3) := by decide +kernel
theorem dX11_bothOf_81 : decode cX11_bothOf 81 = .ok (.goto (-40), 3) := by decide +kernel
theorem dX11_bothOf_84 : decode cX11_bothOf 84 = .ok (.iload 5, 2) := by decide +kernel
theorem dX11_bothOf_86 : decode cX11_bothOf 86 = .ok (.ireturn, 1) := by decide +kernel
theorem dX11_worthOn_0 : decode cX11_worthOn 0 = .ok (.iload_n 1, 1) := by decide +kernel
theorem dX11_worthOn_1 : decode cX11_worthOn 1 = .ok (.iconst (-1), 1) := by decide +kernel
theorem dX11_worthOn_2 : decode cX11_worthOn 2 = .ok (.if_icmp .ne 18, 3) := by decide +kernel
theorem dX11_worthOn_5 : decode cX11_worthOn 5 = .ok (.iload_n 2, 1) := by decide +kernel
theorem dX11_worthOn_6 : decode cX11_worthOn 6 = .ok (.iconst (-1), 1) := by decide +kernel
theorem dX11_worthOn_7 : decode cX11_worthOn 7 = .ok (.if_icmp .ne 7, 3) := by decide +kernel
theorem dX11_worthOn_10 : decode cX11_worthOn 10 = .ok (.iconst 0, 1) := by decide +kernel
theorem dX11_worthOn_11 : decode cX11_worthOn 11 = .ok (.goto 8, 3) := by decide +kernel
theorem dX11_worthOn_14 : decode cX11_worthOn 14 = .ok (.aload_n 0, 1) := by decide +kernel
theorem dX11_worthOn_15 : decode cX11_worthOn 15 = .ok (.iload_n 2, 1) := by decide +kernel
theorem dX11_worthOn_16 : decode cX11_worthOn 16 = .ok (.invokevirtual 308, 3) := by decide +kernel
theorem dX11_worthOn_19 : decode cX11_worthOn 19 = .ok (.ireturn, 1) := by decide +kernel
theorem dX11_worthOn_20 : decode cX11_worthOn 20 = .ok (.iload_n 2, 1) := by decide +kernel
theorem dX11_worthOn_21 : decode cX11_worthOn 21 = .ok (.iconst (-1), 1) := by decide +kernel
theorem dX11_worthOn_22 : decode cX11_worthOn 22 = .ok (.if_icmp .ne 11, 3) := by decide +kernel
theorem dX11_worthOn_25 : decode cX11_worthOn 25 = .ok (.aload_n 0, 1) := by decide +kernel
theorem dX11_worthOn_26 : decode cX11_worthOn 26 = .ok (.iload_n 1, 1) := by decide +kernel
theorem dX11_worthOn_27 : decode cX11_worthOn 27 = .ok (.invokevirtual 308, 3) := by decide +kernel
theorem dX11_worthOn_30 : decode cX11_worthOn 30 = .ok (.goto 21, 3) := by decide +kernel
theorem dX11_worthOn_33 : decode cX11_worthOn 33 = .ok (.aload_n 0, 1) := by decide +kernel
theorem dX11_worthOn_34 : decode cX11_worthOn 34 = .ok (.iload_n 1, 1) := by decide +kernel
theorem dX11_worthOn_35 : decode cX11_worthOn 35 = .ok (.invokevirtual 308, 3) := by decide +kernel
theorem dX11_worthOn_38 : decode cX11_worthOn 38 = .ok (.aload_n 0, 1) := by decide +kernel
theorem dX11_worthOn_39 : decode cX11_worthOn 39 = .ok (.iload_n 2, 1) := by decide +kernel
theorem dX11_worthOn_40 : decode cX11_worthOn 40 = .ok (.invokevirtual 308, 3) := by decide +kernel
theorem dX11_worthOn_43 : decode cX11_worthOn 43 = .ok (.iadd, 1) := by decide +kernel
theorem dX11_worthOn_44 : decode cX11_worthOn 44 = .ok (.aload_n 0, 1) := by decide +kernel
theorem dX11_worthOn_45 : decode cX11_worthOn 45 = .ok (.iload_n 1, 1) := by decide +kernel
theorem dX11_worthOn_46 : decode cX11_worthOn 46 = .ok (.iload_n 2, 1) := by decide +kernel
theorem dX11_worthOn_47 : decode cX11_worthOn 47 = .ok (.invokevirtual 311, 3) := by decide +kernel
theorem dX11_worthOn_50 : decode cX11_worthOn 50 = .ok (.isub, 1) := by decide +kernel
theorem dX11_worthOn_51 : decode cX11_worthOn 51 = .ok (.ireturn, 1) := by decide +kernel
theorem dX11_worth_0 : decode cX11_worth 0 = .ok (.aload_n 0, 1) := by decide +kernel
theorem dX11_worth_1 : decode cX11_worth 1 = .ok (.iconst 0, 1) := by decide +kernel
theorem dX11_worth_2 : decode cX11_worth 2 = .ok (.putfield 129, 3) := by decide +kernel
theorem dX11_worth_5 : decode cX11_worth 5 = .ok (.aload_n 0, 1) := by decide +kernel
theorem dX11_worth_6 : decode cX11_worth 6 = .ok (.iload_n 1, 1) := by decide +kernel
theorem dX11_worth_7 : decode cX11_worth 7 = .ok (.invokevirtual 221, 3) := by decide +kernel
theorem dX11_worth_10 : decode cX11_worth 10 = .ok (.ifCond .eq 63, 3) := by decide +kernel
theorem dX11_worth_13 : decode cX11_worth 13 = .ok (.iload_n 2, 1) := by decide +kernel
theorem dX11_worth_14 : decode cX11_worth 14 = .ok (.iconst (-1), 1) := by decide +kernel
theorem dX11_worth_15 : decode cX11_worth 15 = .ok (.if_icmp .eq 16, 3) := by decide +kernel
theorem dX11_worth_18 : decode cX11_worth 18 = .ok (.aload_n 0, 1) := by decide +kernel
theorem dX11_worth_19 : decode cX11_worth 19 = .ok (.iload_n 2, 1) := by decide +kernel
theorem dX11_worth_20 : decode cX11_worth 20 = .ok (.invokevirtual 221, 3) := by decide +kernel
theorem dX11_worth_23 : decode cX11_worth 23 = .ok (.ifCond .eq 50, 3) := by decide +kernel
theorem dX11_worth_26 : decode cX11_worth 26 = .ok (.iload_n 1, 1) := by decide +kernel
theorem dX11_worth_27 : decode cX11_worth 27 = .ok (.iload_n 2, 1) := by decide +kernel
theorem dX11_worth_28 : decode cX11_worth 28 = .ok (.if_icmp .eq 45, 3) := by decide +kernel
theorem dX11_worth_31 : decode cX11_worth 31 = .ok (.iload_n 3, 1) := by decide +kernel
theorem dX11_worth_32 : decode cX11_worth 32 = .ok (.iconst 0, 1) := by decide +kernel
theorem dX11_worth_33 : decode cX11_worth 33 = .ok (.iconst 3, 1) := by decide +kernel
theorem dX11_worth_34 : decode cX11_worth 34 = .ok (.invokestatic 204, 3) := by decide +kernel
theorem dX11_worth_37 : decode cX11_worth 37 = .ok (.ifCond .eq 36, 3) := by decide +kernel
theorem dX11_worth_40 : decode cX11_worth 40 = .ok (.aload_n 0, 1) := by decide +kernel
theorem dX11_worth_41 : decode cX11_worth 41 = .ok (.iload_n 1, 1) := by decide +kernel
theorem dX11_worth_42 : decode cX11_worth 42 = .ok (.aload_n 0, 1) := by decide +kernel
theorem dX11_worth_43 : decode cX11_worth 43 = .ok (.getfield 208, 3) := by decide +kernel
theorem dX11_worth_46 : decode cX11_worth 46 = .ok (.invokevirtual 214, 3) := by decide +kernel
theorem dX11_worth_49 : decode cX11_worth 49 = .ok (.bipush 99, 2) := by decide +kernel
theorem dX11_worth_51 : decode cX11_worth 51 = .ok (.if_icmp .gt 22, 3) := by decide +kernel
theorem dX11_worth_54 : decode cX11_worth 54 = .ok (.iload_n 2, 1) := by decide +kernel
theorem dX11_worth_55 : decode cX11_worth 55 = .ok (.iconst (-1), 1) := by decide +kernel
theorem dX11_worth_56 : decode cX11_worth 56 = .ok (.if_icmp .eq 19, 3) := by decide +kernel
theorem dX11_worth_59 : decode cX11_worth 59 = .ok (.aload_n 0, 1) := by decide +kernel
theorem dX11_worth_60 : decode cX11_worth 60 = .ok (.iload_n 2, 1) := by decide +kernel
theorem dX11_worth_61 : decode cX11_worth 61 = .ok (.aload_n 0, 1) := by decide +kernel
theorem dX11_worth_62 : decode cX11_worth 62 = .ok (.getfield 208, 3) := by decide +kernel
theorem dX11_worth_65 : decode cX11_worth 65 = .ok (.invokevirtual 214, 3) := by decide +kernel
theorem dX11_worth_68 : decode cX11_worth 68 = .ok (.bipush 99, 2) := by decide +kernel
theorem dX11_worth_70 : decode cX11_worth 70 = .ok (.if_icmp .le 5, 3) := by decide +kernel
theorem dX11_worth_73 : decode cX11_worth 73 = .ok (.iconst (-1), 1) := by decide +kernel
theorem dX11_worth_74 : decode cX11_worth 74 = .ok (.ireturn, 1) := by decide +kernel
theorem dX11_worth_75 : decode cX11_worth 75 = .ok (.aload_n 0, 1) := by decide +kernel
theorem dX11_worth_76 : decode cX11_worth 76 = .ok (.iload_n 3, 1) := by decide +kernel
theorem dX11_worth_77 : decode cX11_worth 77 = .ok (.invokevirtual 314, 3) := by decide +kernel
theorem dX11_worth_80 : decode cX11_worth 80 = .ok (.aload_n 0, 1) := by decide +kernel
theorem dX11_worth_81 : decode cX11_worth 81 = .ok (.iload_n 1, 1) := by decide +kernel
theorem dX11_worth_82 : decode cX11_worth 82 = .ok (.iload_n 2, 1) := by decide +kernel
theorem dX11_worth_83 : decode cX11_worth 83 = .ok (.invokevirtual 317, 3) := by decide +kernel
theorem dX11_worth_86 : decode cX11_worth 86 = .ok (.ireturn, 1) := by decide +kernel
theorem dX11_names_0 : decode cX11_names 0 = .ok (.aload_n 0, 1) := by decide +kernel
theorem dX11_names_1 : decode cX11_names 1 = .ok (.iconst 0, 1) := by decide +kernel
theorem dX11_names_2 : decode cX11_names 2 = .ok (.putfield 129, 3) := by decide +kernel
theorem dX11_names_5 : decode cX11_names 5 = .ok (.iload_n 1, 1) := by decide +kernel
theorem dX11_names_6 : decode cX11_names 6 = .ok (.iconst 0, 1) := by decide +kernel
theorem dX11_names_7 : decode cX11_names 7 = .ok (.ldc_w 320, 3) := by decide +kernel
theorem dX11_names_10 : decode cX11_names 10 = .ok (.invokestatic 204, 3) := by decide +kernel
theorem dX11_names_13 : decode cX11_names 13 = .ok (.ifCond .ne 7, 3) := by decide +kernel
theorem dX11_names_16 : decode cX11_names 16 = .ok (.ldc_w 321, 3) := by decide +kernel
theorem dX11_names_19 : decode cX11_names 19 = .ok (.ireturn, 1) := by decide +kernel
theorem dX11_names_20 : decode cX11_names 20 = .ok (.aload_n 0, 1) := by decide +kernel
theorem dX11_names_21 : decode cX11_names 21 = .ok (.aload_n 0, 1) := by decide +kernel
theorem dX11_names_22 : decode cX11_names 22 = .ok (.getfield 208, 3) := by decide +kernel
theorem dX11_names_25 : decode cX11_names 25 = .ok (.invokevirtual 257, 3) := by decide +kernel
theorem dX11_names_28 : decode cX11_names 28 = .ok (.iconst 0, 1) := by decide +kernel
theorem dX11_names_29 : decode cX11_names 29 = .ok (.istore_n 2, 1) := by decide +kernel
theorem dX11_names_30 : decode cX11_names 30 = .ok (.iconst 1, 1) := by decide +kernel
theorem dX11_names_31 : decode cX11_names 31 = .ok (.istore_n 3, 1) := by decide +kernel
theorem dX11_names_32 : decode cX11_names 32 = .ok (.iconst 0, 1) := by decide +kernel
theorem dX11_names_33 : decode cX11_names 33 = .ok (.istore 4, 2) := by decide +kernel
theorem dX11_names_35 : decode cX11_names 35 = .ok (.iload 4, 2) := by decide +kernel
theorem dX11_names_37 : decode cX11_names 37 = .ok (.aload_n 0, 1) := by decide +kernel
theorem dX11_names_38 : decode cX11_names 38 = .ok (.getfield 211, 3) := by decide +kernel
theorem dX11_names_41 : decode cX11_names 41 = .ok (.if_icmp .ge 66, 3) := by decide +kernel
theorem dX11_names_44 : decode cX11_names 44 = .ok (.aload_n 0, 1) := by decide +kernel
theorem dX11_names_45 : decode cX11_names 45 = .ok (.getfield 96, 3) := by decide +kernel
theorem dX11_names_48 : decode cX11_names 48 = .ok (.iload 4, 2) := by decide +kernel
theorem dX11_names_50 : decode cX11_names 50 = .ok (.iaload, 1) := by decide +kernel
theorem dX11_names_51 : decode cX11_names 51 = .ok (.iconst (-1), 1) := by decide +kernel
theorem dX11_names_52 : decode cX11_names 52 = .ok (.if_icmp .ne 49, 3) := by decide +kernel
theorem dX11_names_55 : decode cX11_names 55 = .ok (.aload_n 0, 1) := by decide +kernel
theorem dX11_names_56 : decode cX11_names 56 = .ok (.iload 4, 2) := by decide +kernel
theorem dX11_names_58 : decode cX11_names 58 = .ok (.iconst (-1), 1) := by decide +kernel
theorem dX11_names_59 : decode cX11_names 59 = .ok (.invokevirtual 224, 3) := by decide +kernel
theorem dX11_names_62 : decode cX11_names 62 = .ok (.ifCond .ne 6, 3) := by decide +kernel
theorem dX11_names_65 : decode cX11_names 65 = .ok (.goto 36, 3) := by decide +kernel
theorem dX11_names_68 : decode cX11_names 68 = .ok (.aload_n 0, 1) := by decide +kernel
theorem dX11_names_69 : decode cX11_names 69 = .ok (.getfield 114, 3) := by decide +kernel
theorem dX11_names_72 : decode cX11_names 72 = .ok (.iload_n 2, 1) := by decide +kernel
theorem dX11_names_73 : decode cX11_names 73 = .ok (.iload 4, 2) := by decide +kernel
theorem dX11_names_75 : decode cX11_names 75 = .ok (.iastore, 1) := by decide +kernel
theorem dX11_names_76 : decode cX11_names 76 = .ok (.iinc 2 1, 3) := by decide +kernel
theorem dX11_names_79 : decode cX11_names 79 = .ok (.iload_n 3, 1) := by decide +kernel
theorem dX11_names_80 : decode cX11_names 80 = .ok (.sipush 5000, 3) := by decide +kernel
theorem dX11_names_83 : decode cX11_names 83 = .ok (.if_icmp .le 7, 3) := by decide +kernel
theorem dX11_names_86 : decode cX11_names 86 = .ok (.iload_n 3, 1) := by decide +kernel
theorem dX11_names_87 : decode cX11_names 87 = .ok (.goto 13, 3) := by decide +kernel
theorem dX11_names_90 : decode cX11_names 90 = .ok (.iload_n 3, 1) := by decide +kernel
theorem dX11_names_91 : decode cX11_names 91 = .ok (.aload_n 0, 1) := by decide +kernel
theorem dX11_names_92 : decode cX11_names 92 = .ok (.getfield 86, 3) := by decide +kernel
theorem dX11_names_95 : decode cX11_names 95 = .ok (.iconst 3, 1) := by decide +kernel
theorem dX11_names_96 : decode cX11_names 96 = .ok (.iaload, 1) := by decide +kernel
theorem dX11_names_97 : decode cX11_names 97 = .ok (.iconst 1, 1) := by decide +kernel
theorem dX11_names_98 : decode cX11_names 98 = .ok (.iadd, 1) := by decide +kernel
theorem dX11_names_99 : decode cX11_names 99 = .ok (.imul, 1) := by decide +kernel
theorem dX11_names_100 : decode cX11_names 100 = .ok (.istore_n 3, 1) := by decide +kernel
theorem dX11_names_101 : decode cX11_names 101 = .ok (.iinc 4 1, 3) := by decide +kernel
theorem dX11_names_104 : decode cX11_names 104 = .ok (.goto (-69), 3) := by decide +kernel
theorem dX11_names_107 : decode cX11_names 107 = .ok (.iload_n 3, 1) := by decide +kernel
theorem dX11_names_108 : decode cX11_names 108 = .ok (.sipush 5000, 3) := by decide +kernel
theorem dX11_names_111 : decode cX11_names 111 = .ok (.if_icmp .le 7, 3) := by decide +kernel
theorem dX11_names_114 : decode cX11_names 114 = .ok (.ldc_w 321, 3) := by decide +kernel
theorem dX11_names_117 : decode cX11_names 117 = .ok (.ireturn, 1) := by decide +kernel
theorem dX11_names_118 : decode cX11_names 118 = .ok (.aload_n 0, 1) := by decide +kernel
theorem dX11_names_119 : decode cX11_names 119 = .ok (.iconst 0, 1) := by decide +kernel
theorem dX11_names_120 : decode cX11_names 120 = .ok (.invokevirtual 314, 3) := by decide +kernel
theorem dX11_names_123 : decode cX11_names 123 = .ok (.iconst 0, 1) := by decide +kernel
theorem dX11_names_124 : decode cX11_names 124 = .ok (.istore 4, 2) := by decide +kernel
theorem dX11_names_126 : decode cX11_names 126 = .ok (.iload 4, 2) := by decide +kernel
theorem dX11_names_128 : decode cX11_names 128 = .ok (.iload_n 2, 1) := by decide +kernel
theorem dX11_names_129 : decode cX11_names 129 = .ok (.if_icmp .ge 60, 3) := by decide +kernel
theorem dX11_names_132 : decode cX11_names 132 = .ok (.aload_n 0, 1) := by decide +kernel
theorem dX11_names_133 : decode cX11_names 133 = .ok (.getfield 120, 3) := by decide +kernel
theorem dX11_names_136 : decode cX11_names 136 = .ok (.iload 4, 2) := by decide +kernel
theorem dX11_names_138 : decode cX11_names 138 = .ok (.aload_n 0, 1) := by decide +kernel
theorem dX11_names_139 : decode cX11_names 139 = .ok (.aload_n 0, 1) := by decide +kernel
theorem dX11_names_140 : decode cX11_names 140 = .ok (.getfield 114, 3) := by decide +kernel
theorem dX11_names_143 : decode cX11_names 143 = .ok (.iload 4, 2) := by decide +kernel
theorem dX11_names_145 : decode cX11_names 145 = .ok (.iaload, 1) := by decide +kernel
theorem dX11_names_146 : decode cX11_names 146 = .ok (.iconst (-1), 1) := by decide +kernel
theorem dX11_names_147 : decode cX11_names 147 = .ok (.invokevirtual 227, 3) := by decide +kernel
theorem dX11_names_150 : decode cX11_names 150 = .ok (.iastore, 1) := by decide +kernel
theorem dX11_names_151 : decode cX11_names 151 = .ok (.aload_n 0, 1) := by decide +kernel
theorem dX11_names_152 : decode cX11_names 152 = .ok (.getfield 117, 3) := by decide +kernel
theorem dX11_names_155 : decode cX11_names 155 = .ok (.iload 4, 2) := by decide +kernel
theorem dX11_names_157 : decode cX11_names 157 = .ok (.iconst 2, 1) := by decide +kernel
theorem dX11_names_158 : decode cX11_names 158 = .ok (.aload_n 0, 1) := by decide +kernel
theorem dX11_names_159 : decode cX11_names 159 = .ok (.aload_n 0, 1) := by decide +kernel
theorem dX11_names_160 : decode cX11_names 160 = .ok (.getfield 114, 3) := by decide +kernel
theorem dX11_names_163 : decode cX11_names 163 = .ok (.iload 4, 2) := by decide +kernel
theorem dX11_names_165 : decode cX11_names 165 = .ok (.iaload, 1) := by decide +kernel
theorem dX11_names_166 : decode cX11_names 166 = .ok (.invokevirtual 308, 3) := by decide +kernel
theorem dX11_names_169 : decode cX11_names 169 = .ok (.imul, 1) := by decide +kernel
theorem dX11_names_170 : decode cX11_names 170 = .ok (.sipush 1000, 3) := by decide +kernel
theorem dX11_names_173 : decode cX11_names 173 = .ok (.aload_n 0, 1) := by decide +kernel
theorem dX11_names_174 : decode cX11_names 174 = .ok (.getfield 120, 3) := by decide +kernel
theorem dX11_names_177 : decode cX11_names 177 = .ok (.iload 4, 2) := by decide +kernel
theorem dX11_names_179 : decode cX11_names 179 = .ok (.iaload, 1) := by decide +kernel
theorem dX11_names_180 : decode cX11_names 180 = .ok (.imul, 1) := by decide +kernel
theorem dX11_names_181 : decode cX11_names 181 = .ok (.isub, 1) := by decide +kernel
theorem dX11_names_182 : decode cX11_names 182 = .ok (.iastore, 1) := by decide +kernel
theorem dX11_names_183 : decode cX11_names 183 = .ok (.iinc 4 1, 3) := by decide +kernel
theorem dX11_names_186 : decode cX11_names 186 = .ok (.goto (-60), 3) := by decide +kernel
theorem dX11_names_189 : decode cX11_names 189 = .ok (.iconst 0, 1) := by decide +kernel
theorem dX11_names_190 : decode cX11_names 190 = .ok (.istore 4, 2) := by decide +kernel
theorem dX11_names_192 : decode cX11_names 192 = .ok (.iconst 0, 1) := by decide +kernel
theorem dX11_names_193 : decode cX11_names 193 = .ok (.istore 5, 2) := by decide +kernel
theorem dX11_names_195 : decode cX11_names 195 = .ok (.iconst 0, 1) := by decide +kernel
theorem dX11_names_196 : decode cX11_names 196 = .ok (.istore 6, 2) := by decide +kernel
theorem dX11_names_198 : decode cX11_names 198 = .ok (.iconst 0, 1) := by decide +kernel
theorem dX11_names_199 : decode cX11_names 199 = .ok (.istore 7, 2) := by decide +kernel
theorem dX11_names_201 : decode cX11_names 201 = .ok (.iload 7, 2) := by decide +kernel
theorem dX11_names_203 : decode cX11_names 203 = .ok (.iload_n 3, 1) := by decide +kernel
theorem dX11_names_204 : decode cX11_names 204 = .ok (.if_icmp .ge 210, 3) := by decide +kernel
theorem dX11_names_207 : decode cX11_names 207 = .ok (.iload 7, 2) := by decide +kernel
theorem dX11_names_209 : decode cX11_names 209 = .ok (.istore 8, 2) := by decide +kernel
theorem dX11_names_211 : decode cX11_names 211 = .ok (.iconst 0, 1) := by decide +kernel
theorem dX11_names_212 : decode cX11_names 212 = .ok (.istore 9, 2) := by decide +kernel
theorem dX11_names_214 : decode cX11_names 214 = .ok (.iconst 0, 1) := by decide +kernel
theorem dX11_names_215 : decode cX11_names 215 = .ok (.istore 10, 2) := by decide +kernel
theorem dX11_names_217 : decode cX11_names 217 = .ok (.iload_n 2, 1) := by decide +kernel
theorem dX11_names_218 : decode cX11_names 218 = .ok (.iconst 1, 1) := by decide +kernel
theorem dX11_names_219 : decode cX11_names 219 = .ok (.isub, 1) := by decide +kernel
theorem dX11_names_220 : decode cX11_names 220 = .ok (.istore 11, 2) := by decide +kernel
theorem dX11_names_222 : decode cX11_names 222 = .ok (.iload 11, 2) := by decide +kernel
theorem dX11_names_224 : decode cX11_names 224 = .ok (.ifCond .lt 80, 3) := by decide +kernel
theorem dX11_names_227 : decode cX11_names 227 = .ok (.aload_n 0, 1) := by decide +kernel
theorem dX11_names_228 : decode cX11_names 228 = .ok (.getfield 111, 3) := by decide +kernel
theorem dX11_names_231 : decode cX11_names 231 = .ok (.iload 11, 2) := by decide +kernel
theorem dX11_names_233 : decode cX11_names 233 = .ok (.iload 8, 2) := by decide +kernel
theorem dX11_names_235 : decode cX11_names 235 = .ok (.aload_n 0, 1) := by decide +kernel
theorem dX11_names_236 : decode cX11_names 236 = .ok (.getfield 86, 3) := by decide +kernel
theorem dX11_names_239 : decode cX11_names 239 = .ok (.iconst 3, 1) := by decide +kernel
theorem dX11_names_240 : decode cX11_names 240 = .ok (.iaload, 1) := by decide +kernel
theorem dX11_names_241 : decode cX11_names 241 = .ok (.iconst 1, 1) := by decide +kernel
theorem dX11_names_242 : decode cX11_names 242 = .ok (.iadd, 1) := by decide +kernel
theorem dX11_names_243 : decode cX11_names 243 = .ok (.irem, 1) := by decide +kernel
theorem dX11_names_244 : decode cX11_names 244 = .ok (.iastore, 1) := by decide +kernel
theorem dX11_names_245 : decode cX11_names 245 = .ok (.iload 8, 2) := by decide +kernel
theorem dX11_names_247 : decode cX11_names 247 = .ok (.aload_n 0, 1) := by decide +kernel
theorem dX11_names_248 : decode cX11_names 248 = .ok (.getfield 86, 3) := by decide +kernel
theorem dX11_names_251 : decode cX11_names 251 = .ok (.iconst 3, 1) := by decide +kernel
theorem dX11_names_252 : decode cX11_names 252 = .ok (.iaload, 1) := by decide +kernel
theorem dX11_names_253 : decode cX11_names 253 = .ok (.iconst 1, 1) := by decide +kernel
theorem dX11_names_254 : decode cX11_names 254 = .ok (.iadd, 1) := by decide +kernel
theorem dX11_names_255 : decode cX11_names 255 = .ok (.idiv, 1) := by decide +kernel
theorem dX11_names_256 : decode cX11_names 256 = .ok (.istore 8, 2) := by decide +kernel
theorem dX11_names_258 : decode cX11_names 258 = .ok (.iload 9, 2) := by decide +kernel
theorem dX11_names_260 : decode cX11_names 260 = .ok (.aload_n 0, 1) := by decide +kernel
theorem dX11_names_261 : decode cX11_names 261 = .ok (.getfield 111, 3) := by decide +kernel
theorem dX11_names_264 : decode cX11_names 264 = .ok (.iload 11, 2) := by decide +kernel
theorem dX11_names_266 : decode cX11_names 266 = .ok (.iaload, 1) := by decide +kernel
theorem dX11_names_267 : decode cX11_names 267 = .ok (.aload_n 0, 1) := by decide +kernel
theorem dX11_names_268 : decode cX11_names 268 = .ok (.getfield 117, 3) := by decide +kernel
theorem dX11_names_271 : decode cX11_names 271 = .ok (.iload 11, 2) := by decide +kernel
theorem dX11_names_273 : decode cX11_names 273 = .ok (.iaload, 1) := by decide +kernel
theorem dX11_names_274 : decode cX11_names 274 = .ok (.imul, 1) := by decide +kernel
theorem dX11_names_275 : decode cX11_names 275 = .ok (.iadd, 1) := by decide +kernel
theorem dX11_names_276 : decode cX11_names 276 = .ok (.istore 9, 2) := by decide +kernel
theorem dX11_names_278 : decode cX11_names 278 = .ok (.iload 10, 2) := by decide +kernel
theorem dX11_names_280 : decode cX11_names 280 = .ok (.aload_n 0, 1) := by decide +kernel
theorem dX11_names_281 : decode cX11_names 281 = .ok (.getfield 111, 3) := by decide +kernel
theorem dX11_names_284 : decode cX11_names 284 = .ok (.iload 11, 2) := by decide +kernel
theorem dX11_names_286 : decode cX11_names 286 = .ok (.iaload, 1) := by decide +kernel
theorem dX11_names_287 : decode cX11_names 287 = .ok (.aload_n 0, 1) := by decide +kernel
theorem dX11_names_288 : decode cX11_names 288 = .ok (.getfield 120, 3) := by decide +kernel
theorem dX11_names_291 : decode cX11_names 291 = .ok (.iload 11, 2) := by decide +kernel
theorem dX11_names_293 : decode cX11_names 293 = .ok (.iaload, 1) := by decide +kernel
theorem dX11_names_294 : decode cX11_names 294 = .ok (.imul, 1) := by decide +kernel
theorem dX11_names_295 : decode cX11_names 295 = .ok (.iadd, 1) := by decide +kernel
theorem dX11_names_296 : decode cX11_names 296 = .ok (.istore 10, 2) := by decide +kernel
theorem dX11_names_298 : decode cX11_names 298 = .ok (.iinc 11 (-1), 3) := by decide +kernel
theorem dX11_names_301 : decode cX11_names 301 = .ok (.goto (-79), 3) := by decide +kernel
theorem dX11_names_304 : decode cX11_names 304 = .ok (.iload 10, 2) := by decide +kernel
theorem dX11_names_306 : decode cX11_names 306 = .ok (.iload_n 1, 1) := by decide +kernel
theorem dX11_names_307 : decode cX11_names 307 = .ok (.if_icmp .gt 101, 3) := by decide +kernel
theorem dX11_names_310 : decode cX11_names 310 = .ok (.iload 4, 2) := by decide +kernel
theorem dX11_names_312 : decode cX11_names 312 = .ok (.ifCond .eq 27, 3) := by decide +kernel
theorem dX11_names_315 : decode cX11_names 315 = .ok (.iload 9, 2) := by decide +kernel
theorem dX11_names_317 : decode cX11_names 317 = .ok (.iload 5, 2) := by decide +kernel
theorem dX11_names_319 : decode cX11_names 319 = .ok (.if_icmp .lt 89, 3) := by decide +kernel
theorem dX11_names_322 : decode cX11_names 322 = .ok (.iload 9, 2) := by decide +kernel
theorem dX11_names_324 : decode cX11_names 324 = .ok (.iload 5, 2) := by decide +kernel
theorem dX11_names_326 : decode cX11_names 326 = .ok (.if_icmp .ne 13, 3) := by decide +kernel
theorem dX11_names_329 : decode cX11_names 329 = .ok (.iload 10, 2) := by decide +kernel
theorem dX11_names_331 : decode cX11_names 331 = .ok (.iload 6, 2) := by decide +kernel
theorem dX11_names_333 : decode cX11_names 333 = .ok (.if_icmp .lt 6, 3) := by decide +kernel
theorem dX11_names_336 : decode cX11_names 336 = .ok (.goto 72, 3) := by decide +kernel
theorem dX11_names_339 : decode cX11_names 339 = .ok (.iconst 1, 1) := by decide +kernel
theorem dX11_names_340 : decode cX11_names 340 = .ok (.istore 4, 2) := by decide +kernel
theorem dX11_names_342 : decode cX11_names 342 = .ok (.iload 9, 2) := by decide +kernel
theorem dX11_names_344 : decode cX11_names 344 = .ok (.istore 5, 2) := by decide +kernel
theorem dX11_names_346 : decode cX11_names 346 = .ok (.iload 10, 2) := by decide +kernel
theorem dX11_names_348 : decode cX11_names 348 = .ok (.istore 6, 2) := by decide +kernel
theorem dX11_names_350 : decode cX11_names 350 = .ok (.iconst 0, 1) := by decide +kernel
theorem dX11_names_351 : decode cX11_names 351 = .ok (.istore 11, 2) := by decide +kernel
theorem dX11_names_353 : decode cX11_names 353 = .ok (.iload 11, 2) := by decide +kernel
theorem dX11_names_355 : decode cX11_names 355 = .ok (.bipush 12, 2) := by decide +kernel
theorem dX11_names_357 : decode cX11_names 357 = .ok (.if_icmp .ge 17, 3) := by decide +kernel
theorem dX11_names_360 : decode cX11_names 360 = .ok (.aload_n 0, 1) := by decide +kernel
theorem dX11_names_361 : decode cX11_names 361 = .ok (.getfield 108, 3) := by decide +kernel
theorem dX11_names_364 : decode cX11_names 364 = .ok (.iload 11, 2) := by decide +kernel
theorem dX11_names_366 : decode cX11_names 366 = .ok (.iconst 0, 1) := by decide +kernel
theorem dX11_names_367 : decode cX11_names 367 = .ok (.iastore, 1) := by decide +kernel
theorem dX11_names_368 : decode cX11_names 368 = .ok (.iinc 11 1, 3) := by decide +kernel
theorem dX11_names_371 : decode cX11_names 371 = .ok (.goto (-18), 3) := by decide +kernel
theorem dX11_names_374 : decode cX11_names 374 = .ok (.iconst 0, 1) := by decide +kernel
theorem dX11_names_375 : decode cX11_names 375 = .ok (.istore 11, 2) := by decide +kernel
theorem dX11_names_377 : decode cX11_names 377 = .ok (.iload 11, 2) := by decide +kernel
theorem dX11_names_379 : decode cX11_names 379 = .ok (.iload_n 2, 1) := by decide +kernel
theorem dX11_names_380 : decode cX11_names 380 = .ok (.if_icmp .ge 28, 3) := by decide +kernel
theorem dX11_names_383 : decode cX11_names 383 = .ok (.aload_n 0, 1) := by decide +kernel
theorem dX11_names_384 : decode cX11_names 384 = .ok (.getfield 108, 3) := by decide +kernel
theorem dX11_names_387 : decode cX11_names 387 = .ok (.aload_n 0, 1) := by decide +kernel
theorem dX11_names_388 : decode cX11_names 388 = .ok (.getfield 114, 3) := by decide +kernel
theorem dX11_names_391 : decode cX11_names 391 = .ok (.iload 11, 2) := by decide +kernel
theorem dX11_names_393 : decode cX11_names 393 = .ok (.iaload, 1) := by decide +kernel
theorem dX11_names_394 : decode cX11_names 394 = .ok (.aload_n 0, 1) := by decide +kernel
theorem dX11_names_395 : decode cX11_names 395 = .ok (.getfield 111, 3) := by decide +kernel
theorem dX11_names_398 : decode cX11_names 398 = .ok (.iload 11, 2) := by decide +kernel
theorem dX11_names_400 : decode cX11_names 400 = .ok (.iaload, 1) := by decide +kernel
theorem dX11_names_401 : decode cX11_names 401 = .ok (.iastore, 1) := by decide +kernel
theorem dX11_names_402 : decode cX11_names 402 = .ok (.iinc 11 1, 3) := by decide +kernel
theorem dX11_names_405 : decode cX11_names 405 = .ok (.goto (-28), 3) := by decide +kernel
theorem dX11_names_408 : decode cX11_names 408 = .ok (.iinc 7 1, 3) := by decide +kernel
theorem dX11_names_411 : decode cX11_names 411 = .ok (.goto (-210), 3) := by decide +kernel
theorem dX11_names_414 : decode cX11_names 414 = .ok (.aload_n 0, 1) := by decide +kernel
theorem dX11_names_415 : decode cX11_names 415 = .ok (.iconst 1, 1) := by decide +kernel
theorem dX11_names_416 : decode cX11_names 416 = .ok (.putfield 322, 3) := by decide +kernel
theorem dX11_names_419 : decode cX11_names 419 = .ok (.iload 5, 2) := by decide +kernel
theorem dX11_names_421 : decode cX11_names 421 = .ok (.ireturn, 1) := by decide +kernel
theorem dX11_named_0 : decode cX11_named 0 = .ok (.aload_n 0, 1) := by decide +kernel
theorem dX11_named_1 : decode cX11_named 1 = .ok (.iconst 0, 1) := by decide +kernel
theorem dX11_named_2 : decode cX11_named 2 = .ok (.putfield 129, 3) := by decide +kernel
theorem dX11_named_5 : decode cX11_named 5 = .ok (.aload_n 0, 1) := by decide +kernel
theorem dX11_named_6 : decode cX11_named 6 = .ok (.getfield 322, 3) := by decide +kernel
theorem dX11_named_9 : decode cX11_named 9 = .ok (.ifCond .eq 20, 3) := by decide +kernel
theorem dX11_named_12 : decode cX11_named 12 = .ok (.aload_n 0, 1) := by decide +kernel
theorem dX11_named_13 : decode cX11_named 13 = .ok (.iload_n 1, 1) := by decide +kernel
theorem dX11_named_14 : decode cX11_named 14 = .ok (.invokevirtual 221, 3) := by decide +kernel
theorem dX11_named_17 : decode cX11_named 17 = .ok (.ifCond .eq 12, 3) := by decide +kernel
theorem dX11_named_20 : decode cX11_named 20 = .ok (.aload_n 0, 1) := by decide +kernel
theorem dX11_named_21 : decode cX11_named 21 = .ok (.getfield 108, 3) := by decide +kernel
theorem dX11_named_24 : decode cX11_named 24 = .ok (.iload_n 1, 1) := by decide +kernel
theorem dX11_named_25 : decode cX11_named 25 = .ok (.iaload, 1) := by decide +kernel
theorem dX11_named_26 : decode cX11_named 26 = .ok (.goto 4, 3) := by decide +kernel
theorem dX11_named_29 : decode cX11_named 29 = .ok (.iconst (-1), 1) := by decide +kernel
theorem dX11_named_30 : decode cX11_named 30 = .ok (.ireturn, 1) := by decide +kernel
theorem dX11_riskOf_0 : decode cX11_riskOf 0 = .ok (.iconst 0, 1) := by decide +kernel
theorem dX11_riskOf_1 : decode cX11_riskOf 1 = .ok (.istore_n 2, 1) := by decide +kernel
theorem dX11_riskOf_2 : decode cX11_riskOf 2 = .ok (.iconst (-1), 1) := by decide +kernel
theorem dX11_riskOf_3 : decode cX11_riskOf 3 = .ok (.istore_n 3, 1) := by decide +kernel
theorem dX11_riskOf_4 : decode cX11_riskOf 4 = .ok (.iconst 0, 1) := by decide +kernel
theorem dX11_riskOf_5 : decode cX11_riskOf 5 = .ok (.istore 4, 2) := by decide +kernel
theorem dX11_riskOf_7 : decode cX11_riskOf 7 = .ok (.iload 4, 2) := by decide +kernel
theorem dX11_riskOf_9 : decode cX11_riskOf 9 = .ok (.aload_n 0, 1) := by decide +kernel
theorem dX11_riskOf_10 : decode cX11_riskOf 10 = .ok (.getfield 233, 3) := by decide +kernel
theorem dX11_riskOf_13 : decode cX11_riskOf 13 = .ok (.if_icmp .ge 57, 3) := by decide +kernel
theorem dX11_riskOf_16 : decode cX11_riskOf 16 = .ok (.aload_n 0, 1) := by decide +kernel
theorem dX11_riskOf_17 : decode cX11_riskOf 17 = .ok (.getfield 25, 3) := by decide +kernel
theorem dX11_riskOf_20 : decode cX11_riskOf 20 = .ok (.iload 4, 2) := by decide +kernel
theorem dX11_riskOf_22 : decode cX11_riskOf 22 = .ok (.iaload, 1) := by decide +kernel
theorem dX11_riskOf_23 : decode cX11_riskOf 23 = .ok (.iload_n 1, 1) := by decide +kernel
theorem dX11_riskOf_24 : decode cX11_riskOf 24 = .ok (.if_icmp .ne 40, 3) := by decide +kernel
theorem dX11_riskOf_27 : decode cX11_riskOf 27 = .ok (.aload_n 0, 1) := by decide +kernel
theorem dX11_riskOf_28 : decode cX11_riskOf 28 = .ok (.getfield 28, 3) := by decide +kernel
theorem dX11_riskOf_31 : decode cX11_riskOf 31 = .ok (.iload 4, 2) := by decide +kernel
theorem dX11_riskOf_33 : decode cX11_riskOf 33 = .ok (.iaload, 1) := by decide +kernel
theorem dX11_riskOf_34 : decode cX11_riskOf 34 = .ok (.iconst (-1), 1) := by decide +kernel
theorem dX11_riskOf_35 : decode cX11_riskOf 35 = .ok (.if_icmp .eq 6, 3) := by decide +kernel
theorem dX11_riskOf_38 : decode cX11_riskOf 38 = .ok (.goto 26, 3) := by decide +kernel
theorem dX11_riskOf_41 : decode cX11_riskOf 41 = .ok (.iload_n 2, 1) := by decide +kernel
theorem dX11_riskOf_42 : decode cX11_riskOf 42 = .ok (.aload_n 0, 1) := by decide +kernel
theorem dX11_riskOf_43 : decode cX11_riskOf 43 = .ok (.getfield 31, 3) := by decide +kernel
theorem dX11_riskOf_46 : decode cX11_riskOf 46 = .ok (.iload 4, 2) := by decide +kernel
theorem dX11_riskOf_48 : decode cX11_riskOf 48 = .ok (.iaload, 1) := by decide +kernel
theorem dX11_riskOf_49 : decode cX11_riskOf 49 = .ok (.iadd, 1) := by decide +kernel
theorem dX11_riskOf_50 : decode cX11_riskOf 50 = .ok (.istore_n 2, 1) := by decide +kernel
theorem dX11_riskOf_51 : decode cX11_riskOf 51 = .ok (.iload_n 3, 1) := by decide +kernel
theorem dX11_riskOf_52 : decode cX11_riskOf 52 = .ok (.iconst (-1), 1) := by decide +kernel
theorem dX11_riskOf_53 : decode cX11_riskOf 53 = .ok (.if_icmp .ne 11, 3) := by decide +kernel
theorem dX11_riskOf_56 : decode cX11_riskOf 56 = .ok (.aload_n 0, 1) := by decide +kernel
theorem dX11_riskOf_57 : decode cX11_riskOf 57 = .ok (.getfield 19, 3) := by decide +kernel
theorem dX11_riskOf_60 : decode cX11_riskOf 60 = .ok (.iload 4, 2) := by decide +kernel
theorem dX11_riskOf_62 : decode cX11_riskOf 62 = .ok (.iaload, 1) := by decide +kernel
theorem dX11_riskOf_63 : decode cX11_riskOf 63 = .ok (.istore_n 3, 1) := by decide +kernel
theorem dX11_riskOf_64 : decode cX11_riskOf 64 = .ok (.iinc 4 1, 3) := by decide +kernel
theorem dX11_riskOf_67 : decode cX11_riskOf 67 = .ok (.goto (-60), 3) := by decide +kernel
theorem dX11_riskOf_70 : decode cX11_riskOf 70 = .ok (.iload_n 2, 1) := by decide +kernel
theorem dX11_riskOf_71 : decode cX11_riskOf 71 = .ok (.ifCond .ne 5, 3) := by decide +kernel
theorem dX11_riskOf_74 : decode cX11_riskOf 74 = .ok (.lconst 0, 1) := by decide +kernel
theorem dX11_riskOf_75 : decode cX11_riskOf 75 = .ok (.lreturn, 1) := by decide +kernel
theorem dX11_riskOf_76 : decode cX11_riskOf 76 = .ok (.iconst (-1), 1) := by decide +kernel
theorem dX11_riskOf_77 : decode cX11_riskOf 77 = .ok (.istore 4, 2) := by decide +kernel
theorem dX11_riskOf_79 : decode cX11_riskOf 79 = .ok (.iconst 0, 1) := by decide +kernel
theorem dX11_riskOf_80 : decode cX11_riskOf 80 = .ok (.istore 5, 2) := by decide +kernel
theorem dX11_riskOf_82 : decode cX11_riskOf 82 = .ok (.iload 5, 2) := by decide +kernel
theorem dX11_riskOf_84 : decode cX11_riskOf 84 = .ok (.aload_n 0, 1) := by decide +kernel
theorem dX11_riskOf_85 : decode cX11_riskOf 85 = .ok (.getfield 252, 3) := by decide +kernel
theorem dX11_riskOf_88 : decode cX11_riskOf 88 = .ok (.if_icmp .ge 70, 3) := by decide +kernel
theorem dX11_riskOf_91 : decode cX11_riskOf 91 = .ok (.aload_n 0, 1) := by decide +kernel
theorem dX11_riskOf_92 : decode cX11_riskOf 92 = .ok (.getfield 40, 3) := by decide +kernel
theorem dX11_riskOf_95 : decode cX11_riskOf 95 = .ok (.iload 5, 2) := by decide +kernel
theorem dX11_riskOf_97 : decode cX11_riskOf 97 = .ok (.iaload, 1) := by decide +kernel
theorem dX11_riskOf_98 : decode cX11_riskOf 98 = .ok (.ifCond .ne 54, 3) := by decide +kernel
theorem dX11_riskOf_101 : decode cX11_riskOf 101 = .ok (.aload_n 0, 1) := by decide +kernel
theorem dX11_riskOf_102 : decode cX11_riskOf 102 = .ok (.getfield 93, 3) := by decide +kernel
theorem dX11_riskOf_105 : decode cX11_riskOf 105 = .ok (.iload 5, 2) := by decide +kernel
theorem dX11_riskOf_107 : decode cX11_riskOf 107 = .ok (.baload, 1) := by decide +kernel
theorem dX11_riskOf_108 : decode cX11_riskOf 108 = .ok (.ifCond .eq 44, 3) := by decide +kernel
theorem dX11_riskOf_111 : decode cX11_riskOf 111 = .ok (.aload_n 0, 1) := by decide +kernel
theorem dX11_riskOf_112 : decode cX11_riskOf 112 = .ok (.getfield 43, 3) := by decide +kernel
theorem dX11_riskOf_115 : decode cX11_riskOf 115 = .ok (.iload 5, 2) := by decide +kernel
theorem dX11_riskOf_117 : decode cX11_riskOf 117 = .ok (.iaload, 1) := by decide +kernel
theorem dX11_riskOf_118 : decode cX11_riskOf 118 = .ok (.iload_n 1, 1) := by decide +kernel
theorem dX11_riskOf_119 : decode cX11_riskOf 119 = .ok (.if_icmp .ne 33, 3) := by decide +kernel
theorem dX11_riskOf_122 : decode cX11_riskOf 122 = .ok (.aload_n 0, 1) := by decide +kernel
theorem dX11_riskOf_123 : decode cX11_riskOf 123 = .ok (.iload 5, 2) := by decide +kernel
theorem dX11_riskOf_125 : decode cX11_riskOf 125 = .ok (.invokevirtual 261, 3) := by decide +kernel
theorem dX11_riskOf_128 : decode cX11_riskOf 128 = .ok (.ifCond .ne 24, 3) := by decide +kernel
theorem dX11_riskOf_131 : decode cX11_riskOf 131 = .ok (.aload_n 0, 1) := by decide +kernel
theorem dX11_riskOf_132 : decode cX11_riskOf 132 = .ok (.getfield 46, 3) := by decide +kernel
theorem dX11_riskOf_135 : decode cX11_riskOf 135 = .ok (.iload 5, 2) := by decide +kernel
theorem dX11_riskOf_137 : decode cX11_riskOf 137 = .ok (.iaload, 1) := by decide +kernel
theorem dX11_riskOf_138 : decode cX11_riskOf 138 = .ok (.iload 4, 2) := by decide +kernel
theorem dX11_riskOf_140 : decode cX11_riskOf 140 = .ok (.if_icmp .le 12, 3) := by decide +kernel
theorem dX11_riskOf_143 : decode cX11_riskOf 143 = .ok (.aload_n 0, 1) := by decide +kernel
theorem dX11_riskOf_144 : decode cX11_riskOf 144 = .ok (.getfield 46, 3) := by decide +kernel
theorem dX11_riskOf_147 : decode cX11_riskOf 147 = .ok (.iload 5, 2) := by decide +kernel
theorem dX11_riskOf_149 : decode cX11_riskOf 149 = .ok (.iaload, 1) := by decide +kernel
theorem dX11_riskOf_150 : decode cX11_riskOf 150 = .ok (.istore 4, 2) := by decide +kernel
theorem dX11_riskOf_152 : decode cX11_riskOf 152 = .ok (.iinc 5 1, 3) := by decide +kernel
theorem dX11_riskOf_155 : decode cX11_riskOf 155 = .ok (.goto (-73), 3) := by decide +kernel
theorem dX11_riskOf_158 : decode cX11_riskOf 158 = .ok (.iload 4, 2) := by decide +kernel
theorem dX11_riskOf_160 : decode cX11_riskOf 160 = .ok (.iconst (-1), 1) := by decide +kernel
theorem dX11_riskOf_161 : decode cX11_riskOf 161 = .ok (.if_icmp .eq 6, 3) := by decide +kernel
theorem dX11_riskOf_164 : decode cX11_riskOf 164 = .ok (.iload 4, 2) := by decide +kernel
theorem dX11_riskOf_166 : decode cX11_riskOf 166 = .ok (.istore_n 3, 1) := by decide +kernel
theorem dX11_riskOf_167 : decode cX11_riskOf 167 = .ok (.iload_n 2, 1) := by decide +kernel
theorem dX11_riskOf_168 : decode cX11_riskOf 168 = .ok (.i2l, 1) := by decide +kernel
theorem dX11_riskOf_169 : decode cX11_riskOf 169 = .ok (.sipush 1000, 3) := by decide +kernel
theorem dX11_riskOf_172 : decode cX11_riskOf 172 = .ok (.aload_n 0, 1) := by decide +kernel
theorem dX11_riskOf_173 : decode cX11_riskOf 173 = .ok (.getfield 52, 3) := by decide +kernel
theorem dX11_riskOf_176 : decode cX11_riskOf 176 = .ok (.bipush 10, 2) := by decide +kernel
theorem dX11_riskOf_178 : decode cX11_riskOf 178 = .ok (.aload_n 0, 1) := by decide +kernel
theorem dX11_riskOf_179 : decode cX11_riskOf 179 = .ok (.getfield 16, 3) := by decide +kernel
theorem dX11_riskOf_182 : decode cX11_riskOf 182 = .ok (.iload_n 1, 1) := by decide +kernel
theorem dX11_riskOf_183 : decode cX11_riskOf 183 = .ok (.iaload, 1) := by decide +kernel
theorem dX11_riskOf_184 : decode cX11_riskOf 184 = .ok (.imul, 1) := by decide +kernel
theorem dX11_riskOf_185 : decode cX11_riskOf 185 = .ok (.aload_n 0, 1) := by decide +kernel
theorem dX11_riskOf_186 : decode cX11_riskOf 186 = .ok (.iload_n 1, 1) := by decide +kernel
theorem dX11_riskOf_187 : decode cX11_riskOf 187 = .ok (.aload_n 0, 1) := by decide +kernel
theorem dX11_riskOf_188 : decode cX11_riskOf 188 = .ok (.getfield 208, 3) := by decide +kernel
theorem dX11_riskOf_191 : decode cX11_riskOf 191 = .ok (.invokevirtual 214, 3) := by decide +kernel
theorem dX11_riskOf_194 : decode cX11_riskOf 194 = .ok (.invokestatic 299, 3) := by decide +kernel
theorem dX11_riskOf_197 : decode cX11_riskOf 197 = .ok (.iadd, 1) := by decide +kernel
theorem dX11_riskOf_198 : decode cX11_riskOf 198 = .ok (.iaload, 1) := by decide +kernel
theorem dX11_riskOf_199 : decode cX11_riskOf 199 = .ok (.isub, 1) := by decide +kernel
theorem dX11_riskOf_200 : decode cX11_riskOf 200 = .ok (.i2l, 1) := by decide +kernel
theorem dX11_riskOf_201 : decode cX11_riskOf 201 = .ok (.lmul, 1) := by decide +kernel
theorem dX11_riskOf_202 : decode cX11_riskOf 202 = .ok (.aload_n 0, 1) := by decide +kernel
theorem dX11_riskOf_203 : decode cX11_riskOf 203 = .ok (.getfield 208, 3) := by decide +kernel
theorem dX11_riskOf_206 : decode cX11_riskOf 206 = .ok (.iload_n 3, 1) := by decide +kernel
theorem dX11_riskOf_207 : decode cX11_riskOf 207 = .ok (.isub, 1) := by decide +kernel
theorem dX11_riskOf_208 : decode cX11_riskOf 208 = .ok (.i2l, 1) := by decide +kernel
theorem dX11_riskOf_209 : decode cX11_riskOf 209 = .ok (.lmul, 1) := by decide +kernel
theorem dX11_riskOf_210 : decode cX11_riskOf 210 = .ok (.lreturn, 1) := by decide +kernel
theorem dX11_look_0 : decode cX11_look 0 = .ok (.aload_n 0, 1) := by decide +kernel
theorem dX11_look_1 : decode cX11_look 1 = .ok (.iconst 0, 1) := by decide +kernel
theorem dX11_look_2 : decode cX11_look 2 = .ok (.putfield 129, 3) := by decide +kernel
theorem dX11_look_5 : decode cX11_look 5 = .ok (.iload_n 1, 1) := by decide +kernel
theorem dX11_look_6 : decode cX11_look 6 = .ok (.ifCond .ge 5, 3) := by decide +kernel
theorem dX11_look_9 : decode cX11_look 9 = .ok (.iconst (-1), 1) := by decide +kernel
theorem dX11_look_10 : decode cX11_look 10 = .ok (.ireturn, 1) := by decide +kernel
theorem dX11_look_11 : decode cX11_look 11 = .ok (.aload_n 0, 1) := by decide +kernel
theorem dX11_look_12 : decode cX11_look 12 = .ok (.aload_n 0, 1) := by decide +kernel
theorem dX11_look_13 : decode cX11_look 13 = .ok (.getfield 208, 3) := by decide +kernel
theorem dX11_look_16 : decode cX11_look 16 = .ok (.invokevirtual 257, 3) := by decide +kernel
theorem dX11_look_19 : decode cX11_look 19 = .ok (.iconst 0, 1) := by decide +kernel
theorem dX11_look_20 : decode cX11_look 20 = .ok (.istore_n 2, 1) := by decide +kernel
theorem dX11_look_21 : decode cX11_look 21 = .ok (.iload_n 2, 1) := by decide +kernel
theorem dX11_look_22 : decode cX11_look 22 = .ok (.aload_n 0, 1) := by decide +kernel
theorem dX11_look_23 : decode cX11_look 23 = .ok (.getfield 211, 3) := by decide +kernel
theorem dX11_look_26 : decode cX11_look 26 = .ok (.if_icmp .ge 114, 3) := by decide +kernel
theorem dX11_look_29 : decode cX11_look 29 = .ok (.aload_n 0, 1) := by decide +kernel
theorem dX11_look_30 : decode cX11_look 30 = .ok (.getfield 96, 3) := by decide +kernel
theorem dX11_look_33 : decode cX11_look 33 = .ok (.iload_n 2, 1) := by decide +kernel
theorem dX11_look_34 : decode cX11_look 34 = .ok (.iaload, 1) := by decide +kernel
theorem dX11_look_35 : decode cX11_look 35 = .ok (.iconst (-1), 1) := by decide +kernel
theorem dX11_look_36 : decode cX11_look 36 = .ok (.if_icmp .eq 6, 3) := by decide +kernel
theorem dX11_look_39 : decode cX11_look 39 = .ok (.goto 95, 3) := by decide +kernel
theorem dX11_look_42 : decode cX11_look 42 = .ok (.iconst 0, 1) := by decide +kernel
theorem dX11_look_43 : decode cX11_look 43 = .ok (.istore_n 3, 1) := by decide +kernel
theorem dX11_look_44 : decode cX11_look 44 = .ok (.iconst 0, 1) := by decide +kernel
theorem dX11_look_45 : decode cX11_look 45 = .ok (.istore 4, 2) := by decide +kernel
theorem dX11_look_47 : decode cX11_look 47 = .ok (.iload 4, 2) := by decide +kernel
theorem dX11_look_49 : decode cX11_look 49 = .ok (.aload_n 0, 1) := by decide +kernel
theorem dX11_look_50 : decode cX11_look 50 = .ok (.getfield 211, 3) := by decide +kernel
theorem dX11_look_53 : decode cX11_look 53 = .ok (.if_icmp .ge 74, 3) := by decide +kernel
theorem dX11_look_56 : decode cX11_look 56 = .ok (.iload 4, 2) := by decide +kernel
theorem dX11_look_58 : decode cX11_look 58 = .ok (.iload_n 2, 1) := by decide +kernel
theorem dX11_look_59 : decode cX11_look 59 = .ok (.if_icmp .eq 62, 3) := by decide +kernel
theorem dX11_look_62 : decode cX11_look 62 = .ok (.aload_n 0, 1) := by decide +kernel
theorem dX11_look_63 : decode cX11_look 63 = .ok (.getfield 96, 3) := by decide +kernel
theorem dX11_look_66 : decode cX11_look 66 = .ok (.iload 4, 2) := by decide +kernel
theorem dX11_look_68 : decode cX11_look 68 = .ok (.iaload, 1) := by decide +kernel
theorem dX11_look_69 : decode cX11_look 69 = .ok (.iconst (-1), 1) := by decide +kernel
theorem dX11_look_70 : decode cX11_look 70 = .ok (.if_icmp .eq 6, 3) := by decide +kernel
theorem dX11_look_73 : decode cX11_look 73 = .ok (.goto 48, 3) := by decide +kernel
theorem dX11_look_76 : decode cX11_look 76 = .ok (.aload_n 0, 1) := by decide +kernel
theorem dX11_look_77 : decode cX11_look 77 = .ok (.iload 4, 2) := by decide +kernel
theorem dX11_look_79 : decode cX11_look 79 = .ok (.invokevirtual 326, 3) := by decide +kernel
theorem dX11_look_82 : decode cX11_look 82 = .ok (.lstore 5, 2) := by decide +kernel
theorem dX11_look_84 : decode cX11_look 84 = .ok (.aload_n 0, 1) := by decide +kernel
theorem dX11_look_85 : decode cX11_look 85 = .ok (.iload_n 2, 1) := by decide +kernel
theorem dX11_look_86 : decode cX11_look 86 = .ok (.invokevirtual 326, 3) := by decide +kernel
theorem dX11_look_89 : decode cX11_look 89 = .ok (.lstore 7, 2) := by decide +kernel
theorem dX11_look_91 : decode cX11_look 91 = .ok (.iload_n 3, 1) := by decide +kernel
theorem dX11_look_92 : decode cX11_look 92 = .ok (.lload 5, 2) := by decide +kernel
theorem dX11_look_94 : decode cX11_look 94 = .ok (.lload 7, 2) := by decide +kernel
theorem dX11_look_96 : decode cX11_look 96 = .ok (.lcmp, 1) := by decide +kernel
theorem dX11_look_97 : decode cX11_look 97 = .ok (.ifCond .gt 17, 3) := by decide +kernel
theorem dX11_look_100 : decode cX11_look 100 = .ok (.lload 5, 2) := by decide +kernel
theorem dX11_look_102 : decode cX11_look 102 = .ok (.lload 7, 2) := by decide +kernel
theorem dX11_look_104 : decode cX11_look 104 = .ok (.lcmp, 1) := by decide +kernel
theorem dX11_look_105 : decode cX11_look 105 = .ok (.ifCond .ne 13, 3) := by decide +kernel
theorem dX11_look_108 : decode cX11_look 108 = .ok (.iload 4, 2) := by decide +kernel
theorem dX11_look_110 : decode cX11_look 110 = .ok (.iload_n 2, 1) := by decide +kernel
theorem dX11_look_111 : decode cX11_look 111 = .ok (.if_icmp .ge 7, 3) := by decide +kernel
theorem dX11_look_114 : decode cX11_look 114 = .ok (.iconst 1, 1) := by decide +kernel
theorem dX11_look_115 : decode cX11_look 115 = .ok (.goto 4, 3) := by decide +kernel
theorem dX11_look_118 : decode cX11_look 118 = .ok (.iconst 0, 1) := by decide +kernel
theorem dX11_look_119 : decode cX11_look 119 = .ok (.iadd, 1) := by decide +kernel
theorem dX11_look_120 : decode cX11_look 120 = .ok (.istore_n 3, 1) := by decide +kernel
theorem dX11_look_121 : decode cX11_look 121 = .ok (.iinc 4 1, 3) := by decide +kernel
theorem dX11_look_124 : decode cX11_look 124 = .ok (.goto (-77), 3) := by decide +kernel
theorem dX11_look_127 : decode cX11_look 127 = .ok (.iload_n 3, 1) := by decide +kernel
theorem dX11_look_128 : decode cX11_look 128 = .ok (.iload_n 1, 1) := by decide +kernel
theorem dX11_look_129 : decode cX11_look 129 = .ok (.if_icmp .ne 5, 3) := by decide +kernel
theorem dX11_look_132 : decode cX11_look 132 = .ok (.iload_n 2, 1) := by decide +kernel
theorem dX11_look_133 : decode cX11_look 133 = .ok (.ireturn, 1) := by decide +kernel
theorem dX11_look_134 : decode cX11_look 134 = .ok (.iinc 2 1, 3) := by decide +kernel
theorem dX11_look_137 : decode cX11_look 137 = .ok (.goto (-116), 3) := by decide +kernel
theorem dX11_look_140 : decode cX11_look 140 = .ok (.iconst (-1), 1) := by decide +kernel
theorem dX11_look_141 : decode cX11_look 141 = .ok (.ireturn, 1) := by decide +kernel
theorem dX11_fails_0 : decode cX11_fails 0 = .ok (.aload_n 0, 1) := by decide +kernel
theorem dX11_fails_1 : decode cX11_fails 1 = .ok (.iload_n 1, 1) := by decide +kernel
theorem dX11_fails_2 : decode cX11_fails 2 = .ok (.putfield 129, 3) := by decide +kernel
theorem dX11_fails_5 : decode cX11_fails 5 = .ok (.lconst 0, 1) := by decide +kernel
theorem dX11_fails_6 : decode cX11_fails 6 = .ok (.lreturn, 1) := by decide +kernel
theorem dX11_risk_0 : decode cX11_risk 0 = .ok (.aload_n 0, 1) := by decide +kernel
theorem dX11_risk_1 : decode cX11_risk 1 = .ok (.iconst 0, 1) := by decide +kernel
theorem dX11_risk_2 : decode cX11_risk 2 = .ok (.putfield 129, 3) := by decide +kernel
theorem dX11_risk_5 : decode cX11_risk 5 = .ok (.aload_n 0, 1) := by decide +kernel
theorem dX11_risk_6 : decode cX11_risk 6 = .ok (.iload_n 1, 1) := by decide +kernel
theorem dX11_risk_7 : decode cX11_risk 7 = .ok (.invokevirtual 221, 3) := by decide +kernel
theorem dX11_risk_10 : decode cX11_risk 10 = .ok (.ifCond .ne 9, 3) := by decide +kernel
theorem dX11_risk_13 : decode cX11_risk 13 = .ok (.aload_n 0, 1) := by decide +kernel
theorem dX11_risk_14 : decode cX11_risk 14 = .ok (.iconst 1, 1) := by decide +kernel
theorem dX11_risk_15 : decode cX11_risk 15 = .ok (.invokevirtual 330, 3) := by decide +kernel
theorem dX11_risk_18 : decode cX11_risk 18 = .ok (.lreturn, 1) := by decide +kernel
theorem dX11_risk_19 : decode cX11_risk 19 = .ok (.aload_n 0, 1) := by decide +kernel
theorem dX11_risk_20 : decode cX11_risk 20 = .ok (.aload_n 0, 1) := by decide +kernel
theorem dX11_risk_21 : decode cX11_risk 21 = .ok (.getfield 208, 3) := by decide +kernel
theorem dX11_risk_24 : decode cX11_risk 24 = .ok (.invokevirtual 257, 3) := by decide +kernel
theorem dX11_risk_27 : decode cX11_risk 27 = .ok (.aload_n 0, 1) := by decide +kernel
theorem dX11_risk_28 : decode cX11_risk 28 = .ok (.getfield 96, 3) := by decide +kernel
theorem dX11_risk_31 : decode cX11_risk 31 = .ok (.iload_n 1, 1) := by decide +kernel
theorem dX11_risk_32 : decode cX11_risk 32 = .ok (.iaload, 1) := by decide +kernel
theorem dX11_risk_33 : decode cX11_risk 33 = .ok (.iconst (-1), 1) := by decide +kernel
theorem dX11_risk_34 : decode cX11_risk 34 = .ok (.if_icmp .eq 11, 3) := by decide +kernel
theorem dX11_risk_37 : decode cX11_risk 37 = .ok (.aload_n 0, 1) := by decide +kernel
theorem dX11_risk_38 : decode cX11_risk 38 = .ok (.iconst 2, 1) := by decide +kernel
theorem dX11_risk_39 : decode cX11_risk 39 = .ok (.invokevirtual 330, 3) := by decide +kernel
theorem dX11_risk_42 : decode cX11_risk 42 = .ok (.goto 8, 3) := by decide +kernel
theorem dX11_risk_45 : decode cX11_risk 45 = .ok (.aload_n 0, 1) := by decide +kernel
theorem dX11_risk_46 : decode cX11_risk 46 = .ok (.iload_n 1, 1) := by decide +kernel
theorem dX11_risk_47 : decode cX11_risk 47 = .ok (.invokevirtual 326, 3) := by decide +kernel
theorem dX11_risk_50 : decode cX11_risk 50 = .ok (.lreturn, 1) := by decide +kernel
theorem dX11_living_0 : decode cX11_living 0 = .ok (.iload_n 1, 1) := by decide +kernel
theorem dX11_living_1 : decode cX11_living 1 = .ok (.iconst (-1), 1) := by decide +kernel
theorem dX11_living_2 : decode cX11_living 2 = .ok (.if_icmp .eq 27, 3) := by decide +kernel
theorem dX11_living_5 : decode cX11_living 5 = .ok (.aload_n 0, 1) := by decide +kernel
theorem dX11_living_6 : decode cX11_living 6 = .ok (.getfield 96, 3) := by decide +kernel
theorem dX11_living_9 : decode cX11_living 9 = .ok (.iload_n 1, 1) := by decide +kernel
theorem dX11_living_10 : decode cX11_living 10 = .ok (.iaload, 1) := by decide +kernel
theorem dX11_living_11 : decode cX11_living 11 = .ok (.iconst (-1), 1) := by decide +kernel
theorem dX11_living_12 : decode cX11_living 12 = .ok (.if_icmp .ne 17, 3) := by decide +kernel
theorem dX11_living_15 : decode cX11_living 15 = .ok (.aload_n 0, 1) := by decide +kernel
theorem dX11_living_16 : decode cX11_living 16 = .ok (.iload_n 1, 1) := by decide +kernel
theorem dX11_living_17 : decode cX11_living 17 = .ok (.aload_n 0, 1) := by decide +kernel
theorem dX11_living_18 : decode cX11_living 18 = .ok (.getfield 208, 3) := by decide +kernel
theorem dX11_living_21 : decode cX11_living 21 = .ok (.invokevirtual 214, 3) := by decide +kernel
theorem dX11_living_24 : decode cX11_living 24 = .ok (.bipush 99, 2) := by decide +kernel
theorem dX11_living_26 : decode cX11_living 26 = .ok (.if_icmp .le 7, 3) := by decide +kernel
theorem dX11_living_29 : decode cX11_living 29 = .ok (.iconst (-1), 1) := by decide +kernel
theorem dX11_living_30 : decode cX11_living 30 = .ok (.goto 4, 3) := by decide +kernel
theorem dX11_living_33 : decode cX11_living 33 = .ok (.iload_n 1, 1) := by decide +kernel
theorem dX11_living_34 : decode cX11_living 34 = .ok (.ireturn, 1) := by decide +kernel
theorem dX11_converts_0 : decode cX11_converts 0 = .ok (.aload_n 0, 1) := by decide +kernel
theorem dX11_converts_1 : decode cX11_converts 1 = .ok (.iconst 0, 1) := by decide +kernel
theorem dX11_converts_2 : decode cX11_converts 2 = .ok (.putfield 129, 3) := by decide +kernel
theorem dX11_converts_5 : decode cX11_converts 5 = .ok (.aload_n 0, 1) := by decide +kernel
theorem dX11_converts_6 : decode cX11_converts 6 = .ok (.iload_n 1, 1) := by decide +kernel
theorem dX11_converts_7 : decode cX11_converts 7 = .ok (.invokevirtual 242, 3) := by decide +kernel
theorem dX11_converts_10 : decode cX11_converts 10 = .ok (.ifCond .ne 5, 3) := by decide +kernel
theorem dX11_converts_13 : decode cX11_converts 13 = .ok (.iconst (-1), 1) := by decide +kernel
theorem dX11_converts_14 : decode cX11_converts 14 = .ok (.ireturn, 1) := by decide +kernel
theorem dX11_converts_15 : decode cX11_converts 15 = .ok (.aload_n 0, 1) := by decide +kernel
theorem dX11_converts_16 : decode cX11_converts 16 = .ok (.aload_n 0, 1) := by decide +kernel
theorem dX11_converts_17 : decode cX11_converts 17 = .ok (.getfield 208, 3) := by decide +kernel
theorem dX11_converts_20 : decode cX11_converts 20 = .ok (.invokevirtual 257, 3) := by decide +kernel
theorem dX11_converts_23 : decode cX11_converts 23 = .ok (.aload_n 0, 1) := by decide +kernel
theorem dX11_converts_24 : decode cX11_converts 24 = .ok (.aload_n 0, 1) := by decide +kernel
theorem dX11_converts_25 : decode cX11_converts 25 = .ok (.getfield 25, 3) := by decide +kernel
theorem dX11_converts_28 : decode cX11_converts 28 = .ok (.iload_n 1, 1) := by decide +kernel
theorem dX11_converts_29 : decode cX11_converts 29 = .ok (.iaload, 1) := by decide +kernel
theorem dX11_converts_30 : decode cX11_converts 30 = .ok (.invokevirtual 333, 3) := by decide +kernel
theorem dX11_converts_33 : decode cX11_converts 33 = .ok (.istore_n 2, 1) := by decide +kernel
theorem dX11_converts_34 : decode cX11_converts 34 = .ok (.aload_n 0, 1) := by decide +kernel
theorem dX11_converts_35 : decode cX11_converts 35 = .ok (.aload_n 0, 1) := by decide +kernel
theorem dX11_converts_36 : decode cX11_converts 36 = .ok (.getfield 28, 3) := by decide +kernel
theorem dX11_converts_39 : decode cX11_converts 39 = .ok (.iload_n 1, 1) := by decide +kernel
theorem dX11_converts_40 : decode cX11_converts 40 = .ok (.iaload, 1) := by decide +kernel
theorem dX11_converts_41 : decode cX11_converts 41 = .ok (.invokevirtual 333, 3) := by decide +kernel
theorem dX11_converts_44 : decode cX11_converts 44 = .ok (.istore_n 3, 1) := by decide +kernel
theorem dX11_converts_45 : decode cX11_converts 45 = .ok (.ldc2_w 336, 3) := by decide +kernel
theorem dX11_converts_48 : decode cX11_converts 48 = .ok (.aload_n 0, 1) := by decide +kernel
theorem dX11_converts_49 : decode cX11_converts 49 = .ok (.getfield 31, 3) := by decide +kernel
theorem dX11_converts_52 : decode cX11_converts 52 = .ok (.iload_n 1, 1) := by decide +kernel
theorem dX11_converts_53 : decode cX11_converts 53 = .ok (.iaload, 1) := by decide +kernel
theorem dX11_converts_54 : decode cX11_converts 54 = .ok (.i2l, 1) := by decide +kernel
theorem dX11_converts_55 : decode cX11_converts 55 = .ok (.lmul, 1) := by decide +kernel
theorem dX11_converts_56 : decode cX11_converts 56 = .ok (.lstore 4, 2) := by decide +kernel
theorem dX11_converts_58 : decode cX11_converts 58 = .ok (.aload_n 0, 1) := by decide +kernel
theorem dX11_converts_59 : decode cX11_converts 59 = .ok (.iconst 0, 1) := by decide +kernel
theorem dX11_converts_60 : decode cX11_converts 60 = .ok (.invokevirtual 314, 3) := by decide +kernel
theorem dX11_converts_63 : decode cX11_converts 63 = .ok (.aload_n 0, 1) := by decide +kernel
theorem dX11_converts_64 : decode cX11_converts 64 = .ok (.aload_n 0, 1) := by decide +kernel
theorem dX11_converts_65 : decode cX11_converts 65 = .ok (.getfield 25, 3) := by decide +kernel
theorem dX11_converts_68 : decode cX11_converts 68 = .ok (.iload_n 1, 1) := by decide +kernel
theorem dX11_converts_69 : decode cX11_converts 69 = .ok (.iaload, 1) := by decide +kernel
theorem dX11_converts_70 : decode cX11_converts 70 = .ok (.aload_n 0, 1) := by decide +kernel
theorem dX11_converts_71 : decode cX11_converts 71 = .ok (.getfield 28, 3) := by decide +kernel
theorem dX11_converts_74 : decode cX11_converts 74 = .ok (.iload_n 1, 1) := by decide +kernel
theorem dX11_converts_75 : decode cX11_converts 75 = .ok (.iaload, 1) := by decide +kernel
theorem dX11_converts_76 : decode cX11_converts 76 = .ok (.invokevirtual 230, 3) := by decide +kernel
theorem dX11_converts_79 : decode cX11_converts 79 = .ok (.i2l, 1) := by decide +kernel
theorem dX11_converts_80 : decode cX11_converts 80 = .ok (.lload 4, 2) := by decide +kernel
theorem dX11_converts_82 : decode cX11_converts 82 = .ok (.lmul, 1) := by decide +kernel
theorem dX11_converts_83 : decode cX11_converts 83 = .ok (.aload_n 0, 1) := by decide +kernel
theorem dX11_converts_84 : decode cX11_converts 84 = .ok (.iload_n 2, 1) := by decide +kernel
theorem dX11_converts_85 : decode cX11_converts 85 = .ok (.iload_n 3, 1) := by decide +kernel
theorem dX11_converts_86 : decode cX11_converts 86 = .ok (.invokevirtual 317, 3) := by decide +kernel
theorem dX11_converts_89 : decode cX11_converts 89 = .ok (.i2l, 1) := by decide +kernel
theorem dX11_converts_90 : decode cX11_converts 90 = .ok (.lmul, 1) := by decide +kernel
theorem dX11_converts_91 : decode cX11_converts 91 = .ok (.ldc2_w 338, 3) := by decide +kernel
theorem dX11_converts_94 : decode cX11_converts 94 = .ok (.ldiv, 1) := by decide +kernel
theorem dX11_converts_95 : decode cX11_converts 95 = .ok (.lstore 6, 2) := by decide +kernel
theorem dX11_converts_97 : decode cX11_converts 97 = .ok (.aload_n 0, 1) := by decide +kernel
theorem dX11_converts_98 : decode cX11_converts 98 = .ok (.iconst 1, 1) := by decide +kernel
theorem dX11_converts_99 : decode cX11_converts 99 = .ok (.invokevirtual 314, 3) := by decide +kernel
theorem dX11_converts_102 : decode cX11_converts 102 = .ok (.lload 6, 2) := by decide +kernel
theorem dX11_converts_104 : decode cX11_converts 104 = .ok (.lload 4, 2) := by decide +kernel
theorem dX11_converts_106 : decode cX11_converts 106 = .ok (.aload_n 0, 1) := by decide +kernel
theorem dX11_converts_107 : decode cX11_converts 107 = .ok (.iload_n 2, 1) := by decide +kernel
theorem dX11_converts_108 : decode cX11_converts 108 = .ok (.iload_n 3, 1) := by decide +kernel
theorem dX11_converts_109 : decode cX11_converts 109 = .ok (.invokevirtual 317, 3) := by decide +kernel
theorem dX11_converts_112 : decode cX11_converts 112 = .ok (.i2l, 1) := by decide +kernel
theorem dX11_converts_113 : decode cX11_converts 113 = .ok (.lmul, 1) := by decide +kernel
theorem dX11_converts_114 : decode cX11_converts 114 = .ok (.lcmp, 1) := by decide +kernel
theorem dX11_converts_115 : decode cX11_converts 115 = .ok (.ifCond .le 7, 3) := by decide +kernel
theorem dX11_converts_118 : decode cX11_converts 118 = .ok (.iconst 1, 1) := by decide +kernel
theorem dX11_converts_119 : decode cX11_converts 119 = .ok (.goto 4, 3) := by decide +kernel
theorem dX11_converts_122 : decode cX11_converts 122 = .ok (.iconst 0, 1) := by decide +kernel
theorem dX11_converts_123 : decode cX11_converts 123 = .ok (.ireturn, 1) := by decide +kernel
theorem dX11_count_0 : decode cX11_count 0 = .ok (.aload_n 0, 1) := by decide +kernel
theorem dX11_count_1 : decode cX11_count 1 = .ok (.iconst 0, 1) := by decide +kernel
theorem dX11_count_2 : decode cX11_count 2 = .ok (.putfield 129, 3) := by decide +kernel
theorem dX11_count_5 : decode cX11_count 5 = .ok (.iload_n 1, 1) := by decide +kernel
theorem dX11_count_6 : decode cX11_count 6 = .ok (.tableswitch 84 0 8 #[50, 55, 60, 65, 70, 70, 70, 70, 79], 50) := by decide +kernel
theorem dX11_count_56 : decode cX11_count 56 = .ok (.aload_n 0, 1) := by decide +kernel
theorem dX11_count_57 : decode cX11_count 57 = .ok (.getfield 208, 3) := by decide +kernel
theorem dX11_count_60 : decode cX11_count 60 = .ok (.ireturn, 1) := by decide +kernel
theorem dX11_count_61 : decode cX11_count 61 = .ok (.aload_n 0, 1) := by decide +kernel
theorem dX11_count_62 : decode cX11_count 62 = .ok (.getfield 211, 3) := by decide +kernel
theorem dX11_count_65 : decode cX11_count 65 = .ok (.ireturn, 1) := by decide +kernel
theorem dX11_count_66 : decode cX11_count 66 = .ok (.aload_n 0, 1) := by decide +kernel
theorem dX11_count_67 : decode cX11_count 67 = .ok (.getfield 233, 3) := by decide +kernel
theorem dX11_count_70 : decode cX11_count 70 = .ok (.ireturn, 1) := by decide +kernel
theorem dX11_count_71 : decode cX11_count 71 = .ok (.aload_n 0, 1) := by decide +kernel
theorem dX11_count_72 : decode cX11_count 72 = .ok (.getfield 252, 3) := by decide +kernel
theorem dX11_count_75 : decode cX11_count 75 = .ok (.ireturn, 1) := by decide +kernel
theorem dX11_count_76 : decode cX11_count 76 = .ok (.aload_n 0, 1) := by decide +kernel
theorem dX11_count_77 : decode cX11_count 77 = .ok (.getfield 86, 3) := by decide +kernel
theorem dX11_count_80 : decode cX11_count 80 = .ok (.iload_n 1, 1) := by decide +kernel
theorem dX11_count_81 : decode cX11_count 81 = .ok (.iconst 4, 1) := by decide +kernel
theorem dX11_count_82 : decode cX11_count 82 = .ok (.isub, 1) := by decide +kernel
theorem dX11_count_83 : decode cX11_count 83 = .ok (.iaload, 1) := by decide +kernel
theorem dX11_count_84 : decode cX11_count 84 = .ok (.ireturn, 1) := by decide +kernel
theorem dX11_count_85 : decode cX11_count 85 = .ok (.aload_n 0, 1) := by decide +kernel
theorem dX11_count_86 : decode cX11_count 86 = .ok (.getfield 170, 3) := by decide +kernel
theorem dX11_count_89 : decode cX11_count 89 = .ok (.ireturn, 1) := by decide +kernel
theorem dX11_count_90 : decode cX11_count 90 = .ok (.iconst (-1), 1) := by decide +kernel
theorem dX11_count_91 : decode cX11_count 91 = .ok (.ireturn, 1) := by decide +kernel
end
section
theorem ix_in {e : Int32} {j n : Nat} (he : e = nI j) (h : j < n) (hn : n < 2 ^ 31) : vp_in e n := by rw [he]; exact vp_in_nI h hn
theorem ix_cl {e : Int32} {j : Nat} (he : e = nI j) (h : j < 2 ^ 31) : e.toNatClampNeg = j := by rw [he]; exact nI_clamp h
def upA (v : fr_V) (k : Nat) (f : Nat → Int32) : fr_V := fun a => if a = k then f else v a
theorem upA_self (v : fr_V) (k : Nat) (f : Nat → Int32) : upA v k f k = f := if_pos rfl
theorem upA_ne {v : fr_V} {k a : Nat} {f : Nat → Int32} (h : a ≠ k) : upA v k f a = v a := if_neg h
theorem up2_A (v : fr_V) (k i : Nat) (x : Int32) : up2 v k i x = upA v k (upd (v k) i x) := rfl
theorem upA_A (v : fr_V) (k : Nat) (f g : Nat → Int32) : upA (upA v k f) k g = upA v k g := by
  funext a; unfold upA; split <;> rfl
theorem upA_id (v : fr_V) (k : Nat) : upA v k (v k) = v := by
  funext a; unfold upA; split
  · next h => rw [h]
  · rfl
theorem up2_upA (v : fr_V) (k i : Nat) (f : Nat → Int32) (x : Int32) : up2 (upA v k f) k i x = upA v k (upd f i x) := by
  rw [up2_A, upA_self, upA_A]
theorem upA_swap (v : fr_V) {k a : Nat} (f g : Nat → Int32) (h : k ≠ a) : upA (upA v k f) a g = upA (upA v a g) k f := by
  funext b; unfold upA
  by_cases h1 : b = a
  · rw [if_pos h1, if_neg (fun e => h (e.symm.trans h1)), if_pos h1]
  · by_cases h2 : b = k
    · rw [if_neg h1, if_pos h2, if_pos h2]
    · rw [if_neg h1, if_neg h2, if_neg h2, if_neg h1]
section FRF
variable {l : Launch} {y : fr_M} {I : List Nat} {v : fr_V} {u : fr_U} {Q : Option Value → fr_V → fr_U → Prop} {pc : Nat} {lv : List (Nat × Value)} {st : List Value}
theorem J_iase {k n j : Nat} {i x : Int32} (d : decode y.2.1 pc = .ok (.iastore, 1)) (hk : k ∈ I) (hs : sh k = (20, n)) (hin : vp_in i n) (hj : i.toNatClampNeg = j) (kk : J l y I (up2 v k j x) u (pc + 1) lv st Q) : J l y I v u pc lv (.int x :: .int i :: .ref k :: st) Q := by
  subst hj; exact J_iast d hk hs hin kk
theorem J_zase {k n j : Nat} {i x : Int32} (d : decode y.2.1 pc = .ok (.bastore, 1)) (hk : k ∈ I) (hs : sh k = (21, n)) (hin : vp_in i n) (hj : i.toNatClampNeg = j) (hx : vp_nar .boolean x = x) (kk : J l y I (up2 v k j x) u (pc + 1) lv st Q) : J l y I v u pc lv (.int x :: .int i :: .ref k :: st) Q := by
  subst hj; exact J_zast d hk hs hin hx kk
end FRF
theorem nz_le {a b : Nat} (ha : a < 2 ^ 31) (hb : b < 2 ^ 31) (h : nI a ≤ nI b) : a ≤ b := (nI_leI ha hb).mp h
theorem nz_nle {a b : Nat} (ha : a < 2 ^ 31) (hb : b < 2 ^ 31) (h : ¬ nI a ≤ nI b) : b < a := Nat.lt_of_not_le (fun q => h ((nI_leI ha hb).mpr q))
theorem vz_of {x : Int32} {n : Nat} (h : vp_in x n) (hn : n < 2 ^ 31) : x.toNatClampNeg < n := by
  obtain ⟨j, hj, rfl⟩ := vp_in_of h hn
  rw [nI_clamp (by omega)]; exact hj
theorem dn_1 (s : Nat) : nI s + Int32.ofInt (-1) = nI s - 1 := by
  show nI s + (-1) = nI s - 1
  exact (Int32.sub_eq_add_neg (a := nI s) (b := 1)).symm
theorem dn_lt {t : Nat} (h0 : 0 < t) (ht : t < 2 ^ 31) : ¬ nI t - 1 < 0 := by
  obtain ⟨s, rfl⟩ : ∃ s, t = s + 1 := ⟨t - 1, by omega⟩
  rw [nI_pred]; exact nI_pos (by omega)
theorem dn_0 : nI 0 - 1 < 0 := by decide
theorem J_post {l : Launch} {y : fr_M} {I : List Nat} {v : fr_V} {u : fr_U} {Q Q2 : Option Value → fr_V → fr_U → Prop} {pc : Nat} {lv : List (Nat × Value)} {st : List Value} (h : ∀ r v' u', Q r v' u' → Q2 r v' u') (k : J l y I v u pc lv st Q) : J l y I v u pc lv st Q2 := by
  intro L cA D p e s m args below meth c H locs ls C hP hD hS hl T hT X
  obtain ⟨t, a1, o, b1, b2, ⟨⟨r, v1, u1, e1, e2, e3⟩, e4⟩, e5⟩ := k L cA D p e s m args below meth c H locs ls C hP hD hS hl T hT X
  exact ⟨t, a1, o, b1, b2, ⟨⟨r, v1, u1, e1, h r v1 u1 e2, e3⟩, e4⟩, e5⟩
end
section
def f_X11_isIn (v : fr_V) (x0 x1 x2 : Int32) : Int32 := if x0 < x1 then 0 else if x2 < x0 then 0 else 1
theorem k_X11_isIn {l : Launch} {I : List Nat} (hI : fr_I I) (v : fr_V) (u : fr_U) (x0 x1 x2 : Int32) : Con l mX11_isIn I v u [.int x0, .int x1, .int x2] (QI v u (fun a => a = f_X11_isIn v x0 x1 x2)) := by
  refine Con.of (by decide) (Nat.le_of_ble_eq_true rfl) ?_
  show J l mX11_isIn I v u 0 [(0, .int x0), (1, .int x1), (2, .int x2)] [] _
  refine J_iload_n dX11_isIn_0 rfl 0 rfl ?_
  refine J_iload_n dX11_isIn_1 rfl 1 rfl ?_
  refine J_icmp_lt (tgt := 14) dX11_isIn_2 (by decide) (fun c1 => ?_) (fun c1 => ?_)
  · refine J_iconst (x := 0) dX11_isIn_14 (by decide) ?_
    exact J_zret dX11_isIn_15 rfl (by decide) ⟨_, rfl, rfl, rfl, by unfold f_X11_isIn; rw [if_pos c1]⟩
  · refine J_iload_n dX11_isIn_5 rfl 0 rfl ?_
    refine J_iload_n dX11_isIn_6 rfl 2 rfl ?_
    refine J_icmp_gt (tgt := 14) dX11_isIn_7 (by decide) (fun c2 => ?_) (fun c2 => ?_)
    · refine J_iconst (x := 0) dX11_isIn_14 (by decide) ?_
      exact J_zret dX11_isIn_15 rfl (by decide) ⟨_, rfl, rfl, rfl, by unfold f_X11_isIn; rw [if_neg c1, if_pos c2]⟩
    · refine J_iconst (x := 1) dX11_isIn_10 (by decide) ?_
      refine J_goto (tgt := 15) dX11_isIn_11 (by decide) ?_
      exact J_zret dX11_isIn_15 rfl (by decide) ⟨_, rfl, rfl, rfl, by unfold f_X11_isIn; rw [if_neg c1, if_neg c2]⟩
def f_X11_isHalf (v : fr_V) (x0 : Int32) : Int32 := if x0 < 0 then 0 else if 79 < x0 then 0 else 1
theorem k_X11_isHalf {l : Launch} {I : List Nat} (hI : fr_I I) (v : fr_V) (u : fr_U) (x0 : Int32) : Con l mX11_isHalf I v u [.int x0] (QI v u (fun a => a = f_X11_isHalf v x0)) := by
  refine Con.of (by decide) (Nat.le_of_ble_eq_true rfl) ?_
  show J l mX11_isHalf I v u 0 [(0, .int x0)] [] _
  refine J_iload_n dX11_isHalf_0 rfl 0 rfl ?_
  refine J_if_lt (tgt := 14) dX11_isHalf_1 (by decide) (fun c1 => ?_) (fun c1 => ?_)
  · refine J_iconst (x := 0) dX11_isHalf_14 (by decide) ?_
    exact J_zret dX11_isHalf_15 rfl (by decide) ⟨_, rfl, rfl, rfl, by unfold f_X11_isHalf; rw [if_pos c1]⟩
  · refine J_iload_n dX11_isHalf_4 rfl 0 rfl ?_
    refine J_bipush (x := 79) dX11_isHalf_5 (by decide) ?_
    refine J_icmp_gt (tgt := 14) dX11_isHalf_7 (by decide) (fun c2 => ?_) (fun c2 => ?_)
    · refine J_iconst (x := 0) dX11_isHalf_14 (by decide) ?_
      exact J_zret dX11_isHalf_15 rfl (by decide) ⟨_, rfl, rfl, rfl, by unfold f_X11_isHalf; rw [if_neg c1, if_pos c2]⟩
    · refine J_iconst (x := 1) dX11_isHalf_10 (by decide) ?_
      refine J_goto (tgt := 15) dX11_isHalf_11 (by decide) ?_
      exact J_zret dX11_isHalf_15 rfl (by decide) ⟨_, rfl, rfl, rfl, by unfold f_X11_isHalf; rw [if_neg c1, if_neg c2]⟩
def f_X11_isHolder (v : fr_V) (x0 : Int32) : Int32 := if x0 < 0 then 0 else if 8 ≤ x0 then 0 else 1
theorem k_X11_isHolder {l : Launch} {I : List Nat} (hI : fr_I I) (v : fr_V) (u : fr_U) (x0 : Int32) : Con l mX11_isHolder I v u [.int x0] (QI v u (fun a => a = f_X11_isHolder v x0)) := by
  refine Con.of (by decide) (Nat.le_of_ble_eq_true rfl) ?_
  show J l mX11_isHolder I v u 0 [(0, .int x0)] [] _
  refine J_iload_n dX11_isHolder_0 rfl 0 rfl ?_
  refine J_if_lt (tgt := 14) dX11_isHolder_1 (by decide) (fun c1 => ?_) (fun c1 => ?_)
  · refine J_iconst (x := 0) dX11_isHolder_14 (by decide) ?_
    exact J_zret dX11_isHolder_15 rfl (by decide) ⟨_, rfl, rfl, rfl, by unfold f_X11_isHolder; rw [if_pos c1]⟩
  · refine J_iload_n dX11_isHolder_4 rfl 0 rfl ?_
    refine J_bipush (x := 8) dX11_isHolder_5 (by decide) ?_
    refine J_icmp_ge (tgt := 14) dX11_isHolder_7 (by decide) (fun c2 => ?_) (fun c2 => ?_)
    · refine J_iconst (x := 0) dX11_isHolder_14 (by decide) ?_
      exact J_zret dX11_isHolder_15 rfl (by decide) ⟨_, rfl, rfl, rfl, by unfold f_X11_isHolder; rw [if_neg c1, if_pos c2]⟩
    · refine J_iconst (x := 1) dX11_isHolder_10 (by decide) ?_
      refine J_goto (tgt := 15) dX11_isHolder_11 (by decide) ?_
      exact J_zret dX11_isHolder_15 rfl (by decide) ⟨_, rfl, rfl, rfl, by unfold f_X11_isHolder; rw [if_neg c1, if_neg c2]⟩
def f_X11_groupOf (v : fr_V) (x0 : Int32) : Int32 := if x0 ≤ 99 then x0 / 10 else 9
theorem k_X11_groupOf {l : Launch} {I : List Nat} (hI : fr_I I) (v : fr_V) (u : fr_U) (x0 : Int32) : Con l mX11_groupOf I v u [.int x0] (QI v u (fun a => a = f_X11_groupOf v x0)) := by
  refine Con.of (by decide) (Nat.le_of_ble_eq_true rfl) ?_
  show J l mX11_groupOf I v u 0 [(0, .int x0)] [] _
  refine J_iload_n dX11_groupOf_0 rfl 0 rfl ?_
  refine J_bipush (x := 99) dX11_groupOf_1 (by decide) ?_
  refine J_icmp_le (tgt := 11) dX11_groupOf_3 (by decide) (fun c1 => ?_) (fun c1 => ?_)
  · refine J_iload_n dX11_groupOf_11 rfl 0 rfl ?_
    refine J_bipush (x := 10) dX11_groupOf_12 (by decide) ?_
    refine J_idiv dX11_groupOf_14 (by decide) ?_
    exact J_iret dX11_groupOf_15 rfl ⟨_, rfl, rfl, rfl, by unfold f_X11_groupOf; rw [if_pos c1]⟩
  · refine J_bipush (x := 9) dX11_groupOf_6 (by decide) ?_
    refine J_goto (tgt := 15) dX11_groupOf_8 (by decide) ?_
    exact J_iret dX11_groupOf_15 rfl ⟨_, rfl, rfl, rfl, by unfold f_X11_groupOf; rw [if_neg c1]⟩
def f_X11_isLife (v : fr_V) (x1 : Int32) : Int32 := if x1 < 0 then 0 else if (v 1100 4) ≤ x1 then 0 else 1
theorem k_X11_isLife {l : Launch} {I : List Nat} (hI : fr_I I) (v : fr_V) (u : fr_U) (x1 : Int32) : Con l mX11_isLife I v u [.ref 1100, .int x1] (QI v u (fun a => a = f_X11_isLife v x1)) := by
  refine Con.of (by decide) (Nat.le_of_ble_eq_true rfl) ?_
  show J l mX11_isLife I v u 0 [(0, .ref 1100), (1, .int x1)] [] _
  refine J_iload_n dX11_isLife_0 rfl 1 rfl ?_
  refine J_if_lt (tgt := 16) dX11_isLife_1 (by decide) (fun c1 => ?_) (fun c1 => ?_)
  · refine J_iconst (x := 0) dX11_isLife_16 (by decide) ?_
    exact J_zret dX11_isLife_17 rfl (by decide) ⟨_, rfl, rfl, rfl, by unfold f_X11_isLife; rw [if_pos c1]⟩
  · refine J_iload_n dX11_isLife_4 rfl 1 rfl ?_
    refine J_aload_n dX11_isLife_5 rfl 0 rfl ?_
    refine J_gete (ci := 11) (j := 4) (x := v 1100 4) dX11_isLife_6 fl_X11_211 (i1100 hI) rfl rfl rfl ?_
    refine J_icmp_ge (tgt := 16) dX11_isLife_9 (by decide) (fun c2 => ?_) (fun c2 => ?_)
    · refine J_iconst (x := 0) dX11_isLife_16 (by decide) ?_
      exact J_zret dX11_isLife_17 rfl (by decide) ⟨_, rfl, rfl, rfl, by unfold f_X11_isLife; rw [if_neg c1, if_pos c2]⟩
    · refine J_iconst (x := 1) dX11_isLife_12 (by decide) ?_
      refine J_goto (tgt := 17) dX11_isLife_13 (by decide) ?_
      exact J_zret dX11_isLife_17 rfl (by decide) ⟨_, rfl, rfl, rfl, by unfold f_X11_isLife; rw [if_neg c1, if_neg c2]⟩
def f_X11_isRent (v : fr_V) (x1 : Int32) : Int32 := if x1 < 0 then 0 else if (v 1100 7) ≤ x1 then 0 else 1
theorem k_X11_isRent {l : Launch} {I : List Nat} (hI : fr_I I) (v : fr_V) (u : fr_U) (x1 : Int32) : Con l mX11_isRent I v u [.ref 1100, .int x1] (QI v u (fun a => a = f_X11_isRent v x1)) := by
  refine Con.of (by decide) (Nat.le_of_ble_eq_true rfl) ?_
  show J l mX11_isRent I v u 0 [(0, .ref 1100), (1, .int x1)] [] _
  refine J_iload_n dX11_isRent_0 rfl 1 rfl ?_
  refine J_if_lt (tgt := 16) dX11_isRent_1 (by decide) (fun c1 => ?_) (fun c1 => ?_)
  · refine J_iconst (x := 0) dX11_isRent_16 (by decide) ?_
    exact J_zret dX11_isRent_17 rfl (by decide) ⟨_, rfl, rfl, rfl, by unfold f_X11_isRent; rw [if_pos c1]⟩
  · refine J_iload_n dX11_isRent_4 rfl 1 rfl ?_
    refine J_aload_n dX11_isRent_5 rfl 0 rfl ?_
    refine J_gete (ci := 11) (j := 7) (x := v 1100 7) dX11_isRent_6 fl_X11_233 (i1100 hI) rfl rfl rfl ?_
    refine J_icmp_ge (tgt := 16) dX11_isRent_9 (by decide) (fun c2 => ?_) (fun c2 => ?_)
    · refine J_iconst (x := 0) dX11_isRent_16 (by decide) ?_
      exact J_zret dX11_isRent_17 rfl (by decide) ⟨_, rfl, rfl, rfl, by unfold f_X11_isRent; rw [if_neg c1, if_pos c2]⟩
    · refine J_iconst (x := 1) dX11_isRent_12 (by decide) ?_
      refine J_goto (tgt := 17) dX11_isRent_13 (by decide) ?_
      exact J_zret dX11_isRent_17 rfl (by decide) ⟨_, rfl, rfl, rfl, by unfold f_X11_isRent; rw [if_neg c1, if_neg c2]⟩
def f_X11_thrown (v : fr_V) : Int32 := v 1100 2
theorem k_X11_thrown {l : Launch} {I : List Nat} (hI : fr_I I) (v : fr_V) (u : fr_U) : Con l mX11_thrown I v u [.ref 1100] (QI v u (fun a => a = f_X11_thrown v)) := by
  refine Con.of (by decide) (Nat.le_of_ble_eq_true rfl) ?_
  show J l mX11_thrown I v u 0 [(0, .ref 1100)] [] _
  refine J_aload_n dX11_thrown_0 rfl 0 rfl ?_
  refine J_gete (ci := 11) (j := 2) (x := v 1100 2) dX11_thrown_1 fl_X11_129 (i1100 hI) rfl rfl rfl ?_
  exact J_iret dX11_thrown_4 rfl ⟨_, rfl, rfl, rfl, rfl⟩
def f_X11_ageIn (v : fr_V) (x1 x2 : Int32) : Int32 := (x2 - (v 1106 x1.toNatClampNeg)) / 2
theorem k_X11_ageIn {l : Launch} {I : List Nat} (hI : fr_I I) (v : fr_V) (u : fr_U) (x1 x2 : Int32) (h1 : vp_in x1 12) : Con l mX11_ageIn I v u [.ref 1100, .int x1, .int x2] (QI v u (fun a => a = f_X11_ageIn v x1 x2)) := by
  refine Con.of (by decide) (Nat.le_of_ble_eq_true rfl) ?_
  show J l mX11_ageIn I v u 0 [(0, .ref 1100), (1, .int x1), (2, .int x2)] [] _
  refine J_iload_n dX11_ageIn_0 rfl 2 rfl ?_
  refine J_aload_n dX11_ageIn_1 rfl 0 rfl ?_
  refine J_getr (ci := 11) (j := 5) (t := 1106) dX11_ageIn_2 fl_X11_13 (i1100 hI) rfl rfl rfl ?_
  refine J_iload_n dX11_ageIn_5 rfl 1 rfl ?_
  refine J_iale (x := v 1106 x1.toNatClampNeg) dX11_ageIn_6 (i1106 hI) rfl (by first | assumption | exact vp_in_nI (by omega) (by omega)) rfl ?_
  refine J_isub dX11_ageIn_7 ?_
  refine J_iconst (x := 2) dX11_ageIn_8 (by decide) ?_
  refine J_idiv dX11_ageIn_9 (by decide) ?_
  exact J_iret dX11_ageIn_10 rfl ⟨_, rfl, rfl, rfl, rfl⟩
def f_X11_wrong (v : fr_V) (x1 : Int32) : Int32 × fr_V := (0, up2 (up2 v 1100 23 x1) 1100 24 (v 1100 29))
theorem k_X11_wrong {l : Launch} {I : List Nat} (hI : fr_I I) (v : fr_V) (u : fr_U) (x1 : Int32) : Con l mX11_wrong I v u [.ref 1100, .int x1] (QX u (fun a b => a = (f_X11_wrong v x1).1 ∧ b = (f_X11_wrong v x1).2)) := by
  refine Con.of (by decide) (Nat.le_of_ble_eq_true rfl) ?_
  show J l mX11_wrong I v u 0 [(0, .ref 1100), (1, .int x1)] [] _
  refine J_aload_n dX11_wrong_0 rfl 0 rfl ?_
  refine J_iload_n dX11_wrong_1 rfl 1 rfl ?_
  refine J_puti (ci := 11) (j := 23) dX11_wrong_2 fl_X11_135 (i1100 hI) rfl rfl (fun q h => by cases h; rfl) rfl ?_
  refine J_aload_n dX11_wrong_5 rfl 0 rfl ?_
  refine J_aload_n dX11_wrong_6 rfl 0 rfl ?_
  refine J_gete (ci := 11) (j := 29) (x := v 1100 29) dX11_wrong_7 fl_X11_138 (i1100 hI) rfl rfl rfl ?_
  refine J_puti (ci := 11) (j := 24) dX11_wrong_10 fl_X11_58 (i1100 hI) rfl rfl (fun q h => by cases h; rfl) rfl ?_
  refine J_iconst (x := 0) dX11_wrong_13 (by decide) ?_
  exact J_zret dX11_wrong_14 rfl (by decide) ⟨_, rfl, rfl, rfl, rfl⟩
def f_X11_isWord (v : fr_V) (x1 : Int32) : Int32 := if (v 1100 27) = 1 then (if (v 1100 28) = x1 then 1 else 0) else 0
theorem k_X11_isWord {l : Launch} {I : List Nat} (hI : fr_I I) (v : fr_V) (u : fr_U) (x1 : Int32) : Con l mX11_isWord I v u [.ref 1100, .int x1] (QI v u (fun a => a = f_X11_isWord v x1)) := by
  refine Con.of (by decide) (Nat.le_of_ble_eq_true rfl) ?_
  show J l mX11_isWord I v u 0 [(0, .ref 1100), (1, .int x1)] [] _
  refine J_aload_n dX11_isWord_0 rfl 0 rfl ?_
  refine J_gete (ci := 11) (j := 27) (x := v 1100 27) dX11_isWord_1 fl_X11_147 (i1100 hI) rfl rfl rfl ?_
  refine J_iconst (x := 1) dX11_isWord_4 (by decide) ?_
  refine J_icmp_ne (tgt := 20) dX11_isWord_5 (by decide) (fun c1 => ?_) (fun c1 => ?_)
  · refine J_iconst (x := 0) dX11_isWord_20 (by decide) ?_
    exact J_zret dX11_isWord_21 rfl (by decide) ⟨_, rfl, rfl, rfl, by unfold f_X11_isWord; rw [if_neg c1]⟩
  · refine J_aload_n dX11_isWord_8 rfl 0 rfl ?_
    refine J_gete (ci := 11) (j := 28) (x := v 1100 28) dX11_isWord_9 fl_X11_158 (i1100 hI) rfl rfl rfl ?_
    refine J_iload_n dX11_isWord_12 rfl 1 rfl ?_
    refine J_icmp_ne (tgt := 20) dX11_isWord_13 (by decide) (fun c2 => ?_) (fun c2 => ?_)
    · refine J_iconst (x := 0) dX11_isWord_20 (by decide) ?_
      exact J_zret dX11_isWord_21 rfl (by decide) ⟨_, rfl, rfl, rfl, by unfold f_X11_isWord; rw [if_pos c1, if_neg c2]⟩
    · refine J_iconst (x := 1) dX11_isWord_16 (by decide) ?_
      refine J_goto (tgt := 21) dX11_isWord_17 (by decide) ?_
      exact J_zret dX11_isWord_21 rfl (by decide) ⟨_, rfl, rfl, rfl, by unfold f_X11_isWord; rw [if_pos c1, if_pos c2]⟩
def f_X11_isSmall (v : fr_V) (x1 : Int32) : Int32 := if (v 1100 25) ≤ x1 then 0 else if (v 1101 x1.toNatClampNeg) < 97 then 0 else if 122 < (v 1101 x1.toNatClampNeg) then 0 else 1
theorem k_X11_isSmall {l : Launch} {I : List Nat} (hI : fr_I I) (v : fr_V) (u : fr_U) (x1 : Int32) (h1 : ¬ v 1100 25 ≤ x1 → vp_in x1 500) : Con l mX11_isSmall I v u [.ref 1100, .int x1] (QI v u (fun a => a = f_X11_isSmall v x1)) := by
  refine Con.of (by decide) (Nat.le_of_ble_eq_true rfl) ?_
  show J l mX11_isSmall I v u 0 [(0, .ref 1100), (1, .int x1)] [] _
  refine J_iload_n dX11_isSmall_0 rfl 1 rfl ?_
  refine J_aload_n dX11_isSmall_1 rfl 0 rfl ?_
  refine J_gete (ci := 11) (j := 25) (x := v 1100 25) dX11_isSmall_2 fl_X11_141 (i1100 hI) rfl rfl rfl ?_
  refine J_icmp_ge (tgt := 34) dX11_isSmall_5 (by decide) (fun c1 => ?_) (fun c1 => ?_)
  · refine J_iconst (x := 0) dX11_isSmall_34 (by decide) ?_
    exact J_zret dX11_isSmall_35 rfl (by decide) ⟨_, rfl, rfl, rfl, by unfold f_X11_isSmall; rw [if_pos c1]⟩
  · refine J_aload_n dX11_isSmall_8 rfl 0 rfl ?_
    refine J_getr (ci := 11) (j := 0) (t := 1101) dX11_isSmall_9 fl_X11_7 (i1100 hI) rfl rfl rfl ?_
    refine J_iload_n dX11_isSmall_12 rfl 1 rfl ?_
    refine J_iale (x := v 1101 x1.toNatClampNeg) dX11_isSmall_13 (i1101 hI) rfl (h1 c1) rfl ?_
    refine J_bipush (x := 97) dX11_isSmall_14 (by decide) ?_
    refine J_icmp_lt (tgt := 34) dX11_isSmall_16 (by decide) (fun c2 => ?_) (fun c2 => ?_)
    · refine J_iconst (x := 0) dX11_isSmall_34 (by decide) ?_
      exact J_zret dX11_isSmall_35 rfl (by decide) ⟨_, rfl, rfl, rfl, by unfold f_X11_isSmall; rw [if_neg c1, if_pos c2]⟩
    · refine J_aload_n dX11_isSmall_19 rfl 0 rfl ?_
      refine J_getr (ci := 11) (j := 0) (t := 1101) dX11_isSmall_20 fl_X11_7 (i1100 hI) rfl rfl rfl ?_
      refine J_iload_n dX11_isSmall_23 rfl 1 rfl ?_
      refine J_iale (x := v 1101 x1.toNatClampNeg) dX11_isSmall_24 (i1101 hI) rfl (h1 c1) rfl ?_
      refine J_bipush (x := 122) dX11_isSmall_25 (by decide) ?_
      refine J_icmp_gt (tgt := 34) dX11_isSmall_27 (by decide) (fun c3 => ?_) (fun c3 => ?_)
      · refine J_iconst (x := 0) dX11_isSmall_34 (by decide) ?_
        exact J_zret dX11_isSmall_35 rfl (by decide) ⟨_, rfl, rfl, rfl, by unfold f_X11_isSmall; rw [if_neg c1, if_neg c2, if_pos c3]⟩
      · refine J_iconst (x := 1) dX11_isSmall_30 (by decide) ?_
        refine J_goto (tgt := 35) dX11_isSmall_31 (by decide) ?_
        exact J_zret dX11_isSmall_35 rfl (by decide) ⟨_, rfl, rfl, rfl, by unfold f_X11_isSmall; rw [if_neg c1, if_neg c2, if_neg c3]⟩
def f_X11_isDigit (v : fr_V) (x1 : Int32) : Int32 := if (v 1100 25) ≤ x1 then 0 else if (v 1101 x1.toNatClampNeg) < 48 then 0 else if 57 < (v 1101 x1.toNatClampNeg) then 0 else 1
theorem k_X11_isDigit {l : Launch} {I : List Nat} (hI : fr_I I) (v : fr_V) (u : fr_U) (x1 : Int32) (h1 : ¬ v 1100 25 ≤ x1 → vp_in x1 500) : Con l mX11_isDigit I v u [.ref 1100, .int x1] (QI v u (fun a => a = f_X11_isDigit v x1)) := by
  refine Con.of (by decide) (Nat.le_of_ble_eq_true rfl) ?_
  show J l mX11_isDigit I v u 0 [(0, .ref 1100), (1, .int x1)] [] _
  refine J_iload_n dX11_isDigit_0 rfl 1 rfl ?_
  refine J_aload_n dX11_isDigit_1 rfl 0 rfl ?_
  refine J_gete (ci := 11) (j := 25) (x := v 1100 25) dX11_isDigit_2 fl_X11_141 (i1100 hI) rfl rfl rfl ?_
  refine J_icmp_ge (tgt := 34) dX11_isDigit_5 (by decide) (fun c1 => ?_) (fun c1 => ?_)
  · refine J_iconst (x := 0) dX11_isDigit_34 (by decide) ?_
    exact J_zret dX11_isDigit_35 rfl (by decide) ⟨_, rfl, rfl, rfl, by unfold f_X11_isDigit; rw [if_pos c1]⟩
  · refine J_aload_n dX11_isDigit_8 rfl 0 rfl ?_
    refine J_getr (ci := 11) (j := 0) (t := 1101) dX11_isDigit_9 fl_X11_7 (i1100 hI) rfl rfl rfl ?_
    refine J_iload_n dX11_isDigit_12 rfl 1 rfl ?_
    refine J_iale (x := v 1101 x1.toNatClampNeg) dX11_isDigit_13 (i1101 hI) rfl (h1 c1) rfl ?_
    refine J_bipush (x := 48) dX11_isDigit_14 (by decide) ?_
    refine J_icmp_lt (tgt := 34) dX11_isDigit_16 (by decide) (fun c2 => ?_) (fun c2 => ?_)
    · refine J_iconst (x := 0) dX11_isDigit_34 (by decide) ?_
      exact J_zret dX11_isDigit_35 rfl (by decide) ⟨_, rfl, rfl, rfl, by unfold f_X11_isDigit; rw [if_neg c1, if_pos c2]⟩
    · refine J_aload_n dX11_isDigit_19 rfl 0 rfl ?_
      refine J_getr (ci := 11) (j := 0) (t := 1101) dX11_isDigit_20 fl_X11_7 (i1100 hI) rfl rfl rfl ?_
      refine J_iload_n dX11_isDigit_23 rfl 1 rfl ?_
      refine J_iale (x := v 1101 x1.toNatClampNeg) dX11_isDigit_24 (i1101 hI) rfl (h1 c1) rfl ?_
      refine J_bipush (x := 57) dX11_isDigit_25 (by decide) ?_
      refine J_icmp_gt (tgt := 34) dX11_isDigit_27 (by decide) (fun c3 => ?_) (fun c3 => ?_)
      · refine J_iconst (x := 0) dX11_isDigit_34 (by decide) ?_
        exact J_zret dX11_isDigit_35 rfl (by decide) ⟨_, rfl, rfl, rfl, by unfold f_X11_isDigit; rw [if_neg c1, if_neg c2, if_pos c3]⟩
      · refine J_iconst (x := 1) dX11_isDigit_30 (by decide) ?_
        refine J_goto (tgt := 35) dX11_isDigit_31 (by decide) ?_
        exact J_zret dX11_isDigit_35 rfl (by decide) ⟨_, rfl, rfl, rfl, by unfold f_X11_isDigit; rw [if_neg c1, if_neg c2, if_neg c3]⟩
def f_X11_fault (v : fr_V) (x1 : Int32) : Int32 × fr_V := if x1 = 0 then (v 1100 23, up2 v 1100 2 0) else if x1 = 1 then (v 1100 24, up2 v 1100 2 0) else ((-1), up2 v 1100 2 0)
theorem k_X11_fault {l : Launch} {I : List Nat} (hI : fr_I I) (v : fr_V) (u : fr_U) (x1 : Int32) : Con l mX11_fault I v u [.ref 1100, .int x1] (QX u (fun a b => a = (f_X11_fault v x1).1 ∧ b = (f_X11_fault v x1).2)) := by
  refine Con.of (by decide) (Nat.le_of_ble_eq_true rfl) ?_
  show J l mX11_fault I v u 0 [(0, .ref 1100), (1, .int x1)] [] _
  refine J_aload_n dX11_fault_0 rfl 0 rfl ?_
  refine J_iconst (x := 0) dX11_fault_1 (by decide) ?_
  refine J_puti (ci := 11) (j := 2) dX11_fault_2 fl_X11_129 (i1100 hI) rfl rfl (fun q h => by cases h; rfl) rfl ?_
  refine J_iload_n dX11_fault_5 rfl 1 rfl ?_
  refine J_if_ne (tgt := 16) dX11_fault_6 (by decide) (fun c1 => ?_) (fun c1 => ?_)
  · refine J_iload_n dX11_fault_16 rfl 1 rfl ?_
    refine J_iconst (x := 1) dX11_fault_17 (by decide) ?_
    refine J_icmp_ne (tgt := 28) dX11_fault_18 (by decide) (fun c2 => ?_) (fun c2 => ?_)
    · refine J_iconst (x := (-1)) dX11_fault_28 (by decide) ?_
      exact J_iret dX11_fault_29 rfl ⟨_, rfl, rfl, by unfold f_X11_fault; rw [if_neg c1, if_neg c2], by unfold f_X11_fault; rw [if_neg c1, if_neg c2]⟩
    · refine J_aload_n dX11_fault_21 rfl 0 rfl ?_
      refine J_gete (ci := 11) (j := 24) (x := v 1100 24) dX11_fault_22 fl_X11_58 (i1100 hI) rfl rfl rfl ?_
      refine J_goto (tgt := 29) dX11_fault_25 (by decide) ?_
      exact J_iret dX11_fault_29 rfl ⟨_, rfl, rfl, by unfold f_X11_fault; rw [if_neg c1, if_pos c2], by unfold f_X11_fault; rw [if_neg c1, if_pos c2]⟩
  · refine J_aload_n dX11_fault_9 rfl 0 rfl ?_
    refine J_gete (ci := 11) (j := 23) (x := v 1100 23) dX11_fault_10 fl_X11_135 (i1100 hI) rfl rfl rfl ?_
    refine J_goto (tgt := 29) dX11_fault_13 (by decide) ?_
    exact J_iret dX11_fault_29 rfl ⟨_, rfl, rfl, by unfold f_X11_fault; rw [if_pos c1], by unfold f_X11_fault; rw [if_pos c1]⟩
def f_X11_halves (v : fr_V) (x1 : Int32) : Int32 × fr_V := if (f_X11_isIn (up2 v 1100 2 0) x1 0 79) = 0 then ((-1), up2 v 1100 2 0) else if ((v 1100 3) + x1) ≤ 79 then ((v 1100 3) + x1, up2 (up2 v 1100 2 0) 1100 3 ((v 1100 3) + x1)) else ((-1), up2 v 1100 2 0)
theorem k_X11_halves {l : Launch} {I : List Nat} (hI : fr_I I) (v : fr_V) (u : fr_U) (x1 : Int32) : Con l mX11_halves I v u [.ref 1100, .int x1] (QX u (fun a b => a = (f_X11_halves v x1).1 ∧ b = (f_X11_halves v x1).2)) := by
  refine Con.of (by decide) (Nat.le_of_ble_eq_true rfl) ?_
  show J l mX11_halves I v u 0 [(0, .ref 1100), (1, .int x1)] [] _
  refine J_aload_n dX11_halves_0 rfl 0 rfl ?_
  refine J_iconst (x := 0) dX11_halves_1 (by decide) ?_
  refine J_puti (ci := 11) (j := 2) dX11_halves_2 fl_X11_129 (i1100 hI) rfl rfl (fun q h => by cases h; rfl) rfl ?_
  refine J_iload_n dX11_halves_5 rfl 1 rfl ?_
  refine J_iconst (x := 0) dX11_halves_6 (by decide) ?_
  refine J_bipush (x := 79) dX11_halves_7 (by decide) ?_
  refine J_eSI (z := mX11_isIn) (As := [.int x1, .int 0, .int 79]) (rest := []) (x := f_X11_isIn (up2 v 1100 2 0) x1 0 79) dX11_halves_9 ml_X11_204 ok_X11_isIn iv_X11_isIn (by decide) rfl rfl (Nat.le_of_ble_eq_true rfl) (k_X11_isIn hI _ _ _ _ _ ) ?_
  refine J_if_eq (tgt := 26) dX11_halves_12 (by decide) (fun c1 => ?_) (fun c1 => ?_)
  · refine J_iconst (x := (-1)) dX11_halves_26 (by decide) ?_
    exact J_iret dX11_halves_27 rfl ⟨_, rfl, rfl, by unfold f_X11_halves; rw [if_pos c1], by unfold f_X11_halves; rw [if_pos c1]⟩
  · refine J_aload_n dX11_halves_15 rfl 0 rfl ?_
    refine J_gete (ci := 11) (j := 3) (x := v 1100 3) dX11_halves_16 fl_X11_208 (i1100 hI) rfl rfl rfl ?_
    refine J_iload_n dX11_halves_19 rfl 1 rfl ?_
    refine J_iadd dX11_halves_20 ?_
    refine J_bipush (x := 79) dX11_halves_21 (by decide) ?_
    refine J_icmp_le (tgt := 28) dX11_halves_23 (by decide) (fun c2 => ?_) (fun c2 => ?_)
    · refine J_aload_n dX11_halves_28 rfl 0 rfl ?_
      refine J_dup dX11_halves_29 rfl ?_
      refine J_gete (ci := 11) (j := 3) (x := v 1100 3) dX11_halves_30 fl_X11_208 (i1100 hI) rfl rfl rfl ?_
      refine J_iload_n dX11_halves_33 rfl 1 rfl ?_
      refine J_iadd dX11_halves_34 ?_
      refine J_puti (ci := 11) (j := 3) dX11_halves_35 fl_X11_208 (i1100 hI) rfl rfl (fun q h => by cases h; rfl) rfl ?_
      refine J_aload_n dX11_halves_38 rfl 0 rfl ?_
      refine J_gete (ci := 11) (j := 3) (x := (v 1100 3) + x1) dX11_halves_39 fl_X11_208 (i1100 hI) rfl rfl rfl ?_
      exact J_iret dX11_halves_42 rfl ⟨_, rfl, rfl, by unfold f_X11_halves; rw [if_neg c1, if_pos c2], by unfold f_X11_halves; rw [if_neg c1, if_pos c2]⟩
    · refine J_iconst (x := (-1)) dX11_halves_26 (by decide) ?_
      exact J_iret dX11_halves_27 rfl ⟨_, rfl, rfl, by unfold f_X11_halves; rw [if_neg c1, if_neg c2], by unfold f_X11_halves; rw [if_neg c1, if_neg c2]⟩
def f_X11_isFalse (v : fr_V) (x1 : Int32) : Int32 := if (v 1120 x1.toNatClampNeg) < (v 1106 ((v 1119 x1.toNatClampNeg).toNatClampNeg)) then 1 else if (v 1146 ((v 1119 x1.toNatClampNeg).toNatClampNeg)) = (-1) then 0 else if (v 1120 x1.toNatClampNeg) ≤ (v 1146 ((v 1119 x1.toNatClampNeg).toNatClampNeg)) then 0 else 1
theorem k_X11_isFalse {l : Launch} {I : List Nat} (hI : fr_I I) (v : fr_V) (u : fr_U) (x1 : Int32) (h1 : vp_in x1 60) (h2 : vp_in (v 1119 x1.toNatClampNeg) 12) : Con l mX11_isFalse I v u [.ref 1100, .int x1] (QI v u (fun a => a = f_X11_isFalse v x1)) := by
  refine Con.of (by decide) (Nat.le_of_ble_eq_true rfl) ?_
  show J l mX11_isFalse I v u 0 [(0, .ref 1100), (1, .int x1)] [] _
  refine J_aload_n dX11_isFalse_0 rfl 0 rfl ?_
  refine J_getr (ci := 11) (j := 18) (t := 1119) dX11_isFalse_1 fl_X11_43 (i1100 hI) rfl rfl rfl ?_
  refine J_iload_n dX11_isFalse_4 rfl 1 rfl ?_
  refine J_iale (x := v 1119 x1.toNatClampNeg) dX11_isFalse_5 (i1119 hI) rfl (by first | assumption | exact vp_in_nI (by omega) (by omega)) rfl ?_
  refine J_istore_n (lv' := [(2, .int (v 1119 x1.toNatClampNeg)), (0, .ref 1100), (1, .int x1)]) dX11_isFalse_6 rfl (by decide) rfl ?_
  refine J_aload_n dX11_isFalse_7 rfl 1 rfl ?_
  refine J_getr (ci := 11) (j := 19) (t := 1120) dX11_isFalse_8 fl_X11_46 (i1100 hI) rfl rfl rfl ?_
  refine J_iload_n dX11_isFalse_11 rfl 2 rfl ?_
  refine J_iale (x := v 1120 x1.toNatClampNeg) dX11_isFalse_12 (i1120 hI) rfl (by first | assumption | exact vp_in_nI (by omega) (by omega)) rfl ?_
  refine J_aload_n dX11_isFalse_13 rfl 1 rfl ?_
  refine J_getr (ci := 11) (j := 5) (t := 1106) dX11_isFalse_14 fl_X11_13 (i1100 hI) rfl rfl rfl ?_
  refine J_iload_n dX11_isFalse_17 rfl 0 rfl ?_
  refine J_iale (x := v 1106 ((v 1119 x1.toNatClampNeg).toNatClampNeg)) dX11_isFalse_18 (i1106 hI) rfl (by first | assumption | exact vp_in_nI (by omega) (by omega)) rfl ?_
  refine J_icmp_lt (tgt := 47) dX11_isFalse_19 (by decide) (fun c1 => ?_) (fun c1 => ?_)
  · refine J_iconst (x := 1) dX11_isFalse_47 (by decide) ?_
    refine J_goto (tgt := 52) dX11_isFalse_48 (by decide) ?_
    exact J_zret dX11_isFalse_52 rfl (by decide) ⟨_, rfl, rfl, rfl, by unfold f_X11_isFalse; rw [if_pos c1]⟩
  · refine J_aload_n dX11_isFalse_22 rfl 1 rfl ?_
    refine J_getr (ci := 11) (j := 45) (t := 1146) dX11_isFalse_23 fl_X11_96 (i1100 hI) rfl rfl rfl ?_
    refine J_iload_n dX11_isFalse_26 rfl 0 rfl ?_
    refine J_iale (x := v 1146 ((v 1119 x1.toNatClampNeg).toNatClampNeg)) dX11_isFalse_27 (i1146 hI) rfl (by first | assumption | exact vp_in_nI (by omega) (by omega)) rfl ?_
    refine J_iconst (x := (-1)) dX11_isFalse_28 (by decide) ?_
    refine J_icmp_eq (tgt := 51) dX11_isFalse_29 (by decide) (fun c2 => ?_) (fun c2 => ?_)
    · refine J_iconst (x := 0) dX11_isFalse_51 (by decide) ?_
      exact J_zret dX11_isFalse_52 rfl (by decide) ⟨_, rfl, rfl, rfl, by unfold f_X11_isFalse; rw [if_neg c1, if_pos c2]⟩
    · refine J_aload_n dX11_isFalse_32 rfl 1 rfl ?_
      refine J_getr (ci := 11) (j := 19) (t := 1120) dX11_isFalse_33 fl_X11_46 (i1100 hI) rfl rfl rfl ?_
      refine J_iload_n dX11_isFalse_36 rfl 2 rfl ?_
      refine J_iale (x := v 1120 x1.toNatClampNeg) dX11_isFalse_37 (i1120 hI) rfl (by first | assumption | exact vp_in_nI (by omega) (by omega)) rfl ?_
      refine J_aload_n dX11_isFalse_38 rfl 1 rfl ?_
      refine J_getr (ci := 11) (j := 45) (t := 1146) dX11_isFalse_39 fl_X11_96 (i1100 hI) rfl rfl rfl ?_
      refine J_iload_n dX11_isFalse_42 rfl 0 rfl ?_
      refine J_iale (x := v 1146 ((v 1119 x1.toNatClampNeg).toNatClampNeg)) dX11_isFalse_43 (i1146 hI) rfl (by first | assumption | exact vp_in_nI (by omega) (by omega)) rfl ?_
      refine J_icmp_le (tgt := 51) dX11_isFalse_44 (by decide) (fun c3 => ?_) (fun c3 => ?_)
      · refine J_iconst (x := 0) dX11_isFalse_51 (by decide) ?_
        exact J_zret dX11_isFalse_52 rfl (by decide) ⟨_, rfl, rfl, rfl, by unfold f_X11_isFalse; rw [if_neg c1, if_neg c2, if_pos c3]⟩
      · refine J_iconst (x := 1) dX11_isFalse_47 (by decide) ?_
        refine J_goto (tgt := 52) dX11_isFalse_48 (by decide) ?_
        exact J_zret dX11_isFalse_52 rfl (by decide) ⟨_, rfl, rfl, rfl, by unfold f_X11_isFalse; rw [if_neg c1, if_neg c2, if_neg c3]⟩
def f_X11_lives (v : fr_V) (x1 x2 : Int32) : Int32 := if x1 = (-1) then 0 else if (v 1146 x1.toNatClampNeg) = (-1) then 1 else if (v 1146 x1.toNatClampNeg) < x2 then 0 else 1
theorem k_X11_lives {l : Launch} {I : List Nat} (hI : fr_I I) (v : fr_V) (u : fr_U) (x1 x2 : Int32) (h1 : ¬ x1 = (-1) → vp_in x1 12) : Con l mX11_lives I v u [.ref 1100, .int x1, .int x2] (QI v u (fun a => a = f_X11_lives v x1 x2)) := by
  refine Con.of (by decide) (Nat.le_of_ble_eq_true rfl) ?_
  show J l mX11_lives I v u 0 [(0, .ref 1100), (1, .int x1), (2, .int x2)] [] _
  refine J_iload_n dX11_lives_0 rfl 1 rfl ?_
  refine J_iconst (x := (-1)) dX11_lives_1 (by decide) ?_
  refine J_icmp_eq (tgt := 29) dX11_lives_2 (by decide) (fun c1 => ?_) (fun c1 => ?_)
  · refine J_iconst (x := 0) dX11_lives_29 (by decide) ?_
    exact J_zret dX11_lives_30 rfl (by decide) ⟨_, rfl, rfl, rfl, by unfold f_X11_lives; rw [if_pos c1]⟩
  · refine J_aload_n dX11_lives_5 rfl 0 rfl ?_
    refine J_getr (ci := 11) (j := 45) (t := 1146) dX11_lives_6 fl_X11_96 (i1100 hI) rfl rfl rfl ?_
    refine J_iload_n dX11_lives_9 rfl 1 rfl ?_
    refine J_iale (x := v 1146 x1.toNatClampNeg) dX11_lives_10 (i1146 hI) rfl (h1 (by assumption)) rfl ?_
    refine J_iconst (x := (-1)) dX11_lives_11 (by decide) ?_
    refine J_icmp_eq (tgt := 25) dX11_lives_12 (by decide) (fun c2 => ?_) (fun c2 => ?_)
    · refine J_iconst (x := 1) dX11_lives_25 (by decide) ?_
      refine J_goto (tgt := 30) dX11_lives_26 (by decide) ?_
      exact J_zret dX11_lives_30 rfl (by decide) ⟨_, rfl, rfl, rfl, by unfold f_X11_lives; rw [if_neg c1, if_pos c2]⟩
    · refine J_aload_n dX11_lives_15 rfl 0 rfl ?_
      refine J_getr (ci := 11) (j := 45) (t := 1146) dX11_lives_16 fl_X11_96 (i1100 hI) rfl rfl rfl ?_
      refine J_iload_n dX11_lives_19 rfl 1 rfl ?_
      refine J_iale (x := v 1146 x1.toNatClampNeg) dX11_lives_20 (i1146 hI) rfl (h1 (by assumption)) rfl ?_
      refine J_iload_n dX11_lives_21 rfl 2 rfl ?_
      refine J_icmp_lt (tgt := 29) dX11_lives_22 (by decide) (fun c3 => ?_) (fun c3 => ?_)
      · refine J_iconst (x := 0) dX11_lives_29 (by decide) ?_
        exact J_zret dX11_lives_30 rfl (by decide) ⟨_, rfl, rfl, rfl, by unfold f_X11_lives; rw [if_neg c1, if_neg c2, if_pos c3]⟩
      · refine J_iconst (x := 1) dX11_lives_25 (by decide) ?_
        refine J_goto (tgt := 30) dX11_lives_26 (by decide) ?_
        exact J_zret dX11_lives_30 rfl (by decide) ⟨_, rfl, rfl, rfl, by unfold f_X11_lives; rw [if_neg c1, if_neg c2, if_neg c3]⟩
def f_X11_told (v : fr_V) (x1 x2 x3 : Int32) : Int32 × fr_V := (((v 1100 16) + 1) - 1, up2 (up2 (up2 (up2 (up2 v 1118 ((v 1100 16).toNatClampNeg) x1) 1119 ((v 1100 16).toNatClampNeg) x2) 1120 ((v 1100 16).toNatClampNeg) x3) 1121 ((v 1100 16).toNatClampNeg) (v 1100 3)) 1100 16 ((v 1100 16) + 1))
theorem k_X11_told {l : Launch} {I : List Nat} (hI : fr_I I) (v : fr_V) (u : fr_U) (x1 x2 x3 : Int32) (h1 : vp_in (v 1100 16) 60) : Con l mX11_told I v u [.ref 1100, .int x1, .int x2, .int x3] (QX u (fun a b => a = (f_X11_told v x1 x2 x3).1 ∧ b = (f_X11_told v x1 x2 x3).2)) := by
  refine Con.of (by decide) (Nat.le_of_ble_eq_true rfl) ?_
  show J l mX11_told I v u 0 [(0, .ref 1100), (1, .int x1), (2, .int x2), (3, .int x3)] [] _
  refine J_aload_n dX11_told_0 rfl 0 rfl ?_
  refine J_getr (ci := 11) (j := 17) (t := 1118) dX11_told_1 fl_X11_40 (i1100 hI) rfl rfl rfl ?_
  refine J_aload_n dX11_told_4 rfl 0 rfl ?_
  refine J_gete (ci := 11) (j := 16) (x := v 1100 16) dX11_told_5 fl_X11_252 (i1100 hI) rfl rfl rfl ?_
  refine J_iload_n dX11_told_8 rfl 1 rfl ?_
  refine J_iast dX11_told_9 (i1118 hI) rfl (by first | assumption | exact vp_in_nI (by omega) (by omega)) ?_
  refine J_aload_n dX11_told_10 rfl 0 rfl ?_
  refine J_getr (ci := 11) (j := 18) (t := 1119) dX11_told_11 fl_X11_43 (i1100 hI) rfl rfl rfl ?_
  refine J_aload_n dX11_told_14 rfl 0 rfl ?_
  refine J_gete (ci := 11) (j := 16) (x := v 1100 16) dX11_told_15 fl_X11_252 (i1100 hI) rfl rfl rfl ?_
  refine J_iload_n dX11_told_18 rfl 2 rfl ?_
  refine J_iast dX11_told_19 (i1119 hI) rfl (by first | assumption | exact vp_in_nI (by omega) (by omega)) ?_
  refine J_aload_n dX11_told_20 rfl 0 rfl ?_
  refine J_getr (ci := 11) (j := 19) (t := 1120) dX11_told_21 fl_X11_46 (i1100 hI) rfl rfl rfl ?_
  refine J_aload_n dX11_told_24 rfl 0 rfl ?_
  refine J_gete (ci := 11) (j := 16) (x := v 1100 16) dX11_told_25 fl_X11_252 (i1100 hI) rfl rfl rfl ?_
  refine J_iload_n dX11_told_28 rfl 3 rfl ?_
  refine J_iast dX11_told_29 (i1120 hI) rfl (by first | assumption | exact vp_in_nI (by omega) (by omega)) ?_
  refine J_aload_n dX11_told_30 rfl 0 rfl ?_
  refine J_getr (ci := 11) (j := 20) (t := 1121) dX11_told_31 fl_X11_49 (i1100 hI) rfl rfl rfl ?_
  refine J_aload_n dX11_told_34 rfl 0 rfl ?_
  refine J_gete (ci := 11) (j := 16) (x := v 1100 16) dX11_told_35 fl_X11_252 (i1100 hI) rfl rfl rfl ?_
  refine J_aload_n dX11_told_38 rfl 0 rfl ?_
  refine J_gete (ci := 11) (j := 3) (x := v 1100 3) dX11_told_39 fl_X11_208 (i1100 hI) rfl rfl rfl ?_
  refine J_iast dX11_told_42 (i1121 hI) rfl (by first | assumption | exact vp_in_nI (by omega) (by omega)) ?_
  refine J_aload_n dX11_told_43 rfl 0 rfl ?_
  refine J_dup dX11_told_44 rfl ?_
  refine J_gete (ci := 11) (j := 16) (x := v 1100 16) dX11_told_45 fl_X11_252 (i1100 hI) rfl rfl rfl ?_
  refine J_iconst (x := 1) dX11_told_48 (by decide) ?_
  refine J_iadd dX11_told_49 ?_
  refine J_puti (ci := 11) (j := 16) dX11_told_50 fl_X11_252 (i1100 hI) rfl rfl (fun q h => by cases h; rfl) rfl ?_
  refine J_aload_n dX11_told_53 rfl 0 rfl ?_
  refine J_gete (ci := 11) (j := 16) (x := (v 1100 16) + 1) dX11_told_54 fl_X11_252 (i1100 hI) rfl rfl rfl ?_
  refine J_iconst (x := 1) dX11_told_57 (by decide) ?_
  refine J_isub dX11_told_58 ?_
  exact J_iret dX11_told_59 rfl ⟨_, rfl, rfl, rfl, rfl⟩
end
section
def sp_pt (W : Nat → Int32) (r h half : Int32) (n0 : Int32) : Nat → Int32
  | 0 => n0
  | j + 1 => if W (5 * j) = r then (if W (5 * j + 4) ≤ half then sp_pt W r h half n0 j + ((if W (5 * j + 2) = h then W (5 * j + 3) else 0) - (if W (5 * j + 1) = h then W (5 * j + 3) else 0)) else sp_pt W r h half n0 j) else sp_pt W r h half n0 j
theorem sp_pt_s (W : Nat → Int32) (r h half n0 : Int32) (j : Nat) : sp_pt W r h half n0 (j + 1) = if W (5 * j) = r then (if W (5 * j + 4) ≤ half then sp_pt W r h half n0 j + ((if W (5 * j + 2) = h then W (5 * j + 3) else 0) - (if W (5 * j + 1) = h then W (5 * j + 3) else 0)) else sp_pt W r h half n0 j) else sp_pt W r h half n0 j := rfl
def sp_parts (W : Nat → Int32) (n : Nat) (bought buyer r h half : Int32) : Int32 := if bought ≤ half then sp_pt W r h half (if h = buyer then 60 else 0) n else 0
theorem k_X11_partsOf_L {l : Launch} {I : List Nat} (hI : fr_I I) (v : fr_V) (u : fr_U) (x1 x2 x3 n0 : Int32) (N : Nat) (hN : v 1100 14 = nI N) (h40 : N ≤ 40) : ∀ (d : Nat) (j : Nat) (a : Int32) (hd : N - j < d) (hj : j ≤ N) (ha : a = sp_pt (v 1116) x1 x2 x3 n0 j), J l mX11_partsOf I v u 33 [(0, .ref 1100), (1, .int x1), (2, .int x2), (3, .int x3), (4, .int a), (5, .int (nI j))] [] (QI v u (fun a => a = sp_pt (v 1116) x1 x2 x3 n0 N)) := by
  intro d
  induction d with
  | zero => intros; omega
  | succ d ih =>
    intro j a hd hj ha
    refine J_iload dX11_partsOf_33 5 rfl ?_
    refine J_aload_n dX11_partsOf_35 rfl 0 rfl ?_
    refine J_gete (ci := 11) (j := 14) (x := v 1100 14) dX11_partsOf_36 fl_X11_239 (i1100 hI) rfl rfl rfl ?_
    refine J_icmp_ge (tgt := 145) dX11_partsOf_39 (by decide) (fun c1 => ?_) (fun c1 => ?_)
    · refine J_iload dX11_partsOf_145 4 rfl ?_
      exact J_iret dX11_partsOf_147 rfl ⟨_, rfl, rfl, rfl, by have e : j = N := by {rw [hN] at c1; have := nz_le (by omega) (by omega) c1; omega}; rw [← e]; exact ha⟩
    · have hjN : j < N := by rw [hN] at c1; exact nz_nle (by omega) (by omega) c1
      refine J_aload_n dX11_partsOf_42 rfl 0 rfl ?_
      refine J_getr (ci := 11) (j := 15) (t := 1116) dX11_partsOf_43 fl_X11_37 (i1100 hI) rfl rfl rfl ?_
      refine J_iconst (x := 5) dX11_partsOf_46 (by decide) ?_
      refine J_iload dX11_partsOf_47 5 rfl ?_
      refine J_imul dX11_partsOf_49 ?_
      refine J_iale (x := v 1116 (5 * j)) dX11_partsOf_50 (i1116 hI) rfl (ix_in (j := 5 * j) (by show (nI 5) * (nI j) = _; simp only [nI_add, pk_mul]) (by omega) (by omega)) ((congrArg _ (ix_cl (j := 5 * j) (by show (nI 5) * (nI j) = _; simp only [nI_add, pk_mul]) (by omega))).trans rfl) ?_
      refine J_iload_n dX11_partsOf_51 rfl 1 rfl ?_
      refine J_icmp_ne (tgt := 139) dX11_partsOf_52 (by decide) (fun c2 => ?_) (fun c2 => ?_)
      · refine J_iinc (q := 5) (z := nI (j + 1)) (lv' := [(5, .int (nI (j + 1))), (0, .ref 1100), (1, .int x1), (2, .int x2), (3, .int x3), (4, .int a)]) dX11_partsOf_139 rfl (nI_1 j) (by decide) rfl ?_
        refine J_goto (tgt := 33) dX11_partsOf_142 (by decide) ?_
        refine J_lv [1, 2, 3, 4, 5, 0] rfl ?_
        exact ih (j + 1) _ (by omega) (by omega) (by rw [sp_pt_s, if_neg c2, ha])
      · refine J_aload_n dX11_partsOf_55 rfl 0 rfl ?_
        refine J_getr (ci := 11) (j := 15) (t := 1116) dX11_partsOf_56 fl_X11_37 (i1100 hI) rfl rfl rfl ?_
        refine J_iconst (x := 5) dX11_partsOf_59 (by decide) ?_
        refine J_iload dX11_partsOf_60 5 rfl ?_
        refine J_imul dX11_partsOf_62 ?_
        refine J_iconst (x := 4) dX11_partsOf_63 (by decide) ?_
        refine J_iadd dX11_partsOf_64 ?_
        refine J_iale (x := v 1116 ((5 * j) + 4)) dX11_partsOf_65 (i1116 hI) rfl (ix_in (j := (5 * j) + 4) (by show ((nI 5) * (nI j)) + (nI 4) = _; simp only [nI_add, pk_mul]) (by omega) (by omega)) ((congrArg _ (ix_cl (j := (5 * j) + 4) (by show ((nI 5) * (nI j)) + (nI 4) = _; simp only [nI_add, pk_mul]) (by omega))).trans rfl) ?_
        refine J_iload_n dX11_partsOf_66 rfl 3 rfl ?_
        refine J_icmp_le (tgt := 73) dX11_partsOf_67 (by decide) (fun c3 => ?_) (fun c3 => ?_)
        · refine J_iload dX11_partsOf_73 4 rfl ?_
          refine J_aload_n dX11_partsOf_75 rfl 0 rfl ?_
          refine J_getr (ci := 11) (j := 15) (t := 1116) dX11_partsOf_76 fl_X11_37 (i1100 hI) rfl rfl rfl ?_
          refine J_iconst (x := 5) dX11_partsOf_79 (by decide) ?_
          refine J_iload dX11_partsOf_80 5 rfl ?_
          refine J_imul dX11_partsOf_82 ?_
          refine J_iconst (x := 2) dX11_partsOf_83 (by decide) ?_
          refine J_iadd dX11_partsOf_84 ?_
          refine J_iale (x := v 1116 ((5 * j) + 2)) dX11_partsOf_85 (i1116 hI) rfl (ix_in (j := (5 * j) + 2) (by show ((nI 5) * (nI j)) + (nI 2) = _; simp only [nI_add, pk_mul]) (by omega) (by omega)) ((congrArg _ (ix_cl (j := (5 * j) + 2) (by show ((nI 5) * (nI j)) + (nI 2) = _; simp only [nI_add, pk_mul]) (by omega))).trans rfl) ?_
          refine J_iload_n dX11_partsOf_86 rfl 2 rfl ?_
          refine J_icmp_ne (tgt := 104) dX11_partsOf_87 (by decide) (fun c4 => ?_) (fun c4 => ?_)
          · refine J_iconst (x := 0) dX11_partsOf_104 (by decide) ?_
            refine J_aload_n dX11_partsOf_105 rfl 0 rfl ?_
            refine J_getr (ci := 11) (j := 15) (t := 1116) dX11_partsOf_106 fl_X11_37 (i1100 hI) rfl rfl rfl ?_
            refine J_iconst (x := 5) dX11_partsOf_109 (by decide) ?_
            refine J_iload dX11_partsOf_110 5 rfl ?_
            refine J_imul dX11_partsOf_112 ?_
            refine J_iconst (x := 1) dX11_partsOf_113 (by decide) ?_
            refine J_iadd dX11_partsOf_114 ?_
            refine J_iale (x := v 1116 ((5 * j) + 1)) dX11_partsOf_115 (i1116 hI) rfl (ix_in (j := (5 * j) + 1) (by show ((nI 5) * (nI j)) + (nI 1) = _; simp only [nI_add, pk_mul]) (by omega) (by omega)) ((congrArg _ (ix_cl (j := (5 * j) + 1) (by show ((nI 5) * (nI j)) + (nI 1) = _; simp only [nI_add, pk_mul]) (by omega))).trans rfl) ?_
            refine J_iload_n dX11_partsOf_116 rfl 2 rfl ?_
            refine J_icmp_ne (tgt := 134) dX11_partsOf_117 (by decide) (fun c5 => ?_) (fun c5 => ?_)
            · refine J_iconst (x := 0) dX11_partsOf_134 (by decide) ?_
              refine J_isub dX11_partsOf_135 ?_
              refine J_iadd dX11_partsOf_136 ?_
              refine J_istore (lv' := [(4, .int (a + (0 - 0))), (0, .ref 1100), (1, .int x1), (2, .int x2), (3, .int x3), (5, .int (nI j))]) dX11_partsOf_137 (by decide) rfl ?_
              refine J_iinc (q := 5) (z := nI (j + 1)) (lv' := [(5, .int (nI (j + 1))), (4, .int (a + (0 - 0))), (0, .ref 1100), (1, .int x1), (2, .int x2), (3, .int x3)]) dX11_partsOf_139 rfl (nI_1 j) (by decide) rfl ?_
              refine J_goto (tgt := 33) dX11_partsOf_142 (by decide) ?_
              refine J_lv [2, 3, 4, 5, 1, 0] rfl ?_
              exact ih (j + 1) _ (by omega) (by omega) (by rw [sp_pt_s, if_pos c2, if_pos c3, if_neg c4, if_neg c5, ha])
            · refine J_aload_n dX11_partsOf_120 rfl 0 rfl ?_
              refine J_getr (ci := 11) (j := 15) (t := 1116) dX11_partsOf_121 fl_X11_37 (i1100 hI) rfl rfl rfl ?_
              refine J_iconst (x := 5) dX11_partsOf_124 (by decide) ?_
              refine J_iload dX11_partsOf_125 5 rfl ?_
              refine J_imul dX11_partsOf_127 ?_
              refine J_iconst (x := 3) dX11_partsOf_128 (by decide) ?_
              refine J_iadd dX11_partsOf_129 ?_
              refine J_iale (x := v 1116 ((5 * j) + 3)) dX11_partsOf_130 (i1116 hI) rfl (ix_in (j := (5 * j) + 3) (by show ((nI 5) * (nI j)) + (nI 3) = _; simp only [nI_add, pk_mul]) (by omega) (by omega)) ((congrArg _ (ix_cl (j := (5 * j) + 3) (by show ((nI 5) * (nI j)) + (nI 3) = _; simp only [nI_add, pk_mul]) (by omega))).trans rfl) ?_
              refine J_goto (tgt := 135) dX11_partsOf_131 (by decide) ?_
              refine J_isub dX11_partsOf_135 ?_
              refine J_iadd dX11_partsOf_136 ?_
              refine J_istore (lv' := [(4, .int (a + (0 - (v 1116 ((5 * j) + 3))))), (0, .ref 1100), (1, .int x1), (2, .int x2), (3, .int x3), (5, .int (nI j))]) dX11_partsOf_137 (by decide) rfl ?_
              refine J_iinc (q := 5) (z := nI (j + 1)) (lv' := [(5, .int (nI (j + 1))), (4, .int (a + (0 - (v 1116 ((5 * j) + 3))))), (0, .ref 1100), (1, .int x1), (2, .int x2), (3, .int x3)]) dX11_partsOf_139 rfl (nI_1 j) (by decide) rfl ?_
              refine J_goto (tgt := 33) dX11_partsOf_142 (by decide) ?_
              refine J_lv [2, 3, 4, 5, 1, 0] rfl ?_
              exact ih (j + 1) _ (by omega) (by omega) (by rw [sp_pt_s, if_pos c2, if_pos c3, if_neg c4, if_pos c5, ha])
          · refine J_aload_n dX11_partsOf_90 rfl 0 rfl ?_
            refine J_getr (ci := 11) (j := 15) (t := 1116) dX11_partsOf_91 fl_X11_37 (i1100 hI) rfl rfl rfl ?_
            refine J_iconst (x := 5) dX11_partsOf_94 (by decide) ?_
            refine J_iload dX11_partsOf_95 5 rfl ?_
            refine J_imul dX11_partsOf_97 ?_
            refine J_iconst (x := 3) dX11_partsOf_98 (by decide) ?_
            refine J_iadd dX11_partsOf_99 ?_
            refine J_iale (x := v 1116 ((5 * j) + 3)) dX11_partsOf_100 (i1116 hI) rfl (ix_in (j := (5 * j) + 3) (by show ((nI 5) * (nI j)) + (nI 3) = _; simp only [nI_add, pk_mul]) (by omega) (by omega)) ((congrArg _ (ix_cl (j := (5 * j) + 3) (by show ((nI 5) * (nI j)) + (nI 3) = _; simp only [nI_add, pk_mul]) (by omega))).trans rfl) ?_
            refine J_goto (tgt := 105) dX11_partsOf_101 (by decide) ?_
            refine J_aload_n dX11_partsOf_105 rfl 0 rfl ?_
            refine J_getr (ci := 11) (j := 15) (t := 1116) dX11_partsOf_106 fl_X11_37 (i1100 hI) rfl rfl rfl ?_
            refine J_iconst (x := 5) dX11_partsOf_109 (by decide) ?_
            refine J_iload dX11_partsOf_110 5 rfl ?_
            refine J_imul dX11_partsOf_112 ?_
            refine J_iconst (x := 1) dX11_partsOf_113 (by decide) ?_
            refine J_iadd dX11_partsOf_114 ?_
            refine J_iale (x := v 1116 ((5 * j) + 1)) dX11_partsOf_115 (i1116 hI) rfl (ix_in (j := (5 * j) + 1) (by show ((nI 5) * (nI j)) + (nI 1) = _; simp only [nI_add, pk_mul]) (by omega) (by omega)) ((congrArg _ (ix_cl (j := (5 * j) + 1) (by show ((nI 5) * (nI j)) + (nI 1) = _; simp only [nI_add, pk_mul]) (by omega))).trans rfl) ?_
            refine J_iload_n dX11_partsOf_116 rfl 2 rfl ?_
            refine J_icmp_ne (tgt := 134) dX11_partsOf_117 (by decide) (fun c6 => ?_) (fun c6 => ?_)
            · refine J_iconst (x := 0) dX11_partsOf_134 (by decide) ?_
              refine J_isub dX11_partsOf_135 ?_
              refine J_iadd dX11_partsOf_136 ?_
              refine J_istore (lv' := [(4, .int (a + ((v 1116 ((5 * j) + 3)) - 0))), (0, .ref 1100), (1, .int x1), (2, .int x2), (3, .int x3), (5, .int (nI j))]) dX11_partsOf_137 (by decide) rfl ?_
              refine J_iinc (q := 5) (z := nI (j + 1)) (lv' := [(5, .int (nI (j + 1))), (4, .int (a + ((v 1116 ((5 * j) + 3)) - 0))), (0, .ref 1100), (1, .int x1), (2, .int x2), (3, .int x3)]) dX11_partsOf_139 rfl (nI_1 j) (by decide) rfl ?_
              refine J_goto (tgt := 33) dX11_partsOf_142 (by decide) ?_
              refine J_lv [2, 3, 4, 5, 1, 0] rfl ?_
              exact ih (j + 1) _ (by omega) (by omega) (by rw [sp_pt_s, if_pos c2, if_pos c3, if_pos c4, if_neg c6, ha])
            · refine J_aload_n dX11_partsOf_120 rfl 0 rfl ?_
              refine J_getr (ci := 11) (j := 15) (t := 1116) dX11_partsOf_121 fl_X11_37 (i1100 hI) rfl rfl rfl ?_
              refine J_iconst (x := 5) dX11_partsOf_124 (by decide) ?_
              refine J_iload dX11_partsOf_125 5 rfl ?_
              refine J_imul dX11_partsOf_127 ?_
              refine J_iconst (x := 3) dX11_partsOf_128 (by decide) ?_
              refine J_iadd dX11_partsOf_129 ?_
              refine J_iale (x := v 1116 ((5 * j) + 3)) dX11_partsOf_130 (i1116 hI) rfl (ix_in (j := (5 * j) + 3) (by show ((nI 5) * (nI j)) + (nI 3) = _; simp only [nI_add, pk_mul]) (by omega) (by omega)) ((congrArg _ (ix_cl (j := (5 * j) + 3) (by show ((nI 5) * (nI j)) + (nI 3) = _; simp only [nI_add, pk_mul]) (by omega))).trans rfl) ?_
              refine J_goto (tgt := 135) dX11_partsOf_131 (by decide) ?_
              refine J_isub dX11_partsOf_135 ?_
              refine J_iadd dX11_partsOf_136 ?_
              refine J_istore (lv' := [(4, .int (a + ((v 1116 ((5 * j) + 3)) - (v 1116 ((5 * j) + 3))))), (0, .ref 1100), (1, .int x1), (2, .int x2), (3, .int x3), (5, .int (nI j))]) dX11_partsOf_137 (by decide) rfl ?_
              refine J_iinc (q := 5) (z := nI (j + 1)) (lv' := [(5, .int (nI (j + 1))), (4, .int (a + ((v 1116 ((5 * j) + 3)) - (v 1116 ((5 * j) + 3))))), (0, .ref 1100), (1, .int x1), (2, .int x2), (3, .int x3)]) dX11_partsOf_139 rfl (nI_1 j) (by decide) rfl ?_
              refine J_goto (tgt := 33) dX11_partsOf_142 (by decide) ?_
              refine J_lv [2, 3, 4, 5, 1, 0] rfl ?_
              exact ih (j + 1) _ (by omega) (by omega) (by rw [sp_pt_s, if_pos c2, if_pos c3, if_pos c4, if_pos c6, ha])
        · refine J_goto (tgt := 139) dX11_partsOf_70 (by decide) ?_
          refine J_iinc (q := 5) (z := nI (j + 1)) (lv' := [(5, .int (nI (j + 1))), (0, .ref 1100), (1, .int x1), (2, .int x2), (3, .int x3), (4, .int a)]) dX11_partsOf_139 rfl (nI_1 j) (by decide) rfl ?_
          refine J_goto (tgt := 33) dX11_partsOf_142 (by decide) ?_
          refine J_lv [1, 2, 3, 4, 5, 0] rfl ?_
          exact ih (j + 1) _ (by omega) (by omega) (by rw [sp_pt_s, if_pos c2, if_neg c3, ha])
theorem k_X11_partsOf {l : Launch} {I : List Nat} (hI : fr_I I) (v : fr_V) (u : fr_U) (x1 x2 x3 : Int32) (N : Nat) (hN : v 1100 14 = nI N) (h40 : N ≤ 40) (h1 : vp_in x1 16) : Con l mX11_partsOf I v u [.ref 1100, .int x1, .int x2, .int x3] (QI v u (fun a => a = sp_parts (v 1116) N (v 1109 x1.toNatClampNeg) (v 1110 x1.toNatClampNeg) x1 x2 x3)) := by
  refine Con.of (by decide) (Nat.le_of_ble_eq_true rfl) ?_
  show J l mX11_partsOf I v u 0 [(0, .ref 1100), (1, .int x1), (2, .int x2), (3, .int x3)] [] _
  refine J_iload_n dX11_partsOf_0 rfl 3 rfl ?_
  refine J_aload_n dX11_partsOf_1 rfl 0 rfl ?_
  refine J_getr (ci := 11) (j := 8) (t := 1109) dX11_partsOf_2 fl_X11_19 (i1100 hI) rfl rfl rfl ?_
  refine J_iload_n dX11_partsOf_5 rfl 1 rfl ?_
  refine J_iale (x := v 1109 x1.toNatClampNeg) dX11_partsOf_6 (i1109 hI) rfl (by first | assumption | exact vp_in_nI (by omega) (by omega)) rfl ?_
  refine J_icmp_ge (tgt := 12) dX11_partsOf_7 (by decide) (fun c1 => ?_) (fun c1 => ?_)
  · refine J_iload_n dX11_partsOf_12 rfl 2 rfl ?_
    refine J_aload_n dX11_partsOf_13 rfl 0 rfl ?_
    refine J_getr (ci := 11) (j := 9) (t := 1110) dX11_partsOf_14 fl_X11_22 (i1100 hI) rfl rfl rfl ?_
    refine J_iload_n dX11_partsOf_17 rfl 1 rfl ?_
    refine J_iale (x := v 1110 x1.toNatClampNeg) dX11_partsOf_18 (i1110 hI) rfl (by first | assumption | exact vp_in_nI (by omega) (by omega)) rfl ?_
    refine J_icmp_ne (tgt := 27) dX11_partsOf_19 (by decide) (fun c2 => ?_) (fun c2 => ?_)
    · refine J_iconst (x := 0) dX11_partsOf_27 (by decide) ?_
      refine J_istore (lv' := [(4, .int 0), (0, .ref 1100), (1, .int x1), (2, .int x2), (3, .int x3)]) dX11_partsOf_28 (by decide) rfl ?_
      refine J_iconst (x := 0) dX11_partsOf_30 (by decide) ?_
      refine J_istore (lv' := [(5, .int 0), (4, .int 0), (0, .ref 1100), (1, .int x1), (2, .int x2), (3, .int x3)]) dX11_partsOf_31 (by decide) rfl ?_
      refine J_lv [2, 3, 4, 5, 1, 0] rfl ?_
      refine J_post (fun r v1 u1 hq => ?_) (k_X11_partsOf_L hI v u x1 x2 x3 0 N hN h40 (N + 1) 0 _ (by omega) (by omega) rfl)
      obtain ⟨x, h1, h2, h3, h4⟩ := hq
      exact ⟨x, h1, h2, h3, by rw [h4]; unfold sp_parts; rw [if_pos c1, if_neg c2]⟩
    · refine J_bipush (x := 60) dX11_partsOf_22 (by decide) ?_
      refine J_goto (tgt := 28) dX11_partsOf_24 (by decide) ?_
      refine J_istore (lv' := [(4, .int 60), (0, .ref 1100), (1, .int x1), (2, .int x2), (3, .int x3)]) dX11_partsOf_28 (by decide) rfl ?_
      refine J_iconst (x := 0) dX11_partsOf_30 (by decide) ?_
      refine J_istore (lv' := [(5, .int 0), (4, .int 60), (0, .ref 1100), (1, .int x1), (2, .int x2), (3, .int x3)]) dX11_partsOf_31 (by decide) rfl ?_
      refine J_lv [2, 3, 4, 5, 1, 0] rfl ?_
      refine J_post (fun r v1 u1 hq => ?_) (k_X11_partsOf_L hI v u x1 x2 x3 60 N hN h40 (N + 1) 0 _ (by omega) (by omega) rfl)
      obtain ⟨x, h1, h2, h3, h4⟩ := hq
      exact ⟨x, h1, h2, h3, by rw [h4]; unfold sp_parts; rw [if_pos c1, if_pos c2]⟩
  · refine J_iconst (x := 0) dX11_partsOf_10 (by decide) ?_
    exact J_iret dX11_partsOf_11 rfl ⟨_, rfl, rfl, rfl, by unfold sp_parts; rw [if_neg c1]⟩
end
section
noncomputable def cI (p : Prop) : Int32 := @ite Int32 p (Classical.propDecidable p) 1 0
theorem cI_pos {p : Prop} (h : p) : cI p = 1 := by unfold cI; exact if_pos h
theorem cI_neg {p : Prop} (h : ¬ p) : cI p = 0 := by unfold cI; exact if_neg h
theorem cI_congr {p q : Prop} (h : p ↔ q) : cI p = cI q := by
  by_cases hp : p
  · rw [cI_pos hp, cI_pos (h.mp hp)]
  · rw [cI_neg hp, cI_neg (fun x => hp (h.mpr x))]
theorem cI_ne {p : Prop} : ¬ cI p = 0 ↔ p := by
  by_cases hp : p
  · rw [cI_pos hp]; exact ⟨fun _ => hp, fun _ => by decide⟩
  · rw [cI_neg hp]; exact ⟨fun h => absurd rfl h, fun h => absurd h hp⟩
theorem cI_eq {p : Prop} : cI p = 0 ↔ ¬ p := by
  by_cases hp : p
  · rw [cI_pos hp]; exact ⟨fun h => absurd h (by decide), fun h => absurd hp h⟩
  · rw [cI_neg hp]; exact ⟨fun _ => hp, fun _ => rfl⟩
theorem cI_nar {p : Prop} : narrow .boolean (.int (cI p)) = .int (cI p) := by
  by_cases hp : p
  · rw [cI_pos hp]; rfl
  · rw [cI_neg hp]; rfl
def kn1 (T : Nat → Int32) (k : Int32) (f0 : Nat → Int32) : Nat → Nat → Int32
  | 0 => f0
  | j + 1 => upd (kn1 T k f0 j) j (if k < T j then 0 else 1)
theorem kn1_s (T : Nat → Int32) (k : Int32) (f0 : Nat → Int32) (j : Nat) : kn1 T k f0 (j + 1) = upd (kn1 T k f0 j) j (if k < T j then 0 else 1) := rfl
def kn2 (S O : Nat → Int32) : Nat → (Nat → Int32) → Nat → Int32
  | 0, f => f
  | t + 1, f => kn2 S O t (if S t = 2 then (if f t = 0 then f else upd f (O t).toNatClampNeg 0) else f)
theorem kn2_s (S O : Nat → Int32) (t : Nat) (f : Nat → Int32) : kn2 S O (t + 1) f = kn2 S O t (if S t = 2 then (if f t = 0 then f else upd f (O t).toNatClampNeg 0) else f) := rfl
def kn3 (f0 : Nat → Int32) : Nat → Nat → Int32
  | 0 => f0
  | j + 1 => upd (kn3 f0 j) j (-1)
theorem kn3_s (f0 : Nat → Int32) (j : Nat) : kn3 f0 (j + 1) = upd (kn3 f0 j) j (-1) := rfl
def kn4 (S O H C f0 : Nat → Int32) : Nat → Nat → Int32
  | 0 => f0
  | j + 1 => if S j = 1 then (if C j = 0 then kn4 S O H C f0 j else upd (kn4 S O H C f0 j) (O j).toNatClampNeg (H j)) else kn4 S O H C f0 j
theorem kn4_s (S O H C f0 : Nat → Int32) (j : Nat) : kn4 S O H C f0 (j + 1) = if S j = 1 then (if C j = 0 then kn4 S O H C f0 j else upd (kn4 S O H C f0 j) (O j).toNatClampNeg (H j)) else kn4 S O H C f0 j := rfl
/-- what counts, and who is dead, as known in k: out of the four rows of the notes -/
def sp_cn (S O T f0 : Nat → Int32) (N : Nat) (k : Int32) : Nat → Int32 := kn2 S O N (kn1 T k f0 N)
def sp_dd (S O H C g0 : Nat → Int32) (N : Nat) : Nat → Int32 := kn4 S O H C (kn3 g0 12) N
/-- the notes' rows stand in their bounds -/
def nt_ok (S O : Nat → Int32) (N : Nat) : Prop := N ≤ 60 ∧ ∀ j, j < N → (S j = 2 → vp_in (O j) 60) ∧ (¬ S j = 2 → vp_in (O j) 12)
theorem kn_L4 {l : Launch} {I : List Nat} (hI : fr_I I) (v : fr_V) (u : fr_U) (x1 : Int32) (N : Nat) (hN : v 1100 16 = nI N) (hW : nt_ok (v 1118) (v 1119) N) (hN60 : N ≤ 60) (C g0 : Nat → Int32) : ∀ (d j : Nat) (G : Nat → Int32) (hd : N - j < d) (hj : j ≤ N) (hG : G = kn4 (v 1118) (v 1119) (v 1120) C g0 j), J l mX11_know I (upA (upA v 1145 C) 1146 G) u 108 [(0, .ref 1100), (1, .int x1), (2, .int (nI j))] [] (QN u (fun a => a = upA (upA v 1145 C) 1146 (kn4 (v 1118) (v 1119) (v 1120) C g0 N))) := by
  intro d
  induction d with
  | zero => intros; omega
  | succ d ih =>
    intro j G hd hj hG
    refine J_iload_n dX11_know_108 rfl 2 rfl ?_
    refine J_aload_n dX11_know_109 rfl 0 rfl ?_
    refine J_gete (ci := 11) (j := 16) (x := v 1100 16) dX11_know_110 fl_X11_252 (i1100 hI) rfl rfl rfl ?_
    refine J_icmp_ge (tgt := 158) dX11_know_113 (by decide) (fun c1 => ?_) (fun c1 => ?_)
    · exact J_vret dX11_know_158 rfl ⟨rfl, rfl, by have e : j = N := by {rw [hN] at c1; have := nz_le (by omega) (by omega) c1; omega}; rw [← e, hG]⟩
    · have hjN : j < N := by rw [hN] at c1; exact nz_nle (by omega) (by omega) c1
      refine J_aload_n dX11_know_116 rfl 0 rfl ?_
      refine J_getr (ci := 11) (j := 17) (t := 1118) dX11_know_117 fl_X11_40 (i1100 hI) rfl rfl rfl ?_
      refine J_iload_n dX11_know_120 rfl 2 rfl ?_
      refine J_iale (x := v 1118 j) dX11_know_121 (i1118 hI) rfl (ix_in (j := j) rfl (by omega) (by omega)) ((congrArg _ (ix_cl (j := j) rfl (by omega))).trans rfl) ?_
      refine J_iconst (x := 1) dX11_know_122 (by decide) ?_
      refine J_icmp_ne (tgt := 152) dX11_know_123 (by decide) (fun c2 => ?_) (fun c2 => ?_)
      · refine J_iinc (q := 2) (z := nI (j + 1)) (lv' := [(2, .int (nI (j + 1))), (0, .ref 1100), (1, .int x1)]) dX11_know_152 rfl (nI_1 j) (by decide) rfl ?_
        refine J_goto (tgt := 108) dX11_know_155 (by decide) ?_
        refine J_lv [1, 2, 0] rfl ?_
        exact ih (j + 1) _ (by omega) (by omega) (by rw [kn4_s, if_neg c2, hG])
      · refine J_aload_n dX11_know_126 rfl 0 rfl ?_
        refine J_getr (ci := 11) (j := 44) (t := 1145) dX11_know_127 fl_X11_93 (i1100 hI) rfl rfl rfl ?_
        refine J_iload_n dX11_know_130 rfl 2 rfl ?_
        refine J_zale (x := C j) dX11_know_131 (i1145 hI) rfl (ix_in (j := j) rfl (by omega) (by omega)) ((congrArg _ (ix_cl (j := j) rfl (by omega))).trans rfl) ?_
        refine J_if_eq (tgt := 152) dX11_know_132 (by decide) (fun c3 => ?_) (fun c3 => ?_)
        · refine J_iinc (q := 2) (z := nI (j + 1)) (lv' := [(2, .int (nI (j + 1))), (0, .ref 1100), (1, .int x1)]) dX11_know_152 rfl (nI_1 j) (by decide) rfl ?_
          refine J_goto (tgt := 108) dX11_know_155 (by decide) ?_
          refine J_lv [1, 2, 0] rfl ?_
          exact ih (j + 1) _ (by omega) (by omega) (by rw [kn4_s, if_pos c2, if_pos c3, hG])
        · refine J_aload_n dX11_know_135 rfl 0 rfl ?_
          refine J_getr (ci := 11) (j := 45) (t := 1146) dX11_know_136 fl_X11_96 (i1100 hI) rfl rfl rfl ?_
          refine J_aload_n dX11_know_139 rfl 0 rfl ?_
          refine J_getr (ci := 11) (j := 18) (t := 1119) dX11_know_140 fl_X11_43 (i1100 hI) rfl rfl rfl ?_
          refine J_iload_n dX11_know_143 rfl 2 rfl ?_
          refine J_iale (x := v 1119 j) dX11_know_144 (i1119 hI) rfl (ix_in (j := j) rfl (by omega) (by omega)) ((congrArg _ (ix_cl (j := j) rfl (by omega))).trans rfl) ?_
          refine J_aload_n dX11_know_145 rfl 0 rfl ?_
          refine J_getr (ci := 11) (j := 19) (t := 1120) dX11_know_146 fl_X11_46 (i1100 hI) rfl rfl rfl ?_
          refine J_iload_n dX11_know_149 rfl 2 rfl ?_
          refine J_iale (x := v 1120 j) dX11_know_150 (i1120 hI) rfl (ix_in (j := j) rfl (by omega) (by omega)) ((congrArg _ (ix_cl (j := j) rfl (by omega))).trans rfl) ?_
          refine J_iast dX11_know_151 (i1146 hI) rfl ((hW.2 j hjN).2 (by rw [c2]; decide)) ?_
          refine J_iinc (q := 2) (z := nI (j + 1)) (lv' := [(2, .int (nI (j + 1))), (0, .ref 1100), (1, .int x1)]) dX11_know_152 rfl (nI_1 j) (by decide) rfl ?_
          refine J_goto (tgt := 108) dX11_know_155 (by decide) ?_
          refine J_lv [1, 2, 0] rfl ?_
          rw [up2_upA]
          exact ih (j + 1) _ (by omega) (by omega) (by rw [kn4_s, if_pos c2, if_neg c3, hG])
theorem kn_L3 {l : Launch} {I : List Nat} (hI : fr_I I) (v : fr_V) (u : fr_U) (x1 : Int32) (N : Nat) (hN : v 1100 16 = nI N) (hW : nt_ok (v 1118) (v 1119) N) (hN60 : N ≤ 60) (C g0 : Nat → Int32) : ∀ (d j : Nat) (G : Nat → Int32) (hd : 12 - j < d) (hj : j ≤ 12) (hG : G = kn3 g0 j), J l mX11_know I (upA (upA v 1145 C) 1146 G) u 87 [(0, .ref 1100), (1, .int x1), (2, .int (nI j))] [] (QN u (fun a => a = upA (upA v 1145 C) 1146 (kn4 (v 1118) (v 1119) (v 1120) C (kn3 g0 12) N))) := by
  intro d
  induction d with
  | zero => intros; omega
  | succ d ih =>
    intro j G hd hj hG
    refine J_iload_n dX11_know_87 rfl 2 rfl ?_
    refine J_bipush (x := 12) dX11_know_88 (by decide) ?_
    refine J_icmp_ge (tgt := 106) dX11_know_90 (by decide) (fun c1 => ?_) (fun c1 => ?_)
    · refine J_iconst (x := 0) dX11_know_106 (by decide) ?_
      refine J_istore_n (lv' := [(2, .int 0), (0, .ref 1100), (1, .int x1)]) dX11_know_107 rfl (by decide) rfl ?_
      refine J_lv [1, 2, 0] rfl ?_
      have e : j = 12 := by have := nz_le (a := 12) (by omega) (by omega) c1; omega
      rw [hG, e]
      exact kn_L4 hI v u x1 N hN hW hN60 C _ (N + 1) 0 _ (by omega) (by omega) rfl
    · have hj12 : j < 12 := nz_nle (a := 12) (by omega) (by omega) c1
      refine J_aload_n dX11_know_93 rfl 0 rfl ?_
      refine J_getr (ci := 11) (j := 45) (t := 1146) dX11_know_94 fl_X11_96 (i1100 hI) rfl rfl rfl ?_
      refine J_iload_n dX11_know_97 rfl 2 rfl ?_
      refine J_iconst (x := (-1)) dX11_know_98 (by decide) ?_
      refine J_iase (j := j) dX11_know_99 (i1146 hI) rfl (ix_in (j := j) rfl (by omega) (by omega)) (ix_cl (j := j) rfl (by omega)) ?_
      refine J_iinc (q := 2) (z := nI (j + 1)) (lv' := [(2, .int (nI (j + 1))), (0, .ref 1100), (1, .int x1)]) dX11_know_100 rfl (nI_1 j) (by decide) rfl ?_
      refine J_goto (tgt := 87) dX11_know_103 (by decide) ?_
      refine J_lv [1, 2, 0] rfl ?_
      rw [up2_upA]
      exact ih (j + 1) _ (by omega) (by omega) (by rw [kn3_s, hG])
theorem kn_L2 {l : Launch} {I : List Nat} (hI : fr_I I) (v : fr_V) (u : fr_U) (x1 : Int32) (N : Nat) (hN : v 1100 16 = nI N) (hW : nt_ok (v 1118) (v 1119) N) (hN60 : N ≤ 60) : ∀ (t : Nat) (f : Nat → Int32) (ht : t ≤ N), J l mX11_know I (upA v 1145 f) u 44 [(0, .ref 1100), (1, .int x1), (2, .int (nI t - 1))] [] (QN u (fun a => a = upA (upA v 1145 (kn2 (v 1118) (v 1119) t f)) 1146 (kn4 (v 1118) (v 1119) (v 1120) (kn2 (v 1118) (v 1119) t f) (kn3 (v 1146) 12) N))) := by
  intro t
  induction t with
  | zero =>
    intro f ht
    refine J_iload_n dX11_know_44 rfl 2 rfl ?_
    refine J_if_lt (tgt := 85) dX11_know_45 (by decide) (fun c1 => ?_) (fun c1 => absurd dn_0 c1)
    refine J_iconst (x := 0) dX11_know_85 (by decide) ?_
    refine J_istore_n (lv' := [(2, .int 0), (0, .ref 1100), (1, .int x1)]) dX11_know_86 rfl (by decide) rfl ?_
    refine J_lv [1, 2, 0] rfl ?_
    refine J_ve (w := upA (upA v 1145 f) 1146 (v 1146)) (by funext b; unfold upA; by_cases h : b = 1146 <;> simp [h]) ?_
    exact kn_L3 hI v u x1 N hN hW hN60 f (v 1146) 13 0 _ (by omega) (by omega) rfl
  | succ s ih =>
    intro f ht
    rw [nI_pred]
    refine J_iload_n dX11_know_44 rfl 2 rfl ?_
    refine J_if_lt (tgt := 85) dX11_know_45 (by decide) (fun c1 => absurd c1 (nI_pos (by omega))) (fun c1 => ?_)
    refine J_aload_n dX11_know_48 rfl 0 rfl ?_
    refine J_getr (ci := 11) (j := 17) (t := 1118) dX11_know_49 fl_X11_40 (i1100 hI) rfl rfl rfl ?_
    refine J_iload_n dX11_know_52 rfl 2 rfl ?_
    refine J_iale (x := v 1118 s) dX11_know_53 (i1118 hI) rfl (ix_in (j := s) rfl (by omega) (by omega)) ((congrArg _ (ix_cl (j := s) rfl (by omega))).trans rfl) ?_
    refine J_iconst (x := 2) dX11_know_54 (by decide) ?_
    refine J_icmp_ne (tgt := 79) dX11_know_55 (by decide) (fun c2 => ?_) (fun c2 => ?_)
    · refine J_iinc (q := 2) (z := nI s - 1) (lv' := [(2, .int (nI s - 1)), (0, .ref 1100), (1, .int x1)]) dX11_know_79 rfl (dn_1 s) (by decide) rfl ?_
      refine J_goto (tgt := 44) dX11_know_82 (by decide) ?_
      refine J_lv [1, 2, 0] rfl ?_
      rw [kn2_s, if_neg c2]
      exact ih _ (by omega)
    · refine J_aload_n dX11_know_58 rfl 0 rfl ?_
      refine J_getr (ci := 11) (j := 44) (t := 1145) dX11_know_59 fl_X11_93 (i1100 hI) rfl rfl rfl ?_
      refine J_iload_n dX11_know_62 rfl 2 rfl ?_
      refine J_zale (x := f s) dX11_know_63 (i1145 hI) rfl (ix_in (j := s) rfl (by omega) (by omega)) ((congrArg _ (ix_cl (j := s) rfl (by omega))).trans rfl) ?_
      refine J_if_eq (tgt := 79) dX11_know_64 (by decide) (fun c3 => ?_) (fun c3 => ?_)
      · refine J_iinc (q := 2) (z := nI s - 1) (lv' := [(2, .int (nI s - 1)), (0, .ref 1100), (1, .int x1)]) dX11_know_79 rfl (dn_1 s) (by decide) rfl ?_
        refine J_goto (tgt := 44) dX11_know_82 (by decide) ?_
        refine J_lv [1, 2, 0] rfl ?_
        rw [kn2_s, if_pos c2, if_pos c3]
        exact ih _ (by omega)
      · refine J_aload_n dX11_know_67 rfl 0 rfl ?_
        refine J_getr (ci := 11) (j := 44) (t := 1145) dX11_know_68 fl_X11_93 (i1100 hI) rfl rfl rfl ?_
        refine J_aload_n dX11_know_71 rfl 0 rfl ?_
        refine J_getr (ci := 11) (j := 18) (t := 1119) dX11_know_72 fl_X11_43 (i1100 hI) rfl rfl rfl ?_
        refine J_iload_n dX11_know_75 rfl 2 rfl ?_
        refine J_iale (x := v 1119 s) dX11_know_76 (i1119 hI) rfl (ix_in (j := s) rfl (by omega) (by omega)) ((congrArg _ (ix_cl (j := s) rfl (by omega))).trans rfl) ?_
        refine J_iconst (x := 0) dX11_know_77 (by decide) ?_
        refine J_zast dX11_know_78 (i1145 hI) rfl ((hW.2 s (by omega)).1 c2) (by decide) ?_
        refine J_iinc (q := 2) (z := nI s - 1) (lv' := [(2, .int (nI s - 1)), (0, .ref 1100), (1, .int x1)]) dX11_know_79 rfl (dn_1 s) (by decide) rfl ?_
        refine J_goto (tgt := 44) dX11_know_82 (by decide) ?_
        refine J_lv [1, 2, 0] rfl ?_
        rw [up2_upA]
        rw [kn2_s, if_pos c2, if_neg c3]
        exact ih _ (by omega)
def f_know (v : fr_V) (N : Nat) (k : Int32) : fr_V := upA (upA v 1145 (sp_cn (v 1118) (v 1119) (v 1121) (v 1145) N k)) 1146 (sp_dd (v 1118) (v 1119) (v 1120) (sp_cn (v 1118) (v 1119) (v 1121) (v 1145) N k) (v 1146) N)
theorem kn_L1 {l : Launch} {I : List Nat} (hI : fr_I I) (v : fr_V) (u : fr_U) (x1 : Int32) (N : Nat) (hN : v 1100 16 = nI N) (hW : nt_ok (v 1118) (v 1119) N) (hN60 : N ≤ 60) : ∀ (d j : Nat) (F : Nat → Int32) (hd : N - j < d) (hj : j ≤ N) (hF : F = kn1 (v 1121) x1 (v 1145) j), J l mX11_know I (upA v 1145 F) u 2 [(0, .ref 1100), (1, .int x1), (2, .int (nI j))] [] (QN u (fun a => a = f_know v N x1)) := by
  intro d
  induction d with
  | zero => intros; omega
  | succ d ih =>
    intro j F hd hj hF
    refine J_iload_n dX11_know_2 rfl 2 rfl ?_
    refine J_aload_n dX11_know_3 rfl 0 rfl ?_
    refine J_gete (ci := 11) (j := 16) (x := v 1100 16) dX11_know_4 fl_X11_252 (i1100 hI) rfl rfl rfl ?_
    refine J_icmp_ge (tgt := 37) dX11_know_7 (by decide) (fun c1 => ?_) (fun c1 => ?_)
    · refine J_aload_n dX11_know_37 rfl 0 rfl ?_
      refine J_gete (ci := 11) (j := 16) (x := v 1100 16) dX11_know_38 fl_X11_252 (i1100 hI) rfl rfl rfl ?_
      refine J_iconst (x := 1) dX11_know_41 (by decide) ?_
      refine J_isub dX11_know_42 ?_
      refine J_istore_n (lv' := [(2, .int ((v 1100 16) - 1)), (0, .ref 1100), (1, .int x1)]) dX11_know_43 rfl (by decide) rfl ?_
      refine J_lv [1, 2, 0] rfl ?_
      have e : j = N := by {rw [hN] at c1; have := nz_le (by omega) (by omega) c1; omega}
      rw [hN, hF, e]
      exact kn_L2 hI v u x1 N hN hW hN60 N _ (Nat.le_refl _)
    · have hjN : j < N := by rw [hN] at c1; exact nz_nle (by omega) (by omega) c1
      refine J_aload_n dX11_know_10 rfl 0 rfl ?_
      refine J_getr (ci := 11) (j := 44) (t := 1145) dX11_know_11 fl_X11_93 (i1100 hI) rfl rfl rfl ?_
      refine J_iload_n dX11_know_14 rfl 2 rfl ?_
      refine J_aload_n dX11_know_15 rfl 0 rfl ?_
      refine J_getr (ci := 11) (j := 20) (t := 1121) dX11_know_16 fl_X11_49 (i1100 hI) rfl rfl rfl ?_
      refine J_iload_n dX11_know_19 rfl 2 rfl ?_
      refine J_iale (x := v 1121 j) dX11_know_20 (i1121 hI) rfl (ix_in (j := j) rfl (by omega) (by omega)) ((congrArg _ (ix_cl (j := j) rfl (by omega))).trans rfl) ?_
      refine J_iload_n dX11_know_21 rfl 1 rfl ?_
      refine J_icmp_gt (tgt := 29) dX11_know_22 (by decide) (fun c2 => ?_) (fun c2 => ?_)
      · refine J_iconst (x := 0) dX11_know_29 (by decide) ?_
        refine J_zase (j := j) dX11_know_30 (i1145 hI) rfl (ix_in (j := j) rfl (by omega) (by omega)) (ix_cl (j := j) rfl (by omega)) (by decide) ?_
        refine J_iinc (q := 2) (z := nI (j + 1)) (lv' := [(2, .int (nI (j + 1))), (0, .ref 1100), (1, .int x1)]) dX11_know_31 rfl (nI_1 j) (by decide) rfl ?_
        refine J_goto (tgt := 2) dX11_know_34 (by decide) ?_
        refine J_lv [1, 2, 0] rfl ?_
        rw [up2_upA]
        exact ih (j + 1) _ (by omega) (by omega) (by rw [kn1_s, if_pos c2, hF])
      · refine J_iconst (x := 1) dX11_know_25 (by decide) ?_
        refine J_goto (tgt := 30) dX11_know_26 (by decide) ?_
        refine J_zase (j := j) dX11_know_30 (i1145 hI) rfl (ix_in (j := j) rfl (by omega) (by omega)) (ix_cl (j := j) rfl (by omega)) (by decide) ?_
        refine J_iinc (q := 2) (z := nI (j + 1)) (lv' := [(2, .int (nI (j + 1))), (0, .ref 1100), (1, .int x1)]) dX11_know_31 rfl (nI_1 j) (by decide) rfl ?_
        refine J_goto (tgt := 2) dX11_know_34 (by decide) ?_
        refine J_lv [1, 2, 0] rfl ?_
        rw [up2_upA]
        exact ih (j + 1) _ (by omega) (by omega) (by rw [kn1_s, if_neg c2, hF])
theorem k_X11_know {l : Launch} {I : List Nat} (hI : fr_I I) (v : fr_V) (u : fr_U) (x1 : Int32) (N : Nat) (hN : v 1100 16 = nI N) (hW : nt_ok (v 1118) (v 1119) N) : Con l mX11_know I v u [.ref 1100, .int x1] (QN u (fun a => a = f_know v N x1)) := by
  refine Con.of (by decide) (Nat.le_of_ble_eq_true rfl) ?_
  show J l mX11_know I v u 0 [(0, .ref 1100), (1, .int x1)] [] _
  refine J_iconst (x := 0) dX11_know_0 (by decide) ?_
  refine J_istore_n (lv' := [(2, .int 0), (0, .ref 1100), (1, .int x1)]) dX11_know_1 rfl (by decide) rfl ?_
  refine J_lv [1, 2, 0] rfl ?_
  refine J_ve (w := upA v 1145 (v 1145)) (upA_id v 1145).symm ?_
  exact kn_L1 hI v u x1 N hN hW hW.1 (N + 1) 0 _ (by omega) (by omega) rfl
end
section
theorem lim_in {x a : Int32} {n m : Nat} (hn : a = nI n) (h : n ≤ m) (hm : m < 2 ^ 31) (h1 : ¬ x < 0) (h2 : ¬ a ≤ x) : vp_in x m := by
  obtain ⟨j, hj, rfl⟩ := nI_of h1
  have hj2 : j < n := by rw [hn] at h2; exact nz_nle (by omega) hj h2
  exact vp_in_nI (by omega) hm
theorem lim_ne {v : fr_V} {x : Int32} {k : Nat} (c : ¬ (if x < 0 then (0 : Int32) else if v 1100 k ≤ x then 0 else 1) = 0) : ¬ x < 0 ∧ ¬ v 1100 k ≤ x := by
  by_cases h1 : x < 0
  · rw [if_pos h1] at c; exact absurd rfl c
  · by_cases h2 : v 1100 k ≤ x
    · rw [if_neg h1, if_pos h2] at c; exact absurd rfl c
    · exact ⟨h1, h2⟩
theorem lf_in {v : fr_V} {x : Int32} {n : Nat} (hL : v 1100 4 = nI n) (hL2 : n ≤ 12) (c : ¬ f_X11_isLife v x = 0) : vp_in x 12 := lim_in hL hL2 (by omega) (lim_ne (v := v) (k := 4) c).1 (lim_ne (v := v) (k := 4) c).2
theorem rt_in {v : fr_V} {x : Int32} {n : Nat} (hR : v 1100 7 = nI n) (hR2 : n ≤ 16) (c : ¬ f_X11_isRent v x = 0) : vp_in x 16 := lim_in hR hR2 (by omega) (lim_ne (v := v) (k := 7) c).1 (lim_ne (v := v) (k := 7) c).2
theorem nt_in {x : Int32} {N : Nat} (hN : x = nI N) (h : N ≤ 60) (c : ¬ x = 60) : vp_in x 60 := by
  rw [hN]
  exact vp_in_nI (Nat.lt_of_le_of_ne h (fun e => c (by rw [hN, e]; rfl))) (by omega)
theorem lv_in {x : Int32} {n : Nat} (hL : x = nI n) (h : n ≤ 12) (c : ¬ x = 12) : vp_in x 12 := by
  rw [hL]
  exact vp_in_nI (Nat.lt_of_le_of_ne h (fun e => c (by rw [hL, e]; rfl))) (by omega)
theorem isIn_ne {v : fr_V} {x a b : Int32} (c : ¬ f_X11_isIn v x a b = 0) : ¬ x < a ∧ ¬ b < x := by
  unfold f_X11_isIn at c
  by_cases h1 : x < a
  · rw [if_pos h1] at c; exact absurd rfl c
  · by_cases h2 : b < x
    · rw [if_neg h1, if_pos h2] at c; exact absurd rfl c
    · exact ⟨h1, h2⟩
theorem rng_of {x : Int32} {m : Nat} (hm : m < 2 ^ 31) (h1 : ¬ x < 0) (h2 : ¬ nI m < x) : ∃ j, j ≤ m ∧ x = nI j := by
  obtain ⟨j, hj, rfl⟩ := nI_of h1
  refine ⟨j, Nat.le_of_not_lt (fun h => h2 (nI_lt h hj)), rfl⟩
theorem tb_in {v w : fr_V} {x z : Int32} (c1 : ¬ f_X11_isIn v x 0 3 = 0) (c2 : ¬ f_X11_isIn w z 0 9 = 0) : vp_in (10 * x + z) 40 := by
  obtain ⟨i, hi, rfl⟩ := rng_of (m := 3) (by omega) (isIn_ne c1).1 (isIn_ne c1).2
  obtain ⟨j, hj, rfl⟩ := rng_of (m := 9) (by omega) (isIn_ne c2).1 (isIn_ne c2).2
  show vp_in (nI 10 * nI i + nI j) 40
  rw [pk_mul, nI_add]
  exact vp_in_nI (by omega) (by omega)
def f_X11_isDue (v : fr_V) (x1 x2 : Int32) : Int32 := if x2 ≤ (v 1109 x1.toNatClampNeg) then 0 else if (f_X11_lives v  (v 1111 x1.toNatClampNeg) x2) = 0 then (if (f_X11_lives v  (v 1112 x1.toNatClampNeg) x2) = 0 then 0 else 1) else 1
theorem k_X11_isDue {l : Launch} {I : List Nat} (hI : fr_I I) (v : fr_V) (u : fr_U) (x1 x2 : Int32) (h1 : vp_in x1 16) (h2 : ¬ v 1111 x1.toNatClampNeg = (-1) → vp_in (v 1111 x1.toNatClampNeg) 12) (h3 : ¬ v 1112 x1.toNatClampNeg = (-1) → vp_in (v 1112 x1.toNatClampNeg) 12) : Con l mX11_isDue I v u [.ref 1100, .int x1, .int x2] (QI v u (fun a => a = f_X11_isDue v x1 x2)) := by
  refine Con.of (by decide) (Nat.le_of_ble_eq_true rfl) ?_
  show J l mX11_isDue I v u 0 [(0, .ref 1100), (1, .int x1), (2, .int x2)] [] _
  refine J_iload_n dX11_isDue_0 rfl 2 rfl ?_
  refine J_aload_n dX11_isDue_1 rfl 0 rfl ?_
  refine J_getr (ci := 11) (j := 8) (t := 1109) dX11_isDue_2 fl_X11_19 (i1100 hI) rfl rfl rfl ?_
  refine J_iload_n dX11_isDue_5 rfl 1 rfl ?_
  refine J_iale (x := v 1109 x1.toNatClampNeg) dX11_isDue_6 (i1109 hI) rfl (by first | assumption | exact vp_in_nI (by omega) (by omega)) rfl ?_
  refine J_icmp_le (tgt := 42) dX11_isDue_7 (by decide) (fun c1 => ?_) (fun c1 => ?_)
  · refine J_iconst (x := 0) dX11_isDue_42 (by decide) ?_
    exact J_zret dX11_isDue_43 rfl (by decide) ⟨_, rfl, rfl, rfl, by unfold f_X11_isDue; rw [if_pos c1]⟩
  · refine J_aload_n dX11_isDue_10 rfl 0 rfl ?_
    refine J_aload_n dX11_isDue_11 rfl 0 rfl ?_
    refine J_getr (ci := 11) (j := 10) (t := 1111) dX11_isDue_12 fl_X11_25 (i1100 hI) rfl rfl rfl ?_
    refine J_iload_n dX11_isDue_15 rfl 1 rfl ?_
    refine J_iale (x := v 1111 x1.toNatClampNeg) dX11_isDue_16 (i1111 hI) rfl (by first | assumption | exact vp_in_nI (by omega) (by omega)) rfl ?_
    refine J_iload_n dX11_isDue_17 rfl 2 rfl ?_
    refine J_eVI (z := mX11_lives) (As := [.int (v 1111 x1.toNatClampNeg), .int x2]) (rest := []) (ci := 11) (x := f_X11_lives v  (v 1111 x1.toNatClampNeg) x2) dX11_isDue_18 ml_X11_264 ok_X11_lives iv_X11_lives (by decide) (i1100 hI) rfl rfl rfl rfl (Nat.le_of_ble_eq_true rfl) (k_X11_lives hI v u _ _ (by first | assumption | exact lf_in hL hL2 (by assumption) | exact rt_in hR hR2 (by assumption) | exact nt_in hN hW.1 (by assumption))) ?_
    refine J_if_ne (tgt := 38) dX11_isDue_21 (by decide) (fun c2 => ?_) (fun c2 => ?_)
    · refine J_iconst (x := 1) dX11_isDue_38 (by decide) ?_
      refine J_goto (tgt := 43) dX11_isDue_39 (by decide) ?_
      exact J_zret dX11_isDue_43 rfl (by decide) ⟨_, rfl, rfl, rfl, by unfold f_X11_isDue; rw [if_neg c1, if_neg c2]⟩
    · refine J_aload_n dX11_isDue_24 rfl 0 rfl ?_
      refine J_aload_n dX11_isDue_25 rfl 0 rfl ?_
      refine J_getr (ci := 11) (j := 11) (t := 1112) dX11_isDue_26 fl_X11_28 (i1100 hI) rfl rfl rfl ?_
      refine J_iload_n dX11_isDue_29 rfl 1 rfl ?_
      refine J_iale (x := v 1112 x1.toNatClampNeg) dX11_isDue_30 (i1112 hI) rfl (by first | assumption | exact vp_in_nI (by omega) (by omega)) rfl ?_
      refine J_iload_n dX11_isDue_31 rfl 2 rfl ?_
      refine J_eVI (z := mX11_lives) (As := [.int (v 1112 x1.toNatClampNeg), .int x2]) (rest := []) (ci := 11) (x := f_X11_lives v  (v 1112 x1.toNatClampNeg) x2) dX11_isDue_32 ml_X11_264 ok_X11_lives iv_X11_lives (by decide) (i1100 hI) rfl rfl rfl rfl (Nat.le_of_ble_eq_true rfl) (k_X11_lives hI v u _ _ (by first | assumption | exact lf_in hL hL2 (by assumption) | exact rt_in hR hR2 (by assumption) | exact nt_in hN hW.1 (by assumption))) ?_
      refine J_if_eq (tgt := 42) dX11_isDue_35 (by decide) (fun c3 => ?_) (fun c3 => ?_)
      · refine J_iconst (x := 0) dX11_isDue_42 (by decide) ?_
        exact J_zret dX11_isDue_43 rfl (by decide) ⟨_, rfl, rfl, rfl, by unfold f_X11_isDue; rw [if_neg c1, if_pos c2, if_pos c3]⟩
      · refine J_iconst (x := 1) dX11_isDue_38 (by decide) ?_
        refine J_goto (tgt := 43) dX11_isDue_39 (by decide) ?_
        exact J_zret dX11_isDue_43 rfl (by decide) ⟨_, rfl, rfl, rfl, by unfold f_X11_isDue; rw [if_neg c1, if_pos c2, if_neg c3]⟩
def f_X11_liveOf (v : fr_V) (x1 x2 : Int32) : Int32 := v 1152 (((10 * (v 1107 x1.toNatClampNeg)) + (f_X11_groupOf v  x2)).toNatClampNeg)
theorem k_X11_liveOf {l : Launch} {I : List Nat} (hI : fr_I I) (v : fr_V) (u : fr_U) (x1 x2 : Int32) (h1 : vp_in x1 12) (h2 : vp_in (10 * v 1107 x1.toNatClampNeg + f_X11_groupOf v x2) 40) : Con l mX11_liveOf I v u [.ref 1100, .int x1, .int x2] (QI v u (fun a => a = f_X11_liveOf v x1 x2)) := by
  refine Con.of (by decide) (Nat.le_of_ble_eq_true rfl) ?_
  show J l mX11_liveOf I v u 0 [(0, .ref 1100), (1, .int x1), (2, .int x2)] [] _
  refine J_aload_n dX11_liveOf_0 rfl 0 rfl ?_
  refine J_getr (ci := 11) (j := 51) (t := 1152) dX11_liveOf_1 fl_X11_105 (i1100 hI) rfl rfl rfl ?_
  refine J_bipush (x := 10) dX11_liveOf_4 (by decide) ?_
  refine J_aload_n dX11_liveOf_6 rfl 0 rfl ?_
  refine J_getr (ci := 11) (j := 6) (t := 1107) dX11_liveOf_7 fl_X11_16 (i1100 hI) rfl rfl rfl ?_
  refine J_iload_n dX11_liveOf_10 rfl 1 rfl ?_
  refine J_iale (x := v 1107 x1.toNatClampNeg) dX11_liveOf_11 (i1107 hI) rfl (by first | assumption | exact vp_in_nI (by omega) (by omega)) rfl ?_
  refine J_imul dX11_liveOf_12 ?_
  refine J_iload_n dX11_liveOf_13 rfl 2 rfl ?_
  refine J_eSI (z := mX11_groupOf) (As := [.int x2]) (rest := [.int (10 * (v 1107 x1.toNatClampNeg)), .ref 1152]) (x := f_X11_groupOf v  x2) dX11_liveOf_14 ml_X11_299 ok_X11_groupOf iv_X11_groupOf (by decide) rfl rfl (Nat.le_of_ble_eq_true rfl) (k_X11_groupOf hI v u _ ) ?_
  refine J_iadd dX11_liveOf_17 ?_
  refine J_iale (x := v 1152 (((10 * (v 1107 x1.toNatClampNeg)) + (f_X11_groupOf v  x2)).toNatClampNeg)) dX11_liveOf_18 (i1152 hI) rfl (by first | assumption | exact vp_in_nI (by omega) (by omega)) rfl ?_
  exact J_iret dX11_liveOf_19 rfl ⟨_, rfl, rfl, rfl, rfl⟩
def f_X11_yearBack (v : fr_V) (x1 x2 : Int32) : Int32 := ((((1000 + x1) * x2) / 1000) * (v 1141 2)) / ((v 1141 2) + 1)
theorem k_X11_yearBack {l : Launch} {I : List Nat} (hI : fr_I I) (v : fr_V) (u : fr_U) (x1 x2 : Int32) (h1 : ¬ v 1141 2 + 1 = 0) : Con l mX11_yearBack I v u [.ref 1100, .int x1, .int x2] (QI v u (fun a => a = f_X11_yearBack v x1 x2)) := by
  refine Con.of (by decide) (Nat.le_of_ble_eq_true rfl) ?_
  show J l mX11_yearBack I v u 0 [(0, .ref 1100), (1, .int x1), (2, .int x2)] [] _
  refine J_sipush (x := 1000) dX11_yearBack_0 (by decide) ?_
  refine J_iload_n dX11_yearBack_3 rfl 1 rfl ?_
  refine J_iadd dX11_yearBack_4 ?_
  refine J_iload_n dX11_yearBack_5 rfl 2 rfl ?_
  refine J_imul dX11_yearBack_6 ?_
  refine J_sipush (x := 1000) dX11_yearBack_7 (by decide) ?_
  refine J_idiv dX11_yearBack_10 (by decide) ?_
  refine J_aload_n dX11_yearBack_11 rfl 0 rfl ?_
  refine J_getr (ci := 11) (j := 40) (t := 1141) dX11_yearBack_12 fl_X11_86 (i1100 hI) rfl rfl rfl ?_
  refine J_iconst (x := 2) dX11_yearBack_15 (by decide) ?_
  refine J_iale (x := v 1141 2) dX11_yearBack_16 (i1141 hI) rfl (ix_in (j := 2) rfl (by omega) (by omega)) ((congrArg _ (ix_cl (j := 2) rfl (by omega))).trans rfl) ?_
  refine J_imul dX11_yearBack_17 ?_
  refine J_aload_n dX11_yearBack_18 rfl 0 rfl ?_
  refine J_getr (ci := 11) (j := 40) (t := 1141) dX11_yearBack_19 fl_X11_86 (i1100 hI) rfl rfl rfl ?_
  refine J_iconst (x := 2) dX11_yearBack_22 (by decide) ?_
  refine J_iale (x := v 1141 2) dX11_yearBack_23 (i1141 hI) rfl (ix_in (j := 2) rfl (by omega) (by omega)) ((congrArg _ (ix_cl (j := 2) rfl (by omega))).trans rfl) ?_
  refine J_iconst (x := 1) dX11_yearBack_24 (by decide) ?_
  refine J_iadd dX11_yearBack_25 ?_
  refine J_idiv dX11_yearBack_26 h1 ?_
  exact J_iret dX11_yearBack_27 rfl ⟨_, rfl, rfl, rfl, rfl⟩
def f_X11_living (v : fr_V) (x1 : Int32) : Int32 := if x1 = (-1) then (-1) else if (v 1146 x1.toNatClampNeg) = (-1) then (if (f_X11_ageIn v  x1 (v 1100 3)) ≤ 99 then x1 else (-1)) else (-1)
theorem k_X11_living {l : Launch} {I : List Nat} (hI : fr_I I) (v : fr_V) (u : fr_U) (x1 : Int32) (h1 : ¬ x1 = (-1) → vp_in x1 12) : Con l mX11_living I v u [.ref 1100, .int x1] (QI v u (fun a => a = f_X11_living v x1)) := by
  refine Con.of (by decide) (Nat.le_of_ble_eq_true rfl) ?_
  show J l mX11_living I v u 0 [(0, .ref 1100), (1, .int x1)] [] _
  refine J_iload_n dX11_living_0 rfl 1 rfl ?_
  refine J_iconst (x := (-1)) dX11_living_1 (by decide) ?_
  refine J_icmp_eq (tgt := 29) dX11_living_2 (by decide) (fun c1 => ?_) (fun c1 => ?_)
  · refine J_iconst (x := (-1)) dX11_living_29 (by decide) ?_
    refine J_goto (tgt := 34) dX11_living_30 (by decide) ?_
    exact J_iret dX11_living_34 rfl ⟨_, rfl, rfl, rfl, by unfold f_X11_living; rw [if_pos c1]⟩
  · refine J_aload_n dX11_living_5 rfl 0 rfl ?_
    refine J_getr (ci := 11) (j := 45) (t := 1146) dX11_living_6 fl_X11_96 (i1100 hI) rfl rfl rfl ?_
    refine J_iload_n dX11_living_9 rfl 1 rfl ?_
    refine J_iale (x := v 1146 x1.toNatClampNeg) dX11_living_10 (i1146 hI) rfl (h1 (by assumption)) rfl ?_
    refine J_iconst (x := (-1)) dX11_living_11 (by decide) ?_
    refine J_icmp_ne (tgt := 29) dX11_living_12 (by decide) (fun c2 => ?_) (fun c2 => ?_)
    · refine J_iconst (x := (-1)) dX11_living_29 (by decide) ?_
      refine J_goto (tgt := 34) dX11_living_30 (by decide) ?_
      exact J_iret dX11_living_34 rfl ⟨_, rfl, rfl, rfl, by unfold f_X11_living; rw [if_neg c1, if_neg c2]⟩
    · refine J_aload_n dX11_living_15 rfl 0 rfl ?_
      refine J_iload_n dX11_living_16 rfl 1 rfl ?_
      refine J_aload_n dX11_living_17 rfl 0 rfl ?_
      refine J_gete (ci := 11) (j := 3) (x := v 1100 3) dX11_living_18 fl_X11_208 (i1100 hI) rfl rfl rfl ?_
      refine J_eVI (z := mX11_ageIn) (As := [.int x1, .int (v 1100 3)]) (rest := []) (ci := 11) (x := f_X11_ageIn v  x1 (v 1100 3)) dX11_living_21 ml_X11_214 ok_X11_ageIn iv_X11_ageIn (by decide) (i1100 hI) rfl rfl rfl rfl (Nat.le_of_ble_eq_true rfl) (k_X11_ageIn hI v u _ _ (h1 (by assumption))) ?_
      refine J_bipush (x := 99) dX11_living_24 (by decide) ?_
      refine J_icmp_le (tgt := 33) dX11_living_26 (by decide) (fun c3 => ?_) (fun c3 => ?_)
      · refine J_iload_n dX11_living_33 rfl 1 rfl ?_
        exact J_iret dX11_living_34 rfl ⟨_, rfl, rfl, rfl, by unfold f_X11_living; rw [if_neg c1, if_pos c2, if_pos c3]⟩
      · refine J_iconst (x := (-1)) dX11_living_29 (by decide) ?_
        refine J_goto (tgt := 34) dX11_living_30 (by decide) ?_
        exact J_iret dX11_living_34 rfl ⟨_, rfl, rfl, rfl, by unfold f_X11_living; rw [if_neg c1, if_pos c2, if_neg c3]⟩
def f_X11_note (v : fr_V) (x1 x2 x3 : Int32) : Int32 × fr_V := if (v 1100 16) = 60 then ((-1), up2 v 1100 2 0) else if (f_X11_isLife (up2 v 1100 2 0)  x1) = 0 then ((-1), up2 v 1100 2 0) else if (f_X11_isIn (up2 v 1100 2 0)  x2 0 (v 1100 3)) = 0 then ((-1), up2 v 1100 2 0) else if x3 = 0 then ((f_X11_told (up2 v 1100 2 0)  0 x1 x2).1, (f_X11_told (up2 v 1100 2 0)  0 x1 x2).2) else ((f_X11_told (up2 v 1100 2 0)  1 x1 x2).1, (f_X11_told (up2 v 1100 2 0)  1 x1 x2).2)
theorem k_X11_note {l : Launch} {I : List Nat} (hI : fr_I I) (v : fr_V) (u : fr_U) (x1 x2 x3 : Int32) (N : Nat) (hN : v 1100 16 = nI N) (hW : nt_ok (v 1118) (v 1119) N) : Con l mX11_note I v u [.ref 1100, .int x1, .int x2, .int x3] (QX u (fun a b => a = (f_X11_note v x1 x2 x3).1 ∧ b = (f_X11_note v x1 x2 x3).2)) := by
  refine Con.of (by decide) (Nat.le_of_ble_eq_true rfl) ?_
  show J l mX11_note I v u 0 [(0, .ref 1100), (1, .int x1), (2, .int x2), (3, .int x3)] [] _
  refine J_aload_n dX11_note_0 rfl 0 rfl ?_
  refine J_iconst (x := 0) dX11_note_1 (by decide) ?_
  refine J_puti (ci := 11) (j := 2) dX11_note_2 fl_X11_129 (i1100 hI) rfl rfl (fun q h => by cases h; rfl) rfl ?_
  refine J_aload_n dX11_note_5 rfl 0 rfl ?_
  refine J_gete (ci := 11) (j := 16) (x := v 1100 16) dX11_note_6 fl_X11_252 (i1100 hI) rfl rfl rfl ?_
  refine J_bipush (x := 60) dX11_note_9 (by decide) ?_
  refine J_icmp_eq (tgt := 34) dX11_note_11 (by decide) (fun c1 => ?_) (fun c1 => ?_)
  · refine J_iconst (x := (-1)) dX11_note_34 (by decide) ?_
    refine J_goto (tgt := 53) dX11_note_35 (by decide) ?_
    exact J_iret dX11_note_53 rfl ⟨_, rfl, rfl, by unfold f_X11_note; rw [if_pos c1], by unfold f_X11_note; rw [if_pos c1]⟩
  · refine J_aload_n dX11_note_14 rfl 0 rfl ?_
    refine J_iload_n dX11_note_15 rfl 1 rfl ?_
    refine J_eVI (z := mX11_isLife) (As := [.int x1]) (rest := []) (ci := 11) (x := f_X11_isLife (up2 v 1100 2 0)  x1) dX11_note_16 ml_X11_221 ok_X11_isLife iv_X11_isLife (by decide) (i1100 hI) rfl rfl rfl rfl (Nat.le_of_ble_eq_true rfl) (k_X11_isLife hI (up2 v 1100 2 0) u _ ) ?_
    refine J_if_eq (tgt := 34) dX11_note_19 (by decide) (fun c2 => ?_) (fun c2 => ?_)
    · refine J_iconst (x := (-1)) dX11_note_34 (by decide) ?_
      refine J_goto (tgt := 53) dX11_note_35 (by decide) ?_
      exact J_iret dX11_note_53 rfl ⟨_, rfl, rfl, by unfold f_X11_note; rw [if_neg c1, if_pos c2], by unfold f_X11_note; rw [if_neg c1, if_pos c2]⟩
    · refine J_iload_n dX11_note_22 rfl 2 rfl ?_
      refine J_iconst (x := 0) dX11_note_23 (by decide) ?_
      refine J_aload_n dX11_note_24 rfl 0 rfl ?_
      refine J_gete (ci := 11) (j := 3) (x := v 1100 3) dX11_note_25 fl_X11_208 (i1100 hI) rfl rfl rfl ?_
      refine J_eSI (z := mX11_isIn) (As := [.int x2, .int 0, .int (v 1100 3)]) (rest := []) (x := f_X11_isIn (up2 v 1100 2 0)  x2 0 (v 1100 3)) dX11_note_28 ml_X11_204 ok_X11_isIn iv_X11_isIn (by decide) rfl rfl (Nat.le_of_ble_eq_true rfl) (k_X11_isIn hI (up2 v 1100 2 0) u _ _ _ ) ?_
      refine J_if_ne (tgt := 38) dX11_note_31 (by decide) (fun c3 => ?_) (fun c3 => ?_)
      · refine J_aload_n dX11_note_38 rfl 0 rfl ?_
        refine J_iload_n dX11_note_39 rfl 3 rfl ?_
        refine J_if_eq (tgt := 47) dX11_note_40 (by decide) (fun c4 => ?_) (fun c4 => ?_)
        · refine J_iconst (x := 0) dX11_note_47 (by decide) ?_
          refine J_iload_n dX11_note_48 rfl 1 rfl ?_
          refine J_iload_n dX11_note_49 rfl 2 rfl ?_
          refine J_eVX (z := mX11_told) (As := [.int 0, .int x1, .int x2]) (rest := []) (ci := 11) (x := (f_X11_told (up2 v 1100 2 0)  0 x1 x2).1) (w := (f_X11_told (up2 v 1100 2 0)  0 x1 x2).2) dX11_note_50 ml_X11_255 ok_X11_told iv_X11_told (by decide) (i1100 hI) rfl rfl rfl rfl (Nat.le_of_ble_eq_true rfl) (k_X11_told hI (up2 v 1100 2 0) u _ _ _ (by first | assumption | exact lf_in hL hL2 (by assumption) | exact rt_in hR hR2 (by assumption) | exact nt_in hN hW.1 (by assumption))) ?_
          exact J_iret dX11_note_53 rfl ⟨_, rfl, rfl, by unfold f_X11_note; rw [if_neg c1, if_neg c2, if_neg c3, if_pos c4], by unfold f_X11_note; rw [if_neg c1, if_neg c2, if_neg c3, if_pos c4]⟩
        · refine J_iconst (x := 1) dX11_note_43 (by decide) ?_
          refine J_goto (tgt := 48) dX11_note_44 (by decide) ?_
          refine J_iload_n dX11_note_48 rfl 1 rfl ?_
          refine J_iload_n dX11_note_49 rfl 2 rfl ?_
          refine J_eVX (z := mX11_told) (As := [.int 1, .int x1, .int x2]) (rest := []) (ci := 11) (x := (f_X11_told (up2 v 1100 2 0)  1 x1 x2).1) (w := (f_X11_told (up2 v 1100 2 0)  1 x1 x2).2) dX11_note_50 ml_X11_255 ok_X11_told iv_X11_told (by decide) (i1100 hI) rfl rfl rfl rfl (Nat.le_of_ble_eq_true rfl) (k_X11_told hI (up2 v 1100 2 0) u _ _ _ (by first | assumption | exact lf_in hL hL2 (by assumption) | exact rt_in hR hR2 (by assumption) | exact nt_in hN hW.1 (by assumption))) ?_
          exact J_iret dX11_note_53 rfl ⟨_, rfl, rfl, by unfold f_X11_note; rw [if_neg c1, if_neg c2, if_neg c3, if_neg c4], by unfold f_X11_note; rw [if_neg c1, if_neg c2, if_neg c3, if_neg c4]⟩
      · refine J_iconst (x := (-1)) dX11_note_34 (by decide) ?_
        refine J_goto (tgt := 53) dX11_note_35 (by decide) ?_
        exact J_iret dX11_note_53 rfl ⟨_, rfl, rfl, by unfold f_X11_note; rw [if_neg c1, if_neg c2, if_pos c3], by unfold f_X11_note; rw [if_neg c1, if_neg c2, if_pos c3]⟩
def f_X11_strike (v : fr_V) (x1 : Int32) : Int32 × fr_V := if (v 1100 16) = 60 then ((-1), up2 v 1100 2 0) else if x1 < 0 then ((-1), up2 v 1100 2 0) else if x1 < (v 1100 16) then ((f_X11_told (up2 v 1100 2 0)  2 x1 0).1, (f_X11_told (up2 v 1100 2 0)  2 x1 0).2) else ((-1), up2 v 1100 2 0)
theorem k_X11_strike {l : Launch} {I : List Nat} (hI : fr_I I) (v : fr_V) (u : fr_U) (x1 : Int32) (N : Nat) (hN : v 1100 16 = nI N) (hW : nt_ok (v 1118) (v 1119) N) : Con l mX11_strike I v u [.ref 1100, .int x1] (QX u (fun a b => a = (f_X11_strike v x1).1 ∧ b = (f_X11_strike v x1).2)) := by
  refine Con.of (by decide) (Nat.le_of_ble_eq_true rfl) ?_
  show J l mX11_strike I v u 0 [(0, .ref 1100), (1, .int x1)] [] _
  refine J_aload_n dX11_strike_0 rfl 0 rfl ?_
  refine J_iconst (x := 0) dX11_strike_1 (by decide) ?_
  refine J_puti (ci := 11) (j := 2) dX11_strike_2 fl_X11_129 (i1100 hI) rfl rfl (fun q h => by cases h; rfl) rfl ?_
  refine J_aload_n dX11_strike_5 rfl 0 rfl ?_
  refine J_gete (ci := 11) (j := 16) (x := v 1100 16) dX11_strike_6 fl_X11_252 (i1100 hI) rfl rfl rfl ?_
  refine J_bipush (x := 60) dX11_strike_9 (by decide) ?_
  refine J_icmp_eq (tgt := 26) dX11_strike_11 (by decide) (fun c1 => ?_) (fun c1 => ?_)
  · refine J_iconst (x := (-1)) dX11_strike_26 (by decide) ?_
    refine J_goto (tgt := 37) dX11_strike_27 (by decide) ?_
    exact J_iret dX11_strike_37 rfl ⟨_, rfl, rfl, by unfold f_X11_strike; rw [if_pos c1], by unfold f_X11_strike; rw [if_pos c1]⟩
  · refine J_iload_n dX11_strike_14 rfl 1 rfl ?_
    refine J_if_lt (tgt := 26) dX11_strike_15 (by decide) (fun c2 => ?_) (fun c2 => ?_)
    · refine J_iconst (x := (-1)) dX11_strike_26 (by decide) ?_
      refine J_goto (tgt := 37) dX11_strike_27 (by decide) ?_
      exact J_iret dX11_strike_37 rfl ⟨_, rfl, rfl, by unfold f_X11_strike; rw [if_neg c1, if_pos c2], by unfold f_X11_strike; rw [if_neg c1, if_pos c2]⟩
    · refine J_iload_n dX11_strike_18 rfl 1 rfl ?_
      refine J_aload_n dX11_strike_19 rfl 0 rfl ?_
      refine J_gete (ci := 11) (j := 16) (x := v 1100 16) dX11_strike_20 fl_X11_252 (i1100 hI) rfl rfl rfl ?_
      refine J_icmp_lt (tgt := 30) dX11_strike_23 (by decide) (fun c3 => ?_) (fun c3 => ?_)
      · refine J_aload_n dX11_strike_30 rfl 0 rfl ?_
        refine J_iconst (x := 2) dX11_strike_31 (by decide) ?_
        refine J_iload_n dX11_strike_32 rfl 1 rfl ?_
        refine J_iconst (x := 0) dX11_strike_33 (by decide) ?_
        refine J_eVX (z := mX11_told) (As := [.int 2, .int x1, .int 0]) (rest := []) (ci := 11) (x := (f_X11_told (up2 v 1100 2 0)  2 x1 0).1) (w := (f_X11_told (up2 v 1100 2 0)  2 x1 0).2) dX11_strike_34 ml_X11_255 ok_X11_told iv_X11_told (by decide) (i1100 hI) rfl rfl rfl rfl (Nat.le_of_ble_eq_true rfl) (k_X11_told hI (up2 v 1100 2 0) u _ _ _ (by first | assumption | exact lf_in hL hL2 (by assumption) | exact rt_in hR hR2 (by assumption) | exact nt_in hN hW.1 (by assumption))) ?_
        exact J_iret dX11_strike_37 rfl ⟨_, rfl, rfl, by unfold f_X11_strike; rw [if_neg c1, if_neg c2, if_pos c3], by unfold f_X11_strike; rw [if_neg c1, if_neg c2, if_pos c3]⟩
      · refine J_iconst (x := (-1)) dX11_strike_26 (by decide) ?_
        refine J_goto (tgt := 37) dX11_strike_27 (by decide) ?_
        exact J_iret dX11_strike_37 rfl ⟨_, rfl, rfl, by unfold f_X11_strike; rw [if_neg c1, if_neg c2, if_neg c3], by unfold f_X11_strike; rw [if_neg c1, if_neg c2, if_neg c3]⟩
def f_X11_dead (v : fr_V) (N : Nat) (x1 x2 : Int32) : Int32 × fr_V := if (f_X11_isLife (up2 v 1100 2 0)  x1) = 0 then ((-2), up2 v 1100 2 0) else if (f_X11_isHalf (up2 v 1100 2 0)  x2) = 0 then ((-2), up2 v 1100 2 0) else ((f_know (up2 v 1100 2 0) N x2) 1146 x1.toNatClampNeg, (f_know (up2 v 1100 2 0) N x2))
theorem k_X11_dead {l : Launch} {I : List Nat} (hI : fr_I I) (v : fr_V) (u : fr_U) (N : Nat) (x1 x2 : Int32) (hN : v 1100 16 = nI N) (hW : nt_ok (v 1118) (v 1119) N) (n : Nat) (hL : v 1100 4 = nI n) (hL2 : n ≤ 12) : Con l mX11_dead I v u [.ref 1100, .int x1, .int x2] (QX u (fun a b => a = (f_X11_dead v N x1 x2).1 ∧ b = (f_X11_dead v N x1 x2).2)) := by
  refine Con.of (by decide) (Nat.le_of_ble_eq_true rfl) ?_
  show J l mX11_dead I v u 0 [(0, .ref 1100), (1, .int x1), (2, .int x2)] [] _
  refine J_aload_n dX11_dead_0 rfl 0 rfl ?_
  refine J_iconst (x := 0) dX11_dead_1 (by decide) ?_
  refine J_puti (ci := 11) (j := 2) dX11_dead_2 fl_X11_129 (i1100 hI) rfl rfl (fun q h => by cases h; rfl) rfl ?_
  refine J_aload_n dX11_dead_5 rfl 0 rfl ?_
  refine J_iload_n dX11_dead_6 rfl 1 rfl ?_
  refine J_eVI (z := mX11_isLife) (As := [.int x1]) (rest := []) (ci := 11) (x := f_X11_isLife (up2 v 1100 2 0)  x1) dX11_dead_7 ml_X11_221 ok_X11_isLife iv_X11_isLife (by decide) (i1100 hI) rfl rfl rfl rfl (Nat.le_of_ble_eq_true rfl) (k_X11_isLife hI (up2 v 1100 2 0) u _ ) ?_
  refine J_if_eq (tgt := 20) dX11_dead_10 (by decide) (fun c1 => ?_) (fun c1 => ?_)
  · refine J_bipush (x := (-2)) dX11_dead_20 (by decide) ?_
    exact J_iret dX11_dead_22 rfl ⟨_, rfl, rfl, by unfold f_X11_dead; rw [if_pos c1], by unfold f_X11_dead; rw [if_pos c1]⟩
  · refine J_iload_n dX11_dead_13 rfl 2 rfl ?_
    refine J_eSI (z := mX11_isHalf) (As := [.int x2]) (rest := []) (x := f_X11_isHalf (up2 v 1100 2 0)  x2) dX11_dead_14 ml_X11_249 ok_X11_isHalf iv_X11_isHalf (by decide) rfl rfl (Nat.le_of_ble_eq_true rfl) (k_X11_isHalf hI (up2 v 1100 2 0) u _ ) ?_
    refine J_if_ne (tgt := 23) dX11_dead_17 (by decide) (fun c2 => ?_) (fun c2 => ?_)
    · refine J_aload_n dX11_dead_23 rfl 0 rfl ?_
      refine J_iload_n dX11_dead_24 rfl 2 rfl ?_
      refine J_eVN (z := mX11_know) (As := [.int x2]) (rest := []) (ci := 11) (w := (f_know (up2 v 1100 2 0) N x2)) dX11_dead_25 ml_X11_257 ok_X11_know iv_X11_know (by decide) (i1100 hI) rfl rfl rfl rfl (Nat.le_of_ble_eq_true rfl) (k_X11_know hI (up2 v 1100 2 0) u _ N hN hW) ?_
      refine J_aload_n dX11_dead_28 rfl 0 rfl ?_
      refine J_getr (ci := 11) (j := 45) (t := 1146) dX11_dead_29 fl_X11_96 (i1100 hI) rfl rfl rfl ?_
      refine J_iload_n dX11_dead_32 rfl 1 rfl ?_
      refine J_iale (x := (f_know (up2 v 1100 2 0) N x2) 1146 x1.toNatClampNeg) dX11_dead_33 (i1146 hI) rfl (lf_in hL hL2 (by assumption)) rfl ?_
      exact J_iret dX11_dead_34 rfl ⟨_, rfl, rfl, by unfold f_X11_dead; rw [if_neg c1, if_neg c2], by unfold f_X11_dead; rw [if_neg c1, if_neg c2]⟩
    · refine J_bipush (x := (-2)) dX11_dead_20 (by decide) ?_
      exact J_iret dX11_dead_22 rfl ⟨_, rfl, rfl, by unfold f_X11_dead; rw [if_neg c1, if_pos c2], by unfold f_X11_dead; rw [if_neg c1, if_pos c2]⟩
def f_X11_life (v : fr_V) (x1 x2 : Int32) : Int32 × fr_V := if (v 1100 4) = 12 then ((-1), up2 v 1100 2 0) else if (f_X11_isIn (up2 v 1100 2 0)  x1 (-160) (v 1100 3)) = 0 then ((-1), up2 v 1100 2 0) else if (f_X11_isIn (up2 v 1100 2 0)  x2 0 3) = 0 then ((-1), up2 v 1100 2 0) else (((v 1100 4) + 1) - 1, up2 (up2 (up2 (up2 v 1100 2 0) 1106 ((v 1100 4).toNatClampNeg) x1) 1107 ((v 1100 4).toNatClampNeg) x2) 1100 4 ((v 1100 4) + 1))
theorem k_X11_life {l : Launch} {I : List Nat} (hI : fr_I I) (v : fr_V) (u : fr_U) (x1 x2 : Int32) (n : Nat) (hL : v 1100 4 = nI n) (hL2 : n ≤ 12) : Con l mX11_life I v u [.ref 1100, .int x1, .int x2] (QX u (fun a b => a = (f_X11_life v x1 x2).1 ∧ b = (f_X11_life v x1 x2).2)) := by
  refine Con.of (by decide) (Nat.le_of_ble_eq_true rfl) ?_
  show J l mX11_life I v u 0 [(0, .ref 1100), (1, .int x1), (2, .int x2)] [] _
  refine J_aload_n dX11_life_0 rfl 0 rfl ?_
  refine J_iconst (x := 0) dX11_life_1 (by decide) ?_
  refine J_puti (ci := 11) (j := 2) dX11_life_2 fl_X11_129 (i1100 hI) rfl rfl (fun q h => by cases h; rfl) rfl ?_
  refine J_aload_n dX11_life_5 rfl 0 rfl ?_
  refine J_gete (ci := 11) (j := 4) (x := v 1100 4) dX11_life_6 fl_X11_211 (i1100 hI) rfl rfl rfl ?_
  refine J_bipush (x := 12) dX11_life_9 (by decide) ?_
  refine J_icmp_eq (tgt := 37) dX11_life_11 (by decide) (fun c1 => ?_) (fun c1 => ?_)
  · refine J_iconst (x := (-1)) dX11_life_37 (by decide) ?_
    exact J_iret dX11_life_38 rfl ⟨_, rfl, rfl, by unfold f_X11_life; rw [if_pos c1], by unfold f_X11_life; rw [if_pos c1]⟩
  · refine J_iload_n dX11_life_14 rfl 1 rfl ?_
    refine J_sipush (x := (-160)) dX11_life_15 (by decide) ?_
    refine J_aload_n dX11_life_18 rfl 0 rfl ?_
    refine J_gete (ci := 11) (j := 3) (x := v 1100 3) dX11_life_19 fl_X11_208 (i1100 hI) rfl rfl rfl ?_
    refine J_eSI (z := mX11_isIn) (As := [.int x1, .int (-160), .int (v 1100 3)]) (rest := []) (x := f_X11_isIn (up2 v 1100 2 0)  x1 (-160) (v 1100 3)) dX11_life_22 ml_X11_204 ok_X11_isIn iv_X11_isIn (by decide) rfl rfl (Nat.le_of_ble_eq_true rfl) (k_X11_isIn hI (up2 v 1100 2 0) u _ _ _ ) ?_
    refine J_if_eq (tgt := 37) dX11_life_25 (by decide) (fun c2 => ?_) (fun c2 => ?_)
    · refine J_iconst (x := (-1)) dX11_life_37 (by decide) ?_
      exact J_iret dX11_life_38 rfl ⟨_, rfl, rfl, by unfold f_X11_life; rw [if_neg c1, if_pos c2], by unfold f_X11_life; rw [if_neg c1, if_pos c2]⟩
    · refine J_iload_n dX11_life_28 rfl 2 rfl ?_
      refine J_iconst (x := 0) dX11_life_29 (by decide) ?_
      refine J_iconst (x := 3) dX11_life_30 (by decide) ?_
      refine J_eSI (z := mX11_isIn) (As := [.int x2, .int 0, .int 3]) (rest := []) (x := f_X11_isIn (up2 v 1100 2 0)  x2 0 3) dX11_life_31 ml_X11_204 ok_X11_isIn iv_X11_isIn (by decide) rfl rfl (Nat.le_of_ble_eq_true rfl) (k_X11_isIn hI (up2 v 1100 2 0) u _ _ _ ) ?_
      refine J_if_ne (tgt := 39) dX11_life_34 (by decide) (fun c3 => ?_) (fun c3 => ?_)
      · refine J_aload_n dX11_life_39 rfl 0 rfl ?_
        refine J_getr (ci := 11) (j := 5) (t := 1106) dX11_life_40 fl_X11_13 (i1100 hI) rfl rfl rfl ?_
        refine J_aload_n dX11_life_43 rfl 0 rfl ?_
        refine J_gete (ci := 11) (j := 4) (x := v 1100 4) dX11_life_44 fl_X11_211 (i1100 hI) rfl rfl rfl ?_
        refine J_iload_n dX11_life_47 rfl 1 rfl ?_
        refine J_iast dX11_life_48 (i1106 hI) rfl (lv_in hL hL2 (by assumption)) ?_
        refine J_aload_n dX11_life_49 rfl 0 rfl ?_
        refine J_getr (ci := 11) (j := 6) (t := 1107) dX11_life_50 fl_X11_16 (i1100 hI) rfl rfl rfl ?_
        refine J_aload_n dX11_life_53 rfl 0 rfl ?_
        refine J_gete (ci := 11) (j := 4) (x := v 1100 4) dX11_life_54 fl_X11_211 (i1100 hI) rfl rfl rfl ?_
        refine J_iload_n dX11_life_57 rfl 2 rfl ?_
        refine J_iast dX11_life_58 (i1107 hI) rfl (lv_in hL hL2 (by assumption)) ?_
        refine J_aload_n dX11_life_59 rfl 0 rfl ?_
        refine J_dup dX11_life_60 rfl ?_
        refine J_gete (ci := 11) (j := 4) (x := v 1100 4) dX11_life_61 fl_X11_211 (i1100 hI) rfl rfl rfl ?_
        refine J_iconst (x := 1) dX11_life_64 (by decide) ?_
        refine J_iadd dX11_life_65 ?_
        refine J_puti (ci := 11) (j := 4) dX11_life_66 fl_X11_211 (i1100 hI) rfl rfl (fun q h => by cases h; rfl) rfl ?_
        refine J_aload_n dX11_life_69 rfl 0 rfl ?_
        refine J_gete (ci := 11) (j := 4) (x := (v 1100 4) + 1) dX11_life_70 fl_X11_211 (i1100 hI) rfl rfl rfl ?_
        refine J_iconst (x := 1) dX11_life_73 (by decide) ?_
        refine J_isub dX11_life_74 ?_
        exact J_iret dX11_life_75 rfl ⟨_, rfl, rfl, by unfold f_X11_life; rw [if_neg c1, if_neg c2, if_neg c3], by unfold f_X11_life; rw [if_neg c1, if_neg c2, if_neg c3]⟩
      · refine J_iconst (x := (-1)) dX11_life_37 (by decide) ?_
        exact J_iret dX11_life_38 rfl ⟨_, rfl, rfl, by unfold f_X11_life; rw [if_neg c1, if_neg c2, if_pos c3], by unfold f_X11_life; rw [if_neg c1, if_neg c2, if_pos c3]⟩
def f_X11_named (v : fr_V) (x1 : Int32) : Int32 × fr_V := if (v 1100 52) = 0 then ((-1), up2 v 1100 2 0) else if (f_X11_isLife (up2 v 1100 2 0)  x1) = 0 then ((-1), up2 v 1100 2 0) else (v 1154 x1.toNatClampNeg, up2 v 1100 2 0)
theorem k_X11_named {l : Launch} {I : List Nat} (hI : fr_I I) (v : fr_V) (u : fr_U) (x1 : Int32) (n : Nat) (hL : v 1100 4 = nI n) (hL2 : n ≤ 12) : Con l mX11_named I v u [.ref 1100, .int x1] (QX u (fun a b => a = (f_X11_named v x1).1 ∧ b = (f_X11_named v x1).2)) := by
  refine Con.of (by decide) (Nat.le_of_ble_eq_true rfl) ?_
  show J l mX11_named I v u 0 [(0, .ref 1100), (1, .int x1)] [] _
  refine J_aload_n dX11_named_0 rfl 0 rfl ?_
  refine J_iconst (x := 0) dX11_named_1 (by decide) ?_
  refine J_puti (ci := 11) (j := 2) dX11_named_2 fl_X11_129 (i1100 hI) rfl rfl (fun q h => by cases h; rfl) rfl ?_
  refine J_aload_n dX11_named_5 rfl 0 rfl ?_
  refine J_gete (ci := 11) (j := 52) (x := v 1100 52) dX11_named_6 fl_X11_322 (i1100 hI) rfl rfl rfl ?_
  refine J_if_eq (tgt := 29) dX11_named_9 (by decide) (fun c1 => ?_) (fun c1 => ?_)
  · refine J_iconst (x := (-1)) dX11_named_29 (by decide) ?_
    exact J_iret dX11_named_30 rfl ⟨_, rfl, rfl, by unfold f_X11_named; rw [if_pos c1], by unfold f_X11_named; rw [if_pos c1]⟩
  · refine J_aload_n dX11_named_12 rfl 0 rfl ?_
    refine J_iload_n dX11_named_13 rfl 1 rfl ?_
    refine J_eVI (z := mX11_isLife) (As := [.int x1]) (rest := []) (ci := 11) (x := f_X11_isLife (up2 v 1100 2 0)  x1) dX11_named_14 ml_X11_221 ok_X11_isLife iv_X11_isLife (by decide) (i1100 hI) rfl rfl rfl rfl (Nat.le_of_ble_eq_true rfl) (k_X11_isLife hI (up2 v 1100 2 0) u _ ) ?_
    refine J_if_eq (tgt := 29) dX11_named_17 (by decide) (fun c2 => ?_) (fun c2 => ?_)
    · refine J_iconst (x := (-1)) dX11_named_29 (by decide) ?_
      exact J_iret dX11_named_30 rfl ⟨_, rfl, rfl, by unfold f_X11_named; rw [if_neg c1, if_pos c2], by unfold f_X11_named; rw [if_neg c1, if_pos c2]⟩
    · refine J_aload_n dX11_named_20 rfl 0 rfl ?_
      refine J_getr (ci := 11) (j := 53) (t := 1154) dX11_named_21 fl_X11_108 (i1100 hI) rfl rfl rfl ?_
      refine J_iload_n dX11_named_24 rfl 1 rfl ?_
      refine J_iale (x := v 1154 x1.toNatClampNeg) dX11_named_25 (i1154 hI) rfl (lf_in hL hL2 (by assumption)) rfl ?_
      refine J_goto (tgt := 30) dX11_named_26 (by decide) ?_
      exact J_iret dX11_named_30 rfl ⟨_, rfl, rfl, by unfold f_X11_named; rw [if_neg c1, if_neg c2], by unfold f_X11_named; rw [if_neg c1, if_neg c2]⟩
def f_X11_sold (v : fr_V) (x1 x2 x3 : Int32) : Int32 × fr_V := if (f_X11_isIn (up2 v 1100 2 0)  x1 0 3) = 0 then (0, up2 v 1100 2 0) else if (f_X11_isIn (up2 v 1100 2 0)  x2 0 9) = 0 then (0, up2 v 1100 2 0) else if (f_X11_isIn (up2 v 1100 2 0)  x3 0 1000) = 0 then (0, up2 v 1100 2 0) else (1, up2 (up2 v 1100 2 0) 1122 (((10 * x1) + x2).toNatClampNeg) x3)
theorem k_X11_sold {l : Launch} {I : List Nat} (hI : fr_I I) (v : fr_V) (u : fr_U) (x1 x2 x3 : Int32) : Con l mX11_sold I v u [.ref 1100, .int x1, .int x2, .int x3] (QX u (fun a b => a = (f_X11_sold v x1 x2 x3).1 ∧ b = (f_X11_sold v x1 x2 x3).2)) := by
  refine Con.of (by decide) (Nat.le_of_ble_eq_true rfl) ?_
  show J l mX11_sold I v u 0 [(0, .ref 1100), (1, .int x1), (2, .int x2), (3, .int x3)] [] _
  refine J_aload_n dX11_sold_0 rfl 0 rfl ?_
  refine J_iconst (x := 0) dX11_sold_1 (by decide) ?_
  refine J_puti (ci := 11) (j := 2) dX11_sold_2 fl_X11_129 (i1100 hI) rfl rfl (fun q h => by cases h; rfl) rfl ?_
  refine J_iload_n dX11_sold_5 rfl 1 rfl ?_
  refine J_iconst (x := 0) dX11_sold_6 (by decide) ?_
  refine J_iconst (x := 3) dX11_sold_7 (by decide) ?_
  refine J_eSI (z := mX11_isIn) (As := [.int x1, .int 0, .int 3]) (rest := []) (x := f_X11_isIn (up2 v 1100 2 0)  x1 0 3) dX11_sold_8 ml_X11_204 ok_X11_isIn iv_X11_isIn (by decide) rfl rfl (Nat.le_of_ble_eq_true rfl) (k_X11_isIn hI (up2 v 1100 2 0) u _ _ _ ) ?_
  refine J_if_eq (tgt := 35) dX11_sold_11 (by decide) (fun c1 => ?_) (fun c1 => ?_)
  · refine J_iconst (x := 0) dX11_sold_35 (by decide) ?_
    exact J_zret dX11_sold_36 rfl (by decide) ⟨_, rfl, rfl, by unfold f_X11_sold; rw [if_pos c1], by unfold f_X11_sold; rw [if_pos c1]⟩
  · refine J_iload_n dX11_sold_14 rfl 2 rfl ?_
    refine J_iconst (x := 0) dX11_sold_15 (by decide) ?_
    refine J_bipush (x := 9) dX11_sold_16 (by decide) ?_
    refine J_eSI (z := mX11_isIn) (As := [.int x2, .int 0, .int 9]) (rest := []) (x := f_X11_isIn (up2 v 1100 2 0)  x2 0 9) dX11_sold_18 ml_X11_204 ok_X11_isIn iv_X11_isIn (by decide) rfl rfl (Nat.le_of_ble_eq_true rfl) (k_X11_isIn hI (up2 v 1100 2 0) u _ _ _ ) ?_
    refine J_if_eq (tgt := 35) dX11_sold_21 (by decide) (fun c2 => ?_) (fun c2 => ?_)
    · refine J_iconst (x := 0) dX11_sold_35 (by decide) ?_
      exact J_zret dX11_sold_36 rfl (by decide) ⟨_, rfl, rfl, by unfold f_X11_sold; rw [if_neg c1, if_pos c2], by unfold f_X11_sold; rw [if_neg c1, if_pos c2]⟩
    · refine J_iload_n dX11_sold_24 rfl 3 rfl ?_
      refine J_iconst (x := 0) dX11_sold_25 (by decide) ?_
      refine J_sipush (x := 1000) dX11_sold_26 (by decide) ?_
      refine J_eSI (z := mX11_isIn) (As := [.int x3, .int 0, .int 1000]) (rest := []) (x := f_X11_isIn (up2 v 1100 2 0)  x3 0 1000) dX11_sold_29 ml_X11_204 ok_X11_isIn iv_X11_isIn (by decide) rfl rfl (Nat.le_of_ble_eq_true rfl) (k_X11_isIn hI (up2 v 1100 2 0) u _ _ _ ) ?_
      refine J_if_ne (tgt := 37) dX11_sold_32 (by decide) (fun c3 => ?_) (fun c3 => ?_)
      · refine J_aload_n dX11_sold_37 rfl 0 rfl ?_
        refine J_getr (ci := 11) (j := 21) (t := 1122) dX11_sold_38 fl_X11_52 (i1100 hI) rfl rfl rfl ?_
        refine J_bipush (x := 10) dX11_sold_41 (by decide) ?_
        refine J_iload_n dX11_sold_43 rfl 1 rfl ?_
        refine J_imul dX11_sold_44 ?_
        refine J_iload_n dX11_sold_45 rfl 2 rfl ?_
        refine J_iadd dX11_sold_46 ?_
        refine J_iload_n dX11_sold_47 rfl 3 rfl ?_
        refine J_iast dX11_sold_48 (i1122 hI) rfl (tb_in (by assumption) (by assumption)) ?_
        refine J_iconst (x := 1) dX11_sold_49 (by decide) ?_
        exact J_zret dX11_sold_50 rfl (by decide) ⟨_, rfl, rfl, by unfold f_X11_sold; rw [if_neg c1, if_neg c2, if_neg c3], by unfold f_X11_sold; rw [if_neg c1, if_neg c2, if_neg c3]⟩
      · refine J_iconst (x := 0) dX11_sold_35 (by decide) ?_
        exact J_zret dX11_sold_36 rfl (by decide) ⟨_, rfl, rfl, by unfold f_X11_sold; rw [if_neg c1, if_neg c2, if_pos c3], by unfold f_X11_sold; rw [if_neg c1, if_neg c2, if_pos c3]⟩
def f_X11_lived (v : fr_V) (x1 x2 x3 : Int32) : Int32 := if (v 1100 49) = 0 then v 1122 (((10 * x1) + x2).toNatClampNeg) else if 0 ≤ ((v 1100 50) + x3) then (if ((v 1100 50) + x3) ≤ (v 1100 49) then (1000 * ((v 1100 49) - ((v 1100 50) + x3))) / (v 1100 49) else (1000 * ((v 1100 49) - (v 1100 49))) / (v 1100 49)) else (1000 * ((v 1100 49) - 0)) / (v 1100 49)
theorem k_X11_lived {l : Launch} {I : List Nat} (hI : fr_I I) (v : fr_V) (u : fr_U) (x1 x2 x3 : Int32) (h1 : vp_in (10 * x1 + x2) 40) : Con l mX11_lived I v u [.ref 1100, .int x1, .int x2, .int x3] (QI v u (fun a => a = f_X11_lived v x1 x2 x3)) := by
  refine Con.of (by decide) (Nat.le_of_ble_eq_true rfl) ?_
  show J l mX11_lived I v u 0 [(0, .ref 1100), (1, .int x1), (2, .int x2), (3, .int x3)] [] _
  refine J_aload_n dX11_lived_0 rfl 0 rfl ?_
  refine J_gete (ci := 11) (j := 49) (x := v 1100 49) dX11_lived_1 fl_X11_286 (i1100 hI) rfl rfl rfl ?_
  refine J_if_ne (tgt := 19) dX11_lived_4 (by decide) (fun c1 => ?_) (fun c1 => ?_)
  · refine J_aload_n dX11_lived_19 rfl 0 rfl ?_
    refine J_gete (ci := 11) (j := 50) (x := v 1100 50) dX11_lived_20 fl_X11_289 (i1100 hI) rfl rfl rfl ?_
    refine J_iload_n dX11_lived_23 rfl 3 rfl ?_
    refine J_iadd dX11_lived_24 ?_
    refine J_istore (lv' := [(4, .int ((v 1100 50) + x3)), (0, .ref 1100), (1, .int x1), (2, .int x2), (3, .int x3)]) dX11_lived_25 (by decide) rfl ?_
    refine J_iload dX11_lived_27 0 rfl ?_
    refine J_if_ge (tgt := 36) dX11_lived_29 (by decide) (fun c2 => ?_) (fun c2 => ?_)
    · refine J_iload dX11_lived_36 0 rfl ?_
      refine J_aload_n dX11_lived_38 rfl 1 rfl ?_
      refine J_gete (ci := 11) (j := 49) (x := v 1100 49) dX11_lived_39 fl_X11_286 (i1100 hI) rfl rfl rfl ?_
      refine J_icmp_le (tgt := 52) dX11_lived_42 (by decide) (fun c3 => ?_) (fun c3 => ?_)
      · refine J_iload dX11_lived_52 0 rfl ?_
        refine J_istore (lv' := [(4, .int ((v 1100 50) + x3)), (0, .ref 1100), (1, .int x1), (2, .int x2), (3, .int x3)]) dX11_lived_54 (by decide) rfl ?_
        refine J_sipush (x := 1000) dX11_lived_56 (by decide) ?_
        refine J_aload_n dX11_lived_59 rfl 1 rfl ?_
        refine J_gete (ci := 11) (j := 49) (x := v 1100 49) dX11_lived_60 fl_X11_286 (i1100 hI) rfl rfl rfl ?_
        refine J_iload dX11_lived_63 0 rfl ?_
        refine J_isub dX11_lived_65 ?_
        refine J_imul dX11_lived_66 ?_
        refine J_aload_n dX11_lived_67 rfl 1 rfl ?_
        refine J_gete (ci := 11) (j := 49) (x := v 1100 49) dX11_lived_68 fl_X11_286 (i1100 hI) rfl rfl rfl ?_
        refine J_idiv dX11_lived_71 (by assumption) ?_
        exact J_iret dX11_lived_72 rfl ⟨_, rfl, rfl, rfl, by unfold f_X11_lived; rw [if_neg c1, if_pos c2, if_pos c3]⟩
      · refine J_aload_n dX11_lived_45 rfl 1 rfl ?_
        refine J_gete (ci := 11) (j := 49) (x := v 1100 49) dX11_lived_46 fl_X11_286 (i1100 hI) rfl rfl rfl ?_
        refine J_goto (tgt := 54) dX11_lived_49 (by decide) ?_
        refine J_istore (lv' := [(4, .int (v 1100 49)), (0, .ref 1100), (1, .int x1), (2, .int x2), (3, .int x3)]) dX11_lived_54 (by decide) rfl ?_
        refine J_sipush (x := 1000) dX11_lived_56 (by decide) ?_
        refine J_aload_n dX11_lived_59 rfl 1 rfl ?_
        refine J_gete (ci := 11) (j := 49) (x := v 1100 49) dX11_lived_60 fl_X11_286 (i1100 hI) rfl rfl rfl ?_
        refine J_iload dX11_lived_63 0 rfl ?_
        refine J_isub dX11_lived_65 ?_
        refine J_imul dX11_lived_66 ?_
        refine J_aload_n dX11_lived_67 rfl 1 rfl ?_
        refine J_gete (ci := 11) (j := 49) (x := v 1100 49) dX11_lived_68 fl_X11_286 (i1100 hI) rfl rfl rfl ?_
        refine J_idiv dX11_lived_71 (by assumption) ?_
        exact J_iret dX11_lived_72 rfl ⟨_, rfl, rfl, rfl, by unfold f_X11_lived; rw [if_neg c1, if_pos c2, if_neg c3]⟩
    · refine J_iconst (x := 0) dX11_lived_32 (by decide) ?_
      refine J_goto (tgt := 54) dX11_lived_33 (by decide) ?_
      refine J_istore (lv' := [(4, .int 0), (0, .ref 1100), (1, .int x1), (2, .int x2), (3, .int x3)]) dX11_lived_54 (by decide) rfl ?_
      refine J_sipush (x := 1000) dX11_lived_56 (by decide) ?_
      refine J_aload_n dX11_lived_59 rfl 1 rfl ?_
      refine J_gete (ci := 11) (j := 49) (x := v 1100 49) dX11_lived_60 fl_X11_286 (i1100 hI) rfl rfl rfl ?_
      refine J_iload dX11_lived_63 0 rfl ?_
      refine J_isub dX11_lived_65 ?_
      refine J_imul dX11_lived_66 ?_
      refine J_aload_n dX11_lived_67 rfl 1 rfl ?_
      refine J_gete (ci := 11) (j := 49) (x := v 1100 49) dX11_lived_68 fl_X11_286 (i1100 hI) rfl rfl rfl ?_
      refine J_idiv dX11_lived_71 (by assumption) ?_
      exact J_iret dX11_lived_72 rfl ⟨_, rfl, rfl, rfl, by unfold f_X11_lived; rw [if_neg c1, if_neg c2]⟩
  · refine J_aload_n dX11_lived_7 rfl 0 rfl ?_
    refine J_getr (ci := 11) (j := 21) (t := 1122) dX11_lived_8 fl_X11_52 (i1100 hI) rfl rfl rfl ?_
    refine J_bipush (x := 10) dX11_lived_11 (by decide) ?_
    refine J_iload_n dX11_lived_13 rfl 1 rfl ?_
    refine J_imul dX11_lived_14 ?_
    refine J_iload_n dX11_lived_15 rfl 2 rfl ?_
    refine J_iadd dX11_lived_16 ?_
    refine J_iale (x := v 1122 (((10 * x1) + x2).toNatClampNeg)) dX11_lived_17 (i1122 hI) rfl (by first | assumption | exact vp_in_nI (by omega) (by omega)) rfl ?_
    exact J_iret dX11_lived_18 rfl ⟨_, rfl, rfl, rfl, by unfold f_X11_lived; rw [if_pos c1]⟩
end
section
def pvP (v : fr_V) (r : Nat) (h : Int32) (i : Nat) : Prop := v 1118 i = 0 ∧ ¬ v 1145 i = 0 ∧ (v 1119 i = v 1111 r ∨ v 1119 i = v 1112 r) ∧ ¬ f_X11_isIn v (v 1120 i) h (h + v 1141 1) = 0 ∧ f_X11_isFalse v (nI i) = 0
theorem pv_L {l : Launch} {I : List Nat} (hI : fr_I I) (v : fr_V) (u : fr_U) (r : Nat) (hr : r < 16) (x2 : Int32) (N : Nat) (hN : v 1100 16 = nI N) (hW : nt_ok (v 1118) (v 1119) N) (hN6 : N ≤ 60) : ∀ (d j : Nat) (hd : N - j < d) (hj : j ≤ N) (hno : ∀ i, i < j → ¬ pvP v r x2 i), J l mX11_isProved I v u 2 [(0, .ref 1100), (1, .int (nI r)), (2, .int x2), (3, .int (nI j))] [] (QI v u (fun a => a = cI (∃ i, i < N ∧ pvP v r x2 i))) := by
  intro d
  induction d with
  | zero => intros; omega
  | succ d ih =>
    intro j hd hj hno
    refine J_iload_n dX11_isProved_2 rfl 3 rfl ?_
    refine J_aload_n dX11_isProved_3 rfl 0 rfl ?_
    refine J_gete (ci := 11) (j := 16) (x := v 1100 16) dX11_isProved_4 fl_X11_252 (i1100 hI) rfl rfl rfl ?_
    refine J_icmp_ge (tgt := 107) dX11_isProved_7 (by decide) (fun c1 => ?_) (fun c1 => ?_)
    · refine J_iconst (x := 0) dX11_isProved_107 (by decide) ?_
      exact J_zret dX11_isProved_108 rfl (by decide) ⟨_, rfl, rfl, rfl, (cI_neg (fun ⟨i, hi, hp⟩ => hno i (by rw [hN] at c1; have := nz_le (by omega) (by omega) c1; omega) hp)).symm⟩
    · have hjN : j < N := by rw [hN] at c1; exact nz_nle (by omega) (by omega) c1
      have hN60 : N ≤ 60 := hW.1
      refine J_aload_n dX11_isProved_10 rfl 0 rfl ?_
      refine J_getr (ci := 11) (j := 17) (t := 1118) dX11_isProved_11 fl_X11_40 (i1100 hI) rfl rfl rfl ?_
      refine J_iload_n dX11_isProved_14 rfl 3 rfl ?_
      refine J_iale (x := v 1118 j) dX11_isProved_15 (i1118 hI) rfl (ix_in (j := j) rfl (by omega) (by omega)) ((congrArg _ (ix_cl (j := j) rfl (by omega))).trans rfl) ?_
      refine J_if_ne (tgt := 62) dX11_isProved_16 (by decide) (fun c2 => ?_) (fun c2 => ?_)
      · refine J_iconst (x := 0) dX11_isProved_62 (by decide) ?_
        refine J_istore (lv' := [(4, .int 0), (0, .ref 1100), (1, .int (nI r)), (2, .int x2), (3, .int (nI j))]) dX11_isProved_63 (by decide) rfl ?_
        refine J_iload dX11_isProved_65 0 rfl ?_
        refine J_if_eq (tgt := 101) dX11_isProved_67 (by decide) (fun c3 => ?_) (fun c3 => absurd (by decide) c3)
        refine J_iinc (q := 4) (z := nI (j + 1)) (lv' := [(3, .int (nI (j + 1))), (4, .int 0), (0, .ref 1100), (1, .int (nI r)), (2, .int x2)]) dX11_isProved_101 rfl (nI_1 j) (by decide) rfl ?_
        refine J_goto (tgt := 2) dX11_isProved_104 (by decide) ?_
        refine J_lv [2, 3, 4, 0] rfl ?_
        exact ih (j + 1) (by omega) (by omega) (lt_s hno (by clear ih; unfold pvP; simp [c2]))
      · refine J_aload_n dX11_isProved_19 rfl 0 rfl ?_
        refine J_getr (ci := 11) (j := 44) (t := 1145) dX11_isProved_20 fl_X11_93 (i1100 hI) rfl rfl rfl ?_
        refine J_iload_n dX11_isProved_23 rfl 3 rfl ?_
        refine J_zale (x := v 1145 j) dX11_isProved_24 (i1145 hI) rfl (ix_in (j := j) rfl (by omega) (by omega)) ((congrArg _ (ix_cl (j := j) rfl (by omega))).trans rfl) ?_
        refine J_if_eq (tgt := 62) dX11_isProved_25 (by decide) (fun c4 => ?_) (fun c4 => ?_)
        · refine J_iconst (x := 0) dX11_isProved_62 (by decide) ?_
          refine J_istore (lv' := [(4, .int 0), (0, .ref 1100), (1, .int (nI r)), (2, .int x2), (3, .int (nI j))]) dX11_isProved_63 (by decide) rfl ?_
          refine J_iload dX11_isProved_65 0 rfl ?_
          refine J_if_eq (tgt := 101) dX11_isProved_67 (by decide) (fun c5 => ?_) (fun c5 => absurd (by decide) c5)
          refine J_iinc (q := 4) (z := nI (j + 1)) (lv' := [(3, .int (nI (j + 1))), (4, .int 0), (0, .ref 1100), (1, .int (nI r)), (2, .int x2)]) dX11_isProved_101 rfl (nI_1 j) (by decide) rfl ?_
          refine J_goto (tgt := 2) dX11_isProved_104 (by decide) ?_
          refine J_lv [2, 3, 4, 0] rfl ?_
          exact ih (j + 1) (by omega) (by omega) (lt_s hno (by clear ih; unfold pvP; simp [c2, c4]))
        · refine J_aload_n dX11_isProved_28 rfl 0 rfl ?_
          refine J_getr (ci := 11) (j := 18) (t := 1119) dX11_isProved_29 fl_X11_43 (i1100 hI) rfl rfl rfl ?_
          refine J_iload_n dX11_isProved_32 rfl 3 rfl ?_
          refine J_iale (x := v 1119 j) dX11_isProved_33 (i1119 hI) rfl (ix_in (j := j) rfl (by omega) (by omega)) ((congrArg _ (ix_cl (j := j) rfl (by omega))).trans rfl) ?_
          refine J_aload_n dX11_isProved_34 rfl 0 rfl ?_
          refine J_getr (ci := 11) (j := 10) (t := 1111) dX11_isProved_35 fl_X11_25 (i1100 hI) rfl rfl rfl ?_
          refine J_iload_n dX11_isProved_38 rfl 1 rfl ?_
          refine J_iale (x := v 1111 r) dX11_isProved_39 (i1111 hI) rfl (ix_in (j := r) rfl (by omega) (by omega)) ((congrArg _ (ix_cl (j := r) rfl (by omega))).trans rfl) ?_
          refine J_icmp_eq (tgt := 58) dX11_isProved_40 (by decide) (fun c6 => ?_) (fun c6 => ?_)
          · refine J_iconst (x := 1) dX11_isProved_58 (by decide) ?_
            refine J_goto (tgt := 63) dX11_isProved_59 (by decide) ?_
            refine J_istore (lv' := [(4, .int 1), (0, .ref 1100), (1, .int (nI r)), (2, .int x2), (3, .int (nI j))]) dX11_isProved_63 (by decide) rfl ?_
            refine J_iload dX11_isProved_65 0 rfl ?_
            refine J_if_eq (tgt := 101) dX11_isProved_67 (by decide) (fun c7 => absurd c7 (by decide)) (fun c7 => ?_)
            refine J_aload_n dX11_isProved_70 rfl 1 rfl ?_
            refine J_getr (ci := 11) (j := 19) (t := 1120) dX11_isProved_71 fl_X11_46 (i1100 hI) rfl rfl rfl ?_
            refine J_iload_n dX11_isProved_74 rfl 4 rfl ?_
            refine J_iale (x := v 1120 j) dX11_isProved_75 (i1120 hI) rfl (ix_in (j := j) rfl (by omega) (by omega)) ((congrArg _ (ix_cl (j := j) rfl (by omega))).trans rfl) ?_
            refine J_iload_n dX11_isProved_76 rfl 3 rfl ?_
            refine J_iload_n dX11_isProved_77 rfl 3 rfl ?_
            refine J_aload_n dX11_isProved_78 rfl 1 rfl ?_
            refine J_getr (ci := 11) (j := 40) (t := 1141) dX11_isProved_79 fl_X11_86 (i1100 hI) rfl rfl rfl ?_
            refine J_iconst (x := 1) dX11_isProved_82 (by decide) ?_
            refine J_iale (x := v 1141 1) dX11_isProved_83 (i1141 hI) rfl (ix_in (j := 1) rfl (by omega) (by omega)) ((congrArg _ (ix_cl (j := 1) rfl (by omega))).trans rfl) ?_
            refine J_iadd dX11_isProved_84 ?_
            refine J_eSI (z := mX11_isIn) (As := [.int (v 1120 j), .int x2, .int (x2 + (v 1141 1))]) (rest := []) (x := f_X11_isIn v  (v 1120 j) x2 (x2 + (v 1141 1))) dX11_isProved_85 ml_X11_204 ok_X11_isIn iv_X11_isIn (by decide) rfl rfl (Nat.le_of_ble_eq_true rfl) (k_X11_isIn hI v u _ _ _ ) ?_
            refine J_if_eq (tgt := 101) dX11_isProved_88 (by decide) (fun c8 => ?_) (fun c8 => ?_)
            · refine J_iinc (q := 4) (z := nI (j + 1)) (lv' := [(3, .int (nI (j + 1))), (4, .int 1), (0, .ref 1100), (1, .int (nI r)), (2, .int x2)]) dX11_isProved_101 rfl (nI_1 j) (by decide) rfl ?_
              refine J_goto (tgt := 2) dX11_isProved_104 (by decide) ?_
              refine J_lv [2, 3, 4, 0] rfl ?_
              exact ih (j + 1) (by omega) (by omega) (lt_s hno (by clear ih; unfold pvP; simp [c2, c4, c6, c8]))
            · refine J_aload_n dX11_isProved_91 rfl 1 rfl ?_
              refine J_iload_n dX11_isProved_92 rfl 4 rfl ?_
              refine J_eVI (z := mX11_isFalse) (As := [.int (nI j)]) (rest := []) (ci := 11) (x := f_X11_isFalse v  (nI j)) dX11_isProved_93 ml_X11_261 ok_X11_isFalse iv_X11_isFalse (by decide) (i1100 hI) rfl rfl rfl rfl (Nat.le_of_ble_eq_true rfl) (k_X11_isFalse hI v u _ (vp_in_nI (by omega) (by omega)) (by rw [nI_clamp (by omega)]; exact (hW.2 j hjN).2 (by rw [c2]; decide))) ?_
              refine J_if_ne (tgt := 101) dX11_isProved_96 (by decide) (fun c9 => ?_) (fun c9 => ?_)
              · refine J_iinc (q := 4) (z := nI (j + 1)) (lv' := [(3, .int (nI (j + 1))), (4, .int 1), (0, .ref 1100), (1, .int (nI r)), (2, .int x2)]) dX11_isProved_101 rfl (nI_1 j) (by decide) rfl ?_
                refine J_goto (tgt := 2) dX11_isProved_104 (by decide) ?_
                refine J_lv [2, 3, 4, 0] rfl ?_
                exact ih (j + 1) (by omega) (by omega) (lt_s hno (by clear ih; unfold pvP; simp [c2, c4, c6, c8, c9]))
              · refine J_iconst (x := 1) dX11_isProved_99 (by decide) ?_
                exact J_zret dX11_isProved_100 rfl (by decide) ⟨_, rfl, rfl, rfl, (cI_pos ⟨j, hjN, (by clear ih; unfold pvP; simp [c2, c4, c6, c8, c9])⟩).symm⟩
          · refine J_aload_n dX11_isProved_43 rfl 0 rfl ?_
            refine J_getr (ci := 11) (j := 18) (t := 1119) dX11_isProved_44 fl_X11_43 (i1100 hI) rfl rfl rfl ?_
            refine J_iload_n dX11_isProved_47 rfl 3 rfl ?_
            refine J_iale (x := v 1119 j) dX11_isProved_48 (i1119 hI) rfl (ix_in (j := j) rfl (by omega) (by omega)) ((congrArg _ (ix_cl (j := j) rfl (by omega))).trans rfl) ?_
            refine J_aload_n dX11_isProved_49 rfl 0 rfl ?_
            refine J_getr (ci := 11) (j := 11) (t := 1112) dX11_isProved_50 fl_X11_28 (i1100 hI) rfl rfl rfl ?_
            refine J_iload_n dX11_isProved_53 rfl 1 rfl ?_
            refine J_iale (x := v 1112 r) dX11_isProved_54 (i1112 hI) rfl (ix_in (j := r) rfl (by omega) (by omega)) ((congrArg _ (ix_cl (j := r) rfl (by omega))).trans rfl) ?_
            refine J_icmp_ne (tgt := 62) dX11_isProved_55 (by decide) (fun c10 => ?_) (fun c10 => ?_)
            · refine J_iconst (x := 0) dX11_isProved_62 (by decide) ?_
              refine J_istore (lv' := [(4, .int 0), (0, .ref 1100), (1, .int (nI r)), (2, .int x2), (3, .int (nI j))]) dX11_isProved_63 (by decide) rfl ?_
              refine J_iload dX11_isProved_65 0 rfl ?_
              refine J_if_eq (tgt := 101) dX11_isProved_67 (by decide) (fun c11 => ?_) (fun c11 => absurd (by decide) c11)
              refine J_iinc (q := 4) (z := nI (j + 1)) (lv' := [(3, .int (nI (j + 1))), (4, .int 0), (0, .ref 1100), (1, .int (nI r)), (2, .int x2)]) dX11_isProved_101 rfl (nI_1 j) (by decide) rfl ?_
              refine J_goto (tgt := 2) dX11_isProved_104 (by decide) ?_
              refine J_lv [2, 3, 4, 0] rfl ?_
              exact ih (j + 1) (by omega) (by omega) (lt_s hno (by clear ih; unfold pvP; simp [c2, c4, c6, c10]))
            · refine J_iconst (x := 1) dX11_isProved_58 (by decide) ?_
              refine J_goto (tgt := 63) dX11_isProved_59 (by decide) ?_
              refine J_istore (lv' := [(4, .int 1), (0, .ref 1100), (1, .int (nI r)), (2, .int x2), (3, .int (nI j))]) dX11_isProved_63 (by decide) rfl ?_
              refine J_iload dX11_isProved_65 0 rfl ?_
              refine J_if_eq (tgt := 101) dX11_isProved_67 (by decide) (fun c12 => absurd c12 (by decide)) (fun c12 => ?_)
              refine J_aload_n dX11_isProved_70 rfl 1 rfl ?_
              refine J_getr (ci := 11) (j := 19) (t := 1120) dX11_isProved_71 fl_X11_46 (i1100 hI) rfl rfl rfl ?_
              refine J_iload_n dX11_isProved_74 rfl 4 rfl ?_
              refine J_iale (x := v 1120 j) dX11_isProved_75 (i1120 hI) rfl (ix_in (j := j) rfl (by omega) (by omega)) ((congrArg _ (ix_cl (j := j) rfl (by omega))).trans rfl) ?_
              refine J_iload_n dX11_isProved_76 rfl 3 rfl ?_
              refine J_iload_n dX11_isProved_77 rfl 3 rfl ?_
              refine J_aload_n dX11_isProved_78 rfl 1 rfl ?_
              refine J_getr (ci := 11) (j := 40) (t := 1141) dX11_isProved_79 fl_X11_86 (i1100 hI) rfl rfl rfl ?_
              refine J_iconst (x := 1) dX11_isProved_82 (by decide) ?_
              refine J_iale (x := v 1141 1) dX11_isProved_83 (i1141 hI) rfl (ix_in (j := 1) rfl (by omega) (by omega)) ((congrArg _ (ix_cl (j := 1) rfl (by omega))).trans rfl) ?_
              refine J_iadd dX11_isProved_84 ?_
              refine J_eSI (z := mX11_isIn) (As := [.int (v 1120 j), .int x2, .int (x2 + (v 1141 1))]) (rest := []) (x := f_X11_isIn v  (v 1120 j) x2 (x2 + (v 1141 1))) dX11_isProved_85 ml_X11_204 ok_X11_isIn iv_X11_isIn (by decide) rfl rfl (Nat.le_of_ble_eq_true rfl) (k_X11_isIn hI v u _ _ _ ) ?_
              refine J_if_eq (tgt := 101) dX11_isProved_88 (by decide) (fun c13 => ?_) (fun c13 => ?_)
              · refine J_iinc (q := 4) (z := nI (j + 1)) (lv' := [(3, .int (nI (j + 1))), (4, .int 1), (0, .ref 1100), (1, .int (nI r)), (2, .int x2)]) dX11_isProved_101 rfl (nI_1 j) (by decide) rfl ?_
                refine J_goto (tgt := 2) dX11_isProved_104 (by decide) ?_
                refine J_lv [2, 3, 4, 0] rfl ?_
                exact ih (j + 1) (by omega) (by omega) (lt_s hno (by clear ih; unfold pvP; simp [c2, c4, c6, c10, c13]))
              · refine J_aload_n dX11_isProved_91 rfl 1 rfl ?_
                refine J_iload_n dX11_isProved_92 rfl 4 rfl ?_
                refine J_eVI (z := mX11_isFalse) (As := [.int (nI j)]) (rest := []) (ci := 11) (x := f_X11_isFalse v  (nI j)) dX11_isProved_93 ml_X11_261 ok_X11_isFalse iv_X11_isFalse (by decide) (i1100 hI) rfl rfl rfl rfl (Nat.le_of_ble_eq_true rfl) (k_X11_isFalse hI v u _ (vp_in_nI (by omega) (by omega)) (by rw [nI_clamp (by omega)]; exact (hW.2 j hjN).2 (by rw [c2]; decide))) ?_
                refine J_if_ne (tgt := 101) dX11_isProved_96 (by decide) (fun c14 => ?_) (fun c14 => ?_)
                · refine J_iinc (q := 4) (z := nI (j + 1)) (lv' := [(3, .int (nI (j + 1))), (4, .int 1), (0, .ref 1100), (1, .int (nI r)), (2, .int x2)]) dX11_isProved_101 rfl (nI_1 j) (by decide) rfl ?_
                  refine J_goto (tgt := 2) dX11_isProved_104 (by decide) ?_
                  refine J_lv [2, 3, 4, 0] rfl ?_
                  exact ih (j + 1) (by omega) (by omega) (lt_s hno (by clear ih; unfold pvP; simp [c2, c4, c6, c10, c13, c14]))
                · refine J_iconst (x := 1) dX11_isProved_99 (by decide) ?_
                  exact J_zret dX11_isProved_100 rfl (by decide) ⟨_, rfl, rfl, rfl, (cI_pos ⟨j, hjN, (by clear ih; unfold pvP; simp [c2, c4, c6, c10, c13, c14])⟩).symm⟩
theorem k_X11_isProved {l : Launch} {I : List Nat} (hI : fr_I I) (v : fr_V) (u : fr_U) (r : Nat) (hr : r < 16) (x2 : Int32) (N : Nat) (hN : v 1100 16 = nI N) (hW : nt_ok (v 1118) (v 1119) N) : Con l mX11_isProved I v u [.ref 1100, .int (nI r), .int x2] (QI v u (fun a => a = cI (∃ i, i < N ∧ pvP v r x2 i))) := by
  refine Con.of (by decide) (Nat.le_of_ble_eq_true rfl) ?_
  show J l mX11_isProved I v u 0 [(0, .ref 1100), (1, .int (nI r)), (2, .int x2)] [] _
  refine J_iconst (x := 0) dX11_isProved_0 (by decide) ?_
  refine J_istore_n (lv' := [(3, .int 0), (0, .ref 1100), (1, .int (nI r)), (2, .int x2)]) dX11_isProved_1 rfl (by decide) rfl ?_
  refine J_lv [1, 2, 3, 0] rfl ?_
  exact pv_L hI v u r hr x2 N hN hW hW.1 (N + 1) 0 (by omega) (by omega) lt_0
def sp_ow (P D : Nat → Int32) (c : Int32) : Nat → Int32
  | 0 => 0
  | j + 1 => sp_ow P D c j + (if P j = (-1) then 0 else if D j = 0 then c else 0)
theorem sp_ow_s (P D : Nat → Int32) (c : Int32) (j : Nat) : sp_ow P D c (j + 1) = sp_ow P D c j + (if P j = (-1) then 0 else if D j = 0 then c else 0) := rfl
theorem ow_L {l : Launch} {I : List Nat} (hI : fr_I I) (v : fr_V) (u : fr_U) (r : Nat) (hr : r < 16) (h2 : ¬ v 1111 r = (-1) → vp_in (v 1111 r) 12) (h3 : ¬ v 1112 r = (-1) → vp_in (v 1112 r) 12) : ∀ (d j : Nat) (a : Int32) (hd : 80 - j < d) (hj : j ≤ 80) (ha : a = sp_ow (fun j => v 1147 (80 * r + j)) (fun j => f_X11_isDue v (nI r) (nI j)) (v 1113 r) j), J l mX11_owedOf I v u 4 [(0, .ref 1100), (1, .int (nI r)), (2, .int a), (3, .int (nI j))] [] (QI v u (fun a => a = sp_ow (fun j => v 1147 (80 * r + j)) (fun j => f_X11_isDue v (nI r) (nI j)) (v 1113 r) 80)) := by
  intro d
  induction d with
  | zero => intros; omega
  | succ d ih =>
    intro j a hd hj ha
    refine J_iload_n dX11_owedOf_4 rfl 3 rfl ?_
    refine J_bipush (x := 80) dX11_owedOf_5 (by decide) ?_
    refine J_icmp_ge (tgt := 53) dX11_owedOf_7 (by decide) (fun c1 => ?_) (fun c1 => ?_)
    · refine J_iload_n dX11_owedOf_53 rfl 2 rfl ?_
      exact J_iret dX11_owedOf_54 rfl ⟨_, rfl, rfl, rfl, by have e : j = 80 := by {have := nz_le (a := 80) (by omega) (by omega) c1; omega}; rw [ha, e]⟩
    · have hj80 : j < 80 := nz_nle (a := 80) (by omega) (by omega) c1
      refine J_iload_n dX11_owedOf_10 rfl 2 rfl ?_
      refine J_aload_n dX11_owedOf_11 rfl 0 rfl ?_
      refine J_getr (ci := 11) (j := 46) (t := 1147) dX11_owedOf_12 fl_X11_99 (i1100 hI) rfl rfl rfl ?_
      refine J_bipush (x := 80) dX11_owedOf_15 (by decide) ?_
      refine J_iload_n dX11_owedOf_17 rfl 1 rfl ?_
      refine J_imul dX11_owedOf_18 ?_
      refine J_iload_n dX11_owedOf_19 rfl 3 rfl ?_
      refine J_iadd dX11_owedOf_20 ?_
      refine J_iale (x := v 1147 ((80 * r) + j)) dX11_owedOf_21 (i1147 hI) rfl (ix_in (j := (80 * r) + j) (by show ((nI 80) * (nI r)) + (nI j) = _; simp only [nI_add, pk_mul]) (by omega) (by omega)) ((congrArg _ (ix_cl (j := (80 * r) + j) (by show ((nI 80) * (nI r)) + (nI j) = _; simp only [nI_add, pk_mul]) (by omega))).trans rfl) ?_
      refine J_iconst (x := (-1)) dX11_owedOf_22 (by decide) ?_
      refine J_icmp_eq (tgt := 44) dX11_owedOf_23 (by decide) (fun c2 => ?_) (fun c2 => ?_)
      · refine J_iconst (x := 0) dX11_owedOf_44 (by decide) ?_
        refine J_iadd dX11_owedOf_45 ?_
        refine J_istore_n (lv' := [(2, .int (a + 0)), (0, .ref 1100), (1, .int (nI r)), (3, .int (nI j))]) dX11_owedOf_46 rfl (by decide) rfl ?_
        refine J_iinc (q := 3) (z := nI (j + 1)) (lv' := [(3, .int (nI (j + 1))), (2, .int (a + 0)), (0, .ref 1100), (1, .int (nI r))]) dX11_owedOf_47 rfl (nI_1 j) (by decide) rfl ?_
        refine J_goto (tgt := 4) dX11_owedOf_50 (by decide) ?_
        refine J_lv [2, 3, 1, 0] rfl ?_
        exact ih (j + 1) _ (by omega) (by omega) (by rw [sp_ow_s, if_pos c2, ha])
      · refine J_aload_n dX11_owedOf_26 rfl 0 rfl ?_
        refine J_iload_n dX11_owedOf_27 rfl 1 rfl ?_
        refine J_iload_n dX11_owedOf_28 rfl 3 rfl ?_
        refine J_eVI (z := mX11_isDue) (As := [.int (nI r), .int (nI j)]) (rest := [.int a]) (ci := 11) (x := f_X11_isDue v  (nI r) (nI j)) dX11_owedOf_29 ml_X11_269 ok_X11_isDue iv_X11_isDue (by decide) (i1100 hI) rfl rfl rfl rfl (Nat.le_of_ble_eq_true rfl) (k_X11_isDue hI v u _ _ (vp_in_nI hr (by omega)) (by rw [nI_clamp (by omega)]; exact h2) (by rw [nI_clamp (by omega)]; exact h3)) ?_
        refine J_if_ne (tgt := 44) dX11_owedOf_32 (by decide) (fun c3 => ?_) (fun c3 => ?_)
        · refine J_iconst (x := 0) dX11_owedOf_44 (by decide) ?_
          refine J_iadd dX11_owedOf_45 ?_
          refine J_istore_n (lv' := [(2, .int (a + 0)), (0, .ref 1100), (1, .int (nI r)), (3, .int (nI j))]) dX11_owedOf_46 rfl (by decide) rfl ?_
          refine J_iinc (q := 3) (z := nI (j + 1)) (lv' := [(3, .int (nI (j + 1))), (2, .int (a + 0)), (0, .ref 1100), (1, .int (nI r))]) dX11_owedOf_47 rfl (nI_1 j) (by decide) rfl ?_
          refine J_goto (tgt := 4) dX11_owedOf_50 (by decide) ?_
          refine J_lv [2, 3, 1, 0] rfl ?_
          exact ih (j + 1) _ (by omega) (by omega) (by rw [sp_ow_s, if_neg c2, if_neg c3, ha])
        · refine J_aload_n dX11_owedOf_35 rfl 0 rfl ?_
          refine J_getr (ci := 11) (j := 12) (t := 1113) dX11_owedOf_36 fl_X11_31 (i1100 hI) rfl rfl rfl ?_
          refine J_iload_n dX11_owedOf_39 rfl 1 rfl ?_
          refine J_iale (x := v 1113 r) dX11_owedOf_40 (i1113 hI) rfl (ix_in (j := r) rfl (by omega) (by omega)) ((congrArg _ (ix_cl (j := r) rfl (by omega))).trans rfl) ?_
          refine J_goto (tgt := 45) dX11_owedOf_41 (by decide) ?_
          refine J_iadd dX11_owedOf_45 ?_
          refine J_istore_n (lv' := [(2, .int (a + (v 1113 r))), (0, .ref 1100), (1, .int (nI r)), (3, .int (nI j))]) dX11_owedOf_46 rfl (by decide) rfl ?_
          refine J_iinc (q := 3) (z := nI (j + 1)) (lv' := [(3, .int (nI (j + 1))), (2, .int (a + (v 1113 r))), (0, .ref 1100), (1, .int (nI r))]) dX11_owedOf_47 rfl (nI_1 j) (by decide) rfl ?_
          refine J_goto (tgt := 4) dX11_owedOf_50 (by decide) ?_
          refine J_lv [2, 3, 1, 0] rfl ?_
          exact ih (j + 1) _ (by omega) (by omega) (by rw [sp_ow_s, if_neg c2, if_pos c3, ha])
theorem k_X11_owedOf {l : Launch} {I : List Nat} (hI : fr_I I) (v : fr_V) (u : fr_U) (r : Nat) (hr : r < 16) (h2 : ¬ v 1111 r = (-1) → vp_in (v 1111 r) 12) (h3 : ¬ v 1112 r = (-1) → vp_in (v 1112 r) 12) : Con l mX11_owedOf I v u [.ref 1100, .int (nI r)] (QI v u (fun a => a = sp_ow (fun j => v 1147 (80 * r + j)) (fun j => f_X11_isDue v (nI r) (nI j)) (v 1113 r) 80)) := by
  refine Con.of (by decide) (Nat.le_of_ble_eq_true rfl) ?_
  show J l mX11_owedOf I v u 0 [(0, .ref 1100), (1, .int (nI r))] [] _
  refine J_iconst (x := 0) dX11_owedOf_0 (by decide) ?_
  refine J_istore_n (lv' := [(2, .int 0), (0, .ref 1100), (1, .int (nI r))]) dX11_owedOf_1 rfl (by decide) rfl ?_
  refine J_iconst (x := 0) dX11_owedOf_2 (by decide) ?_
  refine J_istore_n (lv' := [(3, .int 0), (2, .int 0), (0, .ref 1100), (1, .int (nI r))]) dX11_owedOf_3 rfl (by decide) rfl ?_
  refine J_lv [2, 3, 1, 0] rfl ?_
  exact ow_L hI v u r hr h2 h3 81 0 _ (by omega) (by omega) rfl
def acP (v : fr_V) (w b h z ag : Int32) (k : Nat) : Prop := (if w = 0 then ¬ 1 < v 1131 k else v 1131 k = w) ∧ ¬ f_X11_isIn v ag (v 1133 k) (v 1134 k) = 0 ∧ (v 1135 k >>> (v 1107 z.toNatClampNeg &&& 31)) &&& 1 = 1 ∧ ¬ f_X11_isIn v h (v 1136 k) (v 1137 k) = 0 ∧ (v 1138 k = 0 ∨ (v 1138 k = 1 ↔ ¬ b = (-1)))
noncomputable def acF (v : fr_V) (w b h e z ag : Int32) : Nat → Int32
  | 0 => e
  | s + 1 => @ite Int32 (acP v w b h z ag s) (Classical.propDecidable _) (if w = 0 then 1 - v 1131 s else v 1132 s) (acF v w b h e z ag s)
theorem acF_p {v : fr_V} {w b h e z ag : Int32} {s : Nat} (hp : acP v w b h z ag s) : acF v w b h e z ag (s + 1) = if w = 0 then 1 - v 1131 s else v 1132 s := if_pos hp
theorem acF_n {v : fr_V} {w b h e z ag : Int32} {s : Nat} (hp : ¬ acP v w b h z ag s) : acF v w b h e z ag (s + 1) = acF v w b h e z ag s := if_neg hp
theorem ac_L {l : Launch} {I : List Nat} (hI : fr_I I) (v : fr_V) (u : fr_U) (x1 x2 x3 x4 x5 z ag : Int32) (M : Nat) (hM : M ≤ 24) (hz : vp_in z 12) : ∀ (t : Nat) (ht : t ≤ M), J l mX11_actOf I v u 47 [(0, .ref 1100), (1, .int x1), (2, .int x2), (3, .int x3), (4, .int x4), (5, .int x5), (6, .int z), (7, .int ag), (8, .int (nI t - 1))] [] (QI v u (fun a => a = acF v x1 x3 x4 x5 z ag t)) := by
  intro t
  induction t with
  | zero =>
    intro ht
    refine J_iload dX11_actOf_47 8 rfl ?_
    refine J_if_lt (tgt := 244) dX11_actOf_49 (by decide) (fun c1 => ?_) (fun c1 => absurd dn_0 c1)
    refine J_iload dX11_actOf_244 5 rfl ?_
    exact J_iret dX11_actOf_246 rfl ⟨_, rfl, rfl, rfl, rfl⟩
  | succ s ih =>
    intro ht
    rw [nI_pred]
    refine J_iload dX11_actOf_47 8 rfl ?_
    refine J_if_lt (tgt := 244) dX11_actOf_49 (by decide) (fun c1 => absurd c1 (nI_pos (by omega))) (fun c1 => ?_)
    refine J_iload_n dX11_actOf_52 rfl 1 rfl ?_
    refine J_if_ne (tgt := 75) dX11_actOf_53 (by decide) (fun c2 => ?_) (fun c2 => ?_)
    · refine J_aload_n dX11_actOf_75 rfl 0 rfl ?_
      refine J_getr (ci := 11) (j := 30) (t := 1131) dX11_actOf_76 fl_X11_62 (i1100 hI) rfl rfl rfl ?_
      refine J_iload dX11_actOf_79 8 rfl ?_
      refine J_iale (x := v 1131 s) dX11_actOf_81 (i1131 hI) rfl (ix_in (j := s) rfl (by omega) (by omega)) ((congrArg _ (ix_cl (j := s) rfl (by omega))).trans rfl) ?_
      refine J_iload_n dX11_actOf_82 rfl 1 rfl ?_
      refine J_icmp_ne (tgt := 90) dX11_actOf_83 (by decide) (fun c3 => ?_) (fun c3 => ?_)
      · refine J_iconst (x := 0) dX11_actOf_90 (by decide) ?_
        refine J_istore (lv' := [(9, .int 0), (0, .ref 1100), (1, .int x1), (2, .int x2), (3, .int x3), (4, .int x4), (5, .int x5), (6, .int z), (7, .int ag), (8, .int (nI s))]) dX11_actOf_91 (by decide) rfl ?_
        refine J_iload dX11_actOf_93 0 rfl ?_
        refine J_if_eq (tgt := 206) dX11_actOf_95 (by decide) (fun c4 => ?_) (fun c4 => absurd (by decide) c4)
        refine J_iconst (x := 0) dX11_actOf_206 (by decide) ?_
        refine J_istore (lv' := [(10, .int 0), (9, .int 0), (0, .ref 1100), (1, .int x1), (2, .int x2), (3, .int x3), (4, .int x4), (5, .int x5), (6, .int z), (7, .int ag), (8, .int (nI s))]) dX11_actOf_207 (by decide) rfl ?_
        refine J_iload dX11_actOf_209 0 rfl ?_
        refine J_if_eq (tgt := 238) dX11_actOf_211 (by decide) (fun c5 => ?_) (fun c5 => absurd (by decide) c5)
        refine J_iinc (q := 10) (z := nI s - 1) (lv' := [(8, .int (nI s - 1)), (10, .int 0), (9, .int 0), (0, .ref 1100), (1, .int x1), (2, .int x2), (3, .int x3), (4, .int x4), (5, .int x5), (6, .int z), (7, .int ag)]) dX11_actOf_238 rfl (dn_1 s) (by decide) rfl ?_
        refine J_goto (tgt := 47) dX11_actOf_241 (by decide) ?_
        refine J_lv [3, 4, 5, 6, 7, 8, 9, 10, 0] rfl ?_
        rw [acF_n (by clear ih; unfold acP; simp [c2, c3])]
        exact ih (by omega)
      · refine J_iconst (x := 1) dX11_actOf_86 (by decide) ?_
        refine J_goto (tgt := 91) dX11_actOf_87 (by decide) ?_
        refine J_istore (lv' := [(9, .int 1), (0, .ref 1100), (1, .int x1), (2, .int x2), (3, .int x3), (4, .int x4), (5, .int x5), (6, .int z), (7, .int ag), (8, .int (nI s))]) dX11_actOf_91 (by decide) rfl ?_
        refine J_iload dX11_actOf_93 0 rfl ?_
        refine J_if_eq (tgt := 206) dX11_actOf_95 (by decide) (fun c6 => absurd c6 (by decide)) (fun c6 => ?_)
        refine J_iload dX11_actOf_98 8 rfl ?_
        refine J_aload_n dX11_actOf_100 rfl 1 rfl ?_
        refine J_getr (ci := 11) (j := 32) (t := 1133) dX11_actOf_101 fl_X11_68 (i1100 hI) rfl rfl rfl ?_
        refine J_iload dX11_actOf_104 9 rfl ?_
        refine J_iale (x := v 1133 s) dX11_actOf_106 (i1133 hI) rfl (ix_in (j := s) rfl (by omega) (by omega)) ((congrArg _ (ix_cl (j := s) rfl (by omega))).trans rfl) ?_
        refine J_aload_n dX11_actOf_107 rfl 1 rfl ?_
        refine J_getr (ci := 11) (j := 33) (t := 1134) dX11_actOf_108 fl_X11_71 (i1100 hI) rfl rfl rfl ?_
        refine J_iload dX11_actOf_111 9 rfl ?_
        refine J_iale (x := v 1134 s) dX11_actOf_113 (i1134 hI) rfl (ix_in (j := s) rfl (by omega) (by omega)) ((congrArg _ (ix_cl (j := s) rfl (by omega))).trans rfl) ?_
        refine J_eSI (z := mX11_isIn) (As := [.int ag, .int (v 1133 s), .int (v 1134 s)]) (rest := []) (x := f_X11_isIn v  ag (v 1133 s) (v 1134 s)) dX11_actOf_114 ml_X11_204 ok_X11_isIn iv_X11_isIn (by decide) rfl rfl (Nat.le_of_ble_eq_true rfl) (k_X11_isIn hI v u _ _ _ ) ?_
        refine J_if_eq (tgt := 206) dX11_actOf_117 (by decide) (fun c7 => ?_) (fun c7 => ?_)
        · refine J_iconst (x := 0) dX11_actOf_206 (by decide) ?_
          refine J_istore (lv' := [(10, .int 0), (9, .int 1), (0, .ref 1100), (1, .int x1), (2, .int x2), (3, .int x3), (4, .int x4), (5, .int x5), (6, .int z), (7, .int ag), (8, .int (nI s))]) dX11_actOf_207 (by decide) rfl ?_
          refine J_iload dX11_actOf_209 0 rfl ?_
          refine J_if_eq (tgt := 238) dX11_actOf_211 (by decide) (fun c8 => ?_) (fun c8 => absurd (by decide) c8)
          refine J_iinc (q := 10) (z := nI s - 1) (lv' := [(8, .int (nI s - 1)), (10, .int 0), (9, .int 1), (0, .ref 1100), (1, .int x1), (2, .int x2), (3, .int x3), (4, .int x4), (5, .int x5), (6, .int z), (7, .int ag)]) dX11_actOf_238 rfl (dn_1 s) (by decide) rfl ?_
          refine J_goto (tgt := 47) dX11_actOf_241 (by decide) ?_
          refine J_lv [3, 4, 5, 6, 7, 8, 9, 10, 0] rfl ?_
          rw [acF_n (by clear ih; unfold acP; simp [c2, c3, c7])]
          exact ih (by omega)
        · refine J_aload_n dX11_actOf_120 rfl 1 rfl ?_
          refine J_getr (ci := 11) (j := 34) (t := 1135) dX11_actOf_121 fl_X11_74 (i1100 hI) rfl rfl rfl ?_
          refine J_iload dX11_actOf_124 9 rfl ?_
          refine J_iale (x := v 1135 s) dX11_actOf_126 (i1135 hI) rfl (ix_in (j := s) rfl (by omega) (by omega)) ((congrArg _ (ix_cl (j := s) rfl (by omega))).trans rfl) ?_
          refine J_aload_n dX11_actOf_127 rfl 1 rfl ?_
          refine J_getr (ci := 11) (j := 6) (t := 1107) dX11_actOf_128 fl_X11_16 (i1100 hI) rfl rfl rfl ?_
          refine J_iload dX11_actOf_131 7 rfl ?_
          refine J_iale (x := v 1107 z.toNatClampNeg) dX11_actOf_133 (i1107 hI) rfl hz rfl ?_
          refine J_ishr dX11_actOf_134 ?_
          refine J_iconst (x := 1) dX11_actOf_135 (by decide) ?_
          refine J_iand dX11_actOf_136 ?_
          refine J_iconst (x := 1) dX11_actOf_137 (by decide) ?_
          refine J_icmp_ne (tgt := 206) dX11_actOf_138 (by decide) (fun c9 => ?_) (fun c9 => ?_)
          · refine J_iconst (x := 0) dX11_actOf_206 (by decide) ?_
            refine J_istore (lv' := [(10, .int 0), (9, .int 1), (0, .ref 1100), (1, .int x1), (2, .int x2), (3, .int x3), (4, .int x4), (5, .int x5), (6, .int z), (7, .int ag), (8, .int (nI s))]) dX11_actOf_207 (by decide) rfl ?_
            refine J_iload dX11_actOf_209 0 rfl ?_
            refine J_if_eq (tgt := 238) dX11_actOf_211 (by decide) (fun c10 => ?_) (fun c10 => absurd (by decide) c10)
            refine J_iinc (q := 10) (z := nI s - 1) (lv' := [(8, .int (nI s - 1)), (10, .int 0), (9, .int 1), (0, .ref 1100), (1, .int x1), (2, .int x2), (3, .int x3), (4, .int x4), (5, .int x5), (6, .int z), (7, .int ag)]) dX11_actOf_238 rfl (dn_1 s) (by decide) rfl ?_
            refine J_goto (tgt := 47) dX11_actOf_241 (by decide) ?_
            refine J_lv [3, 4, 5, 6, 7, 8, 9, 10, 0] rfl ?_
            rw [acF_n (by clear ih; unfold acP; simp [c2, c3, c7, c9])]
            exact ih (by omega)
          · refine J_iload dX11_actOf_141 5 rfl ?_
            refine J_aload_n dX11_actOf_143 rfl 1 rfl ?_
            refine J_getr (ci := 11) (j := 35) (t := 1136) dX11_actOf_144 fl_X11_77 (i1100 hI) rfl rfl rfl ?_
            refine J_iload dX11_actOf_147 9 rfl ?_
            refine J_iale (x := v 1136 s) dX11_actOf_149 (i1136 hI) rfl (ix_in (j := s) rfl (by omega) (by omega)) ((congrArg _ (ix_cl (j := s) rfl (by omega))).trans rfl) ?_
            refine J_aload_n dX11_actOf_150 rfl 1 rfl ?_
            refine J_getr (ci := 11) (j := 36) (t := 1137) dX11_actOf_151 fl_X11_80 (i1100 hI) rfl rfl rfl ?_
            refine J_iload dX11_actOf_154 9 rfl ?_
            refine J_iale (x := v 1137 s) dX11_actOf_156 (i1137 hI) rfl (ix_in (j := s) rfl (by omega) (by omega)) ((congrArg _ (ix_cl (j := s) rfl (by omega))).trans rfl) ?_
            refine J_eSI (z := mX11_isIn) (As := [.int x4, .int (v 1136 s), .int (v 1137 s)]) (rest := []) (x := f_X11_isIn v  x4 (v 1136 s) (v 1137 s)) dX11_actOf_157 ml_X11_204 ok_X11_isIn iv_X11_isIn (by decide) rfl rfl (Nat.le_of_ble_eq_true rfl) (k_X11_isIn hI v u _ _ _ ) ?_
            refine J_if_eq (tgt := 206) dX11_actOf_160 (by decide) (fun c11 => ?_) (fun c11 => ?_)
            · refine J_iconst (x := 0) dX11_actOf_206 (by decide) ?_
              refine J_istore (lv' := [(10, .int 0), (9, .int 1), (0, .ref 1100), (1, .int x1), (2, .int x2), (3, .int x3), (4, .int x4), (5, .int x5), (6, .int z), (7, .int ag), (8, .int (nI s))]) dX11_actOf_207 (by decide) rfl ?_
              refine J_iload dX11_actOf_209 0 rfl ?_
              refine J_if_eq (tgt := 238) dX11_actOf_211 (by decide) (fun c12 => ?_) (fun c12 => absurd (by decide) c12)
              refine J_iinc (q := 10) (z := nI s - 1) (lv' := [(8, .int (nI s - 1)), (10, .int 0), (9, .int 1), (0, .ref 1100), (1, .int x1), (2, .int x2), (3, .int x3), (4, .int x4), (5, .int x5), (6, .int z), (7, .int ag)]) dX11_actOf_238 rfl (dn_1 s) (by decide) rfl ?_
              refine J_goto (tgt := 47) dX11_actOf_241 (by decide) ?_
              refine J_lv [3, 4, 5, 6, 7, 8, 9, 10, 0] rfl ?_
              rw [acF_n (by clear ih; unfold acP; simp [c2, c3, c7, c9, c11])]
              exact ih (by omega)
            · refine J_aload_n dX11_actOf_163 rfl 1 rfl ?_
              refine J_getr (ci := 11) (j := 37) (t := 1138) dX11_actOf_164 fl_X11_83 (i1100 hI) rfl rfl rfl ?_
              refine J_iload dX11_actOf_167 9 rfl ?_
              refine J_iale (x := v 1138 s) dX11_actOf_169 (i1138 hI) rfl (ix_in (j := s) rfl (by omega) (by omega)) ((congrArg _ (ix_cl (j := s) rfl (by omega))).trans rfl) ?_
              refine J_if_eq (tgt := 202) dX11_actOf_170 (by decide) (fun c13 => ?_) (fun c13 => ?_)
              · refine J_iconst (x := 1) dX11_actOf_202 (by decide) ?_
                refine J_goto (tgt := 207) dX11_actOf_203 (by decide) ?_
                refine J_istore (lv' := [(10, .int 1), (9, .int 1), (0, .ref 1100), (1, .int x1), (2, .int x2), (3, .int x3), (4, .int x4), (5, .int x5), (6, .int z), (7, .int ag), (8, .int (nI s))]) dX11_actOf_207 (by decide) rfl ?_
                refine J_iload dX11_actOf_209 0 rfl ?_
                refine J_if_eq (tgt := 238) dX11_actOf_211 (by decide) (fun c14 => absurd c14 (by decide)) (fun c14 => ?_)
                refine J_iload_n dX11_actOf_214 rfl 3 rfl ?_
                refine J_if_ne (tgt := 230) dX11_actOf_215 (by decide) (fun c15 => ?_) (fun c15 => ?_)
                · refine J_aload_n dX11_actOf_230 rfl 2 rfl ?_
                  refine J_getr (ci := 11) (j := 31) (t := 1132) dX11_actOf_231 fl_X11_65 (i1100 hI) rfl rfl rfl ?_
                  refine J_iload dX11_actOf_234 10 rfl ?_
                  refine J_iale (x := v 1132 s) dX11_actOf_236 (i1132 hI) rfl (ix_in (j := s) rfl (by omega) (by omega)) ((congrArg _ (ix_cl (j := s) rfl (by omega))).trans rfl) ?_
                  exact J_iret dX11_actOf_237 rfl ⟨_, rfl, rfl, rfl, by rw [acF_p (by clear ih; unfold acP; simp [c2, c3, c7, c9, c11, c13]), if_neg c15]⟩
                · refine J_iconst (x := 1) dX11_actOf_218 (by decide) ?_
                  refine J_aload_n dX11_actOf_219 rfl 2 rfl ?_
                  refine J_getr (ci := 11) (j := 30) (t := 1131) dX11_actOf_220 fl_X11_62 (i1100 hI) rfl rfl rfl ?_
                  refine J_iload dX11_actOf_223 10 rfl ?_
                  refine J_iale (x := v 1131 s) dX11_actOf_225 (i1131 hI) rfl (ix_in (j := s) rfl (by omega) (by omega)) ((congrArg _ (ix_cl (j := s) rfl (by omega))).trans rfl) ?_
                  refine J_isub dX11_actOf_226 ?_
                  refine J_goto (tgt := 237) dX11_actOf_227 (by decide) ?_
                  exact J_iret dX11_actOf_237 rfl ⟨_, rfl, rfl, rfl, by rw [acF_p (by clear ih; unfold acP; simp [c2, c3, c7, c9, c11, c13]), if_pos c15]⟩
              · refine J_aload_n dX11_actOf_173 rfl 1 rfl ?_
                refine J_getr (ci := 11) (j := 37) (t := 1138) dX11_actOf_174 fl_X11_83 (i1100 hI) rfl rfl rfl ?_
                refine J_iload dX11_actOf_177 9 rfl ?_
                refine J_iale (x := v 1138 s) dX11_actOf_179 (i1138 hI) rfl (ix_in (j := s) rfl (by omega) (by omega)) ((congrArg _ (ix_cl (j := s) rfl (by omega))).trans rfl) ?_
                refine J_iconst (x := 1) dX11_actOf_180 (by decide) ?_
                refine J_icmp_ne (tgt := 188) dX11_actOf_181 (by decide) (fun c16 => ?_) (fun c16 => ?_)
                · refine J_iconst (x := 0) dX11_actOf_188 (by decide) ?_
                  refine J_iload_n dX11_actOf_189 rfl 4 rfl ?_
                  refine J_iconst (x := (-1)) dX11_actOf_190 (by decide) ?_
                  refine J_icmp_eq (tgt := 198) dX11_actOf_191 (by decide) (fun c17 => ?_) (fun c17 => ?_)
                  · refine J_iconst (x := 0) dX11_actOf_198 (by decide) ?_
                    refine J_icmp_ne (tgt := 206) dX11_actOf_199 (by decide) (fun c18 => absurd rfl c18) (fun c18 => ?_)
                    refine J_iconst (x := 1) dX11_actOf_202 (by decide) ?_
                    refine J_goto (tgt := 207) dX11_actOf_203 (by decide) ?_
                    refine J_istore (lv' := [(10, .int 1), (9, .int 1), (0, .ref 1100), (1, .int x1), (2, .int x2), (3, .int x3), (4, .int x4), (5, .int x5), (6, .int z), (7, .int ag), (8, .int (nI s))]) dX11_actOf_207 (by decide) rfl ?_
                    refine J_iload dX11_actOf_209 0 rfl ?_
                    refine J_if_eq (tgt := 238) dX11_actOf_211 (by decide) (fun c19 => absurd c19 (by decide)) (fun c19 => ?_)
                    refine J_iload_n dX11_actOf_214 rfl 3 rfl ?_
                    refine J_if_ne (tgt := 230) dX11_actOf_215 (by decide) (fun c20 => ?_) (fun c20 => ?_)
                    · refine J_aload_n dX11_actOf_230 rfl 2 rfl ?_
                      refine J_getr (ci := 11) (j := 31) (t := 1132) dX11_actOf_231 fl_X11_65 (i1100 hI) rfl rfl rfl ?_
                      refine J_iload dX11_actOf_234 10 rfl ?_
                      refine J_iale (x := v 1132 s) dX11_actOf_236 (i1132 hI) rfl (ix_in (j := s) rfl (by omega) (by omega)) ((congrArg _ (ix_cl (j := s) rfl (by omega))).trans rfl) ?_
                      exact J_iret dX11_actOf_237 rfl ⟨_, rfl, rfl, rfl, by rw [acF_p (by clear ih; unfold acP; simp [c2, c3, c7, c9, c11, c13, c16, c17]), if_neg c20]⟩
                    · refine J_iconst (x := 1) dX11_actOf_218 (by decide) ?_
                      refine J_aload_n dX11_actOf_219 rfl 2 rfl ?_
                      refine J_getr (ci := 11) (j := 30) (t := 1131) dX11_actOf_220 fl_X11_62 (i1100 hI) rfl rfl rfl ?_
                      refine J_iload dX11_actOf_223 10 rfl ?_
                      refine J_iale (x := v 1131 s) dX11_actOf_225 (i1131 hI) rfl (ix_in (j := s) rfl (by omega) (by omega)) ((congrArg _ (ix_cl (j := s) rfl (by omega))).trans rfl) ?_
                      refine J_isub dX11_actOf_226 ?_
                      refine J_goto (tgt := 237) dX11_actOf_227 (by decide) ?_
                      exact J_iret dX11_actOf_237 rfl ⟨_, rfl, rfl, rfl, by rw [acF_p (by clear ih; unfold acP; simp [c2, c3, c7, c9, c11, c13, c16, c17]), if_pos c20]⟩
                  · refine J_iconst (x := 1) dX11_actOf_194 (by decide) ?_
                    refine J_goto (tgt := 199) dX11_actOf_195 (by decide) ?_
                    refine J_icmp_ne (tgt := 206) dX11_actOf_199 (by decide) (fun c21 => ?_) (fun c21 => absurd c21 (by decide))
                    refine J_iconst (x := 0) dX11_actOf_206 (by decide) ?_
                    refine J_istore (lv' := [(10, .int 0), (9, .int 1), (0, .ref 1100), (1, .int x1), (2, .int x2), (3, .int x3), (4, .int x4), (5, .int x5), (6, .int z), (7, .int ag), (8, .int (nI s))]) dX11_actOf_207 (by decide) rfl ?_
                    refine J_iload dX11_actOf_209 0 rfl ?_
                    refine J_if_eq (tgt := 238) dX11_actOf_211 (by decide) (fun c22 => ?_) (fun c22 => absurd (by decide) c22)
                    refine J_iinc (q := 10) (z := nI s - 1) (lv' := [(8, .int (nI s - 1)), (10, .int 0), (9, .int 1), (0, .ref 1100), (1, .int x1), (2, .int x2), (3, .int x3), (4, .int x4), (5, .int x5), (6, .int z), (7, .int ag)]) dX11_actOf_238 rfl (dn_1 s) (by decide) rfl ?_
                    refine J_goto (tgt := 47) dX11_actOf_241 (by decide) ?_
                    refine J_lv [3, 4, 5, 6, 7, 8, 9, 10, 0] rfl ?_
                    rw [acF_n (by clear ih; unfold acP; simp [c2, c3, c7, c9, c11, c13, c16, c17])]
                    exact ih (by omega)
                · refine J_iconst (x := 1) dX11_actOf_184 (by decide) ?_
                  refine J_goto (tgt := 189) dX11_actOf_185 (by decide) ?_
                  refine J_iload_n dX11_actOf_189 rfl 4 rfl ?_
                  refine J_iconst (x := (-1)) dX11_actOf_190 (by decide) ?_
                  refine J_icmp_eq (tgt := 198) dX11_actOf_191 (by decide) (fun c23 => ?_) (fun c23 => ?_)
                  · refine J_iconst (x := 0) dX11_actOf_198 (by decide) ?_
                    refine J_icmp_ne (tgt := 206) dX11_actOf_199 (by decide) (fun c24 => ?_) (fun c24 => absurd c24 (by decide))
                    refine J_iconst (x := 0) dX11_actOf_206 (by decide) ?_
                    refine J_istore (lv' := [(10, .int 0), (9, .int 1), (0, .ref 1100), (1, .int x1), (2, .int x2), (3, .int x3), (4, .int x4), (5, .int x5), (6, .int z), (7, .int ag), (8, .int (nI s))]) dX11_actOf_207 (by decide) rfl ?_
                    refine J_iload dX11_actOf_209 0 rfl ?_
                    refine J_if_eq (tgt := 238) dX11_actOf_211 (by decide) (fun c25 => ?_) (fun c25 => absurd (by decide) c25)
                    refine J_iinc (q := 10) (z := nI s - 1) (lv' := [(8, .int (nI s - 1)), (10, .int 0), (9, .int 1), (0, .ref 1100), (1, .int x1), (2, .int x2), (3, .int x3), (4, .int x4), (5, .int x5), (6, .int z), (7, .int ag)]) dX11_actOf_238 rfl (dn_1 s) (by decide) rfl ?_
                    refine J_goto (tgt := 47) dX11_actOf_241 (by decide) ?_
                    refine J_lv [3, 4, 5, 6, 7, 8, 9, 10, 0] rfl ?_
                    rw [acF_n (by clear ih; unfold acP; simp [c2, c3, c7, c9, c11, c13, c16, c23])]
                    exact ih (by omega)
                  · refine J_iconst (x := 1) dX11_actOf_194 (by decide) ?_
                    refine J_goto (tgt := 199) dX11_actOf_195 (by decide) ?_
                    refine J_icmp_ne (tgt := 206) dX11_actOf_199 (by decide) (fun c26 => absurd rfl c26) (fun c26 => ?_)
                    refine J_iconst (x := 1) dX11_actOf_202 (by decide) ?_
                    refine J_goto (tgt := 207) dX11_actOf_203 (by decide) ?_
                    refine J_istore (lv' := [(10, .int 1), (9, .int 1), (0, .ref 1100), (1, .int x1), (2, .int x2), (3, .int x3), (4, .int x4), (5, .int x5), (6, .int z), (7, .int ag), (8, .int (nI s))]) dX11_actOf_207 (by decide) rfl ?_
                    refine J_iload dX11_actOf_209 0 rfl ?_
                    refine J_if_eq (tgt := 238) dX11_actOf_211 (by decide) (fun c27 => absurd c27 (by decide)) (fun c27 => ?_)
                    refine J_iload_n dX11_actOf_214 rfl 3 rfl ?_
                    refine J_if_ne (tgt := 230) dX11_actOf_215 (by decide) (fun c28 => ?_) (fun c28 => ?_)
                    · refine J_aload_n dX11_actOf_230 rfl 2 rfl ?_
                      refine J_getr (ci := 11) (j := 31) (t := 1132) dX11_actOf_231 fl_X11_65 (i1100 hI) rfl rfl rfl ?_
                      refine J_iload dX11_actOf_234 10 rfl ?_
                      refine J_iale (x := v 1132 s) dX11_actOf_236 (i1132 hI) rfl (ix_in (j := s) rfl (by omega) (by omega)) ((congrArg _ (ix_cl (j := s) rfl (by omega))).trans rfl) ?_
                      exact J_iret dX11_actOf_237 rfl ⟨_, rfl, rfl, rfl, by rw [acF_p (by clear ih; unfold acP; simp [c2, c3, c7, c9, c11, c13, c16, c23]), if_neg c28]⟩
                    · refine J_iconst (x := 1) dX11_actOf_218 (by decide) ?_
                      refine J_aload_n dX11_actOf_219 rfl 2 rfl ?_
                      refine J_getr (ci := 11) (j := 30) (t := 1131) dX11_actOf_220 fl_X11_62 (i1100 hI) rfl rfl rfl ?_
                      refine J_iload dX11_actOf_223 10 rfl ?_
                      refine J_iale (x := v 1131 s) dX11_actOf_225 (i1131 hI) rfl (ix_in (j := s) rfl (by omega) (by omega)) ((congrArg _ (ix_cl (j := s) rfl (by omega))).trans rfl) ?_
                      refine J_isub dX11_actOf_226 ?_
                      refine J_goto (tgt := 237) dX11_actOf_227 (by decide) ?_
                      exact J_iret dX11_actOf_237 rfl ⟨_, rfl, rfl, rfl, by rw [acF_p (by clear ih; unfold acP; simp [c2, c3, c7, c9, c11, c13, c16, c23]), if_pos c28]⟩
    · refine J_aload_n dX11_actOf_56 rfl 0 rfl ?_
      refine J_getr (ci := 11) (j := 30) (t := 1131) dX11_actOf_57 fl_X11_62 (i1100 hI) rfl rfl rfl ?_
      refine J_iload dX11_actOf_60 8 rfl ?_
      refine J_iale (x := v 1131 s) dX11_actOf_62 (i1131 hI) rfl (ix_in (j := s) rfl (by omega) (by omega)) ((congrArg _ (ix_cl (j := s) rfl (by omega))).trans rfl) ?_
      refine J_iconst (x := 1) dX11_actOf_63 (by decide) ?_
      refine J_icmp_gt (tgt := 71) dX11_actOf_64 (by decide) (fun c29 => ?_) (fun c29 => ?_)
      · refine J_iconst (x := 0) dX11_actOf_71 (by decide) ?_
        refine J_goto (tgt := 91) dX11_actOf_72 (by decide) ?_
        refine J_istore (lv' := [(9, .int 0), (0, .ref 1100), (1, .int x1), (2, .int x2), (3, .int x3), (4, .int x4), (5, .int x5), (6, .int z), (7, .int ag), (8, .int (nI s))]) dX11_actOf_91 (by decide) rfl ?_
        refine J_iload dX11_actOf_93 0 rfl ?_
        refine J_if_eq (tgt := 206) dX11_actOf_95 (by decide) (fun c30 => ?_) (fun c30 => absurd (by decide) c30)
        refine J_iconst (x := 0) dX11_actOf_206 (by decide) ?_
        refine J_istore (lv' := [(10, .int 0), (9, .int 0), (0, .ref 1100), (1, .int x1), (2, .int x2), (3, .int x3), (4, .int x4), (5, .int x5), (6, .int z), (7, .int ag), (8, .int (nI s))]) dX11_actOf_207 (by decide) rfl ?_
        refine J_iload dX11_actOf_209 0 rfl ?_
        refine J_if_eq (tgt := 238) dX11_actOf_211 (by decide) (fun c31 => ?_) (fun c31 => absurd (by decide) c31)
        refine J_iinc (q := 10) (z := nI s - 1) (lv' := [(8, .int (nI s - 1)), (10, .int 0), (9, .int 0), (0, .ref 1100), (1, .int x1), (2, .int x2), (3, .int x3), (4, .int x4), (5, .int x5), (6, .int z), (7, .int ag)]) dX11_actOf_238 rfl (dn_1 s) (by decide) rfl ?_
        refine J_goto (tgt := 47) dX11_actOf_241 (by decide) ?_
        refine J_lv [3, 4, 5, 6, 7, 8, 9, 10, 0] rfl ?_
        rw [acF_n (by clear ih; unfold acP; simp [c2, c29])]
        exact ih (by omega)
      · refine J_iconst (x := 1) dX11_actOf_67 (by decide) ?_
        refine J_goto (tgt := 91) dX11_actOf_68 (by decide) ?_
        refine J_istore (lv' := [(9, .int 1), (0, .ref 1100), (1, .int x1), (2, .int x2), (3, .int x3), (4, .int x4), (5, .int x5), (6, .int z), (7, .int ag), (8, .int (nI s))]) dX11_actOf_91 (by decide) rfl ?_
        refine J_iload dX11_actOf_93 0 rfl ?_
        refine J_if_eq (tgt := 206) dX11_actOf_95 (by decide) (fun c32 => absurd c32 (by decide)) (fun c32 => ?_)
        refine J_iload dX11_actOf_98 8 rfl ?_
        refine J_aload_n dX11_actOf_100 rfl 1 rfl ?_
        refine J_getr (ci := 11) (j := 32) (t := 1133) dX11_actOf_101 fl_X11_68 (i1100 hI) rfl rfl rfl ?_
        refine J_iload dX11_actOf_104 9 rfl ?_
        refine J_iale (x := v 1133 s) dX11_actOf_106 (i1133 hI) rfl (ix_in (j := s) rfl (by omega) (by omega)) ((congrArg _ (ix_cl (j := s) rfl (by omega))).trans rfl) ?_
        refine J_aload_n dX11_actOf_107 rfl 1 rfl ?_
        refine J_getr (ci := 11) (j := 33) (t := 1134) dX11_actOf_108 fl_X11_71 (i1100 hI) rfl rfl rfl ?_
        refine J_iload dX11_actOf_111 9 rfl ?_
        refine J_iale (x := v 1134 s) dX11_actOf_113 (i1134 hI) rfl (ix_in (j := s) rfl (by omega) (by omega)) ((congrArg _ (ix_cl (j := s) rfl (by omega))).trans rfl) ?_
        refine J_eSI (z := mX11_isIn) (As := [.int ag, .int (v 1133 s), .int (v 1134 s)]) (rest := []) (x := f_X11_isIn v  ag (v 1133 s) (v 1134 s)) dX11_actOf_114 ml_X11_204 ok_X11_isIn iv_X11_isIn (by decide) rfl rfl (Nat.le_of_ble_eq_true rfl) (k_X11_isIn hI v u _ _ _ ) ?_
        refine J_if_eq (tgt := 206) dX11_actOf_117 (by decide) (fun c33 => ?_) (fun c33 => ?_)
        · refine J_iconst (x := 0) dX11_actOf_206 (by decide) ?_
          refine J_istore (lv' := [(10, .int 0), (9, .int 1), (0, .ref 1100), (1, .int x1), (2, .int x2), (3, .int x3), (4, .int x4), (5, .int x5), (6, .int z), (7, .int ag), (8, .int (nI s))]) dX11_actOf_207 (by decide) rfl ?_
          refine J_iload dX11_actOf_209 0 rfl ?_
          refine J_if_eq (tgt := 238) dX11_actOf_211 (by decide) (fun c34 => ?_) (fun c34 => absurd (by decide) c34)
          refine J_iinc (q := 10) (z := nI s - 1) (lv' := [(8, .int (nI s - 1)), (10, .int 0), (9, .int 1), (0, .ref 1100), (1, .int x1), (2, .int x2), (3, .int x3), (4, .int x4), (5, .int x5), (6, .int z), (7, .int ag)]) dX11_actOf_238 rfl (dn_1 s) (by decide) rfl ?_
          refine J_goto (tgt := 47) dX11_actOf_241 (by decide) ?_
          refine J_lv [3, 4, 5, 6, 7, 8, 9, 10, 0] rfl ?_
          rw [acF_n (by clear ih; unfold acP; simp [c2, c29, c33])]
          exact ih (by omega)
        · refine J_aload_n dX11_actOf_120 rfl 1 rfl ?_
          refine J_getr (ci := 11) (j := 34) (t := 1135) dX11_actOf_121 fl_X11_74 (i1100 hI) rfl rfl rfl ?_
          refine J_iload dX11_actOf_124 9 rfl ?_
          refine J_iale (x := v 1135 s) dX11_actOf_126 (i1135 hI) rfl (ix_in (j := s) rfl (by omega) (by omega)) ((congrArg _ (ix_cl (j := s) rfl (by omega))).trans rfl) ?_
          refine J_aload_n dX11_actOf_127 rfl 1 rfl ?_
          refine J_getr (ci := 11) (j := 6) (t := 1107) dX11_actOf_128 fl_X11_16 (i1100 hI) rfl rfl rfl ?_
          refine J_iload dX11_actOf_131 7 rfl ?_
          refine J_iale (x := v 1107 z.toNatClampNeg) dX11_actOf_133 (i1107 hI) rfl hz rfl ?_
          refine J_ishr dX11_actOf_134 ?_
          refine J_iconst (x := 1) dX11_actOf_135 (by decide) ?_
          refine J_iand dX11_actOf_136 ?_
          refine J_iconst (x := 1) dX11_actOf_137 (by decide) ?_
          refine J_icmp_ne (tgt := 206) dX11_actOf_138 (by decide) (fun c35 => ?_) (fun c35 => ?_)
          · refine J_iconst (x := 0) dX11_actOf_206 (by decide) ?_
            refine J_istore (lv' := [(10, .int 0), (9, .int 1), (0, .ref 1100), (1, .int x1), (2, .int x2), (3, .int x3), (4, .int x4), (5, .int x5), (6, .int z), (7, .int ag), (8, .int (nI s))]) dX11_actOf_207 (by decide) rfl ?_
            refine J_iload dX11_actOf_209 0 rfl ?_
            refine J_if_eq (tgt := 238) dX11_actOf_211 (by decide) (fun c36 => ?_) (fun c36 => absurd (by decide) c36)
            refine J_iinc (q := 10) (z := nI s - 1) (lv' := [(8, .int (nI s - 1)), (10, .int 0), (9, .int 1), (0, .ref 1100), (1, .int x1), (2, .int x2), (3, .int x3), (4, .int x4), (5, .int x5), (6, .int z), (7, .int ag)]) dX11_actOf_238 rfl (dn_1 s) (by decide) rfl ?_
            refine J_goto (tgt := 47) dX11_actOf_241 (by decide) ?_
            refine J_lv [3, 4, 5, 6, 7, 8, 9, 10, 0] rfl ?_
            rw [acF_n (by clear ih; unfold acP; simp [c2, c29, c33, c35])]
            exact ih (by omega)
          · refine J_iload dX11_actOf_141 5 rfl ?_
            refine J_aload_n dX11_actOf_143 rfl 1 rfl ?_
            refine J_getr (ci := 11) (j := 35) (t := 1136) dX11_actOf_144 fl_X11_77 (i1100 hI) rfl rfl rfl ?_
            refine J_iload dX11_actOf_147 9 rfl ?_
            refine J_iale (x := v 1136 s) dX11_actOf_149 (i1136 hI) rfl (ix_in (j := s) rfl (by omega) (by omega)) ((congrArg _ (ix_cl (j := s) rfl (by omega))).trans rfl) ?_
            refine J_aload_n dX11_actOf_150 rfl 1 rfl ?_
            refine J_getr (ci := 11) (j := 36) (t := 1137) dX11_actOf_151 fl_X11_80 (i1100 hI) rfl rfl rfl ?_
            refine J_iload dX11_actOf_154 9 rfl ?_
            refine J_iale (x := v 1137 s) dX11_actOf_156 (i1137 hI) rfl (ix_in (j := s) rfl (by omega) (by omega)) ((congrArg _ (ix_cl (j := s) rfl (by omega))).trans rfl) ?_
            refine J_eSI (z := mX11_isIn) (As := [.int x4, .int (v 1136 s), .int (v 1137 s)]) (rest := []) (x := f_X11_isIn v  x4 (v 1136 s) (v 1137 s)) dX11_actOf_157 ml_X11_204 ok_X11_isIn iv_X11_isIn (by decide) rfl rfl (Nat.le_of_ble_eq_true rfl) (k_X11_isIn hI v u _ _ _ ) ?_
            refine J_if_eq (tgt := 206) dX11_actOf_160 (by decide) (fun c37 => ?_) (fun c37 => ?_)
            · refine J_iconst (x := 0) dX11_actOf_206 (by decide) ?_
              refine J_istore (lv' := [(10, .int 0), (9, .int 1), (0, .ref 1100), (1, .int x1), (2, .int x2), (3, .int x3), (4, .int x4), (5, .int x5), (6, .int z), (7, .int ag), (8, .int (nI s))]) dX11_actOf_207 (by decide) rfl ?_
              refine J_iload dX11_actOf_209 0 rfl ?_
              refine J_if_eq (tgt := 238) dX11_actOf_211 (by decide) (fun c38 => ?_) (fun c38 => absurd (by decide) c38)
              refine J_iinc (q := 10) (z := nI s - 1) (lv' := [(8, .int (nI s - 1)), (10, .int 0), (9, .int 1), (0, .ref 1100), (1, .int x1), (2, .int x2), (3, .int x3), (4, .int x4), (5, .int x5), (6, .int z), (7, .int ag)]) dX11_actOf_238 rfl (dn_1 s) (by decide) rfl ?_
              refine J_goto (tgt := 47) dX11_actOf_241 (by decide) ?_
              refine J_lv [3, 4, 5, 6, 7, 8, 9, 10, 0] rfl ?_
              rw [acF_n (by clear ih; unfold acP; simp [c2, c29, c33, c35, c37])]
              exact ih (by omega)
            · refine J_aload_n dX11_actOf_163 rfl 1 rfl ?_
              refine J_getr (ci := 11) (j := 37) (t := 1138) dX11_actOf_164 fl_X11_83 (i1100 hI) rfl rfl rfl ?_
              refine J_iload dX11_actOf_167 9 rfl ?_
              refine J_iale (x := v 1138 s) dX11_actOf_169 (i1138 hI) rfl (ix_in (j := s) rfl (by omega) (by omega)) ((congrArg _ (ix_cl (j := s) rfl (by omega))).trans rfl) ?_
              refine J_if_eq (tgt := 202) dX11_actOf_170 (by decide) (fun c39 => ?_) (fun c39 => ?_)
              · refine J_iconst (x := 1) dX11_actOf_202 (by decide) ?_
                refine J_goto (tgt := 207) dX11_actOf_203 (by decide) ?_
                refine J_istore (lv' := [(10, .int 1), (9, .int 1), (0, .ref 1100), (1, .int x1), (2, .int x2), (3, .int x3), (4, .int x4), (5, .int x5), (6, .int z), (7, .int ag), (8, .int (nI s))]) dX11_actOf_207 (by decide) rfl ?_
                refine J_iload dX11_actOf_209 0 rfl ?_
                refine J_if_eq (tgt := 238) dX11_actOf_211 (by decide) (fun c40 => absurd c40 (by decide)) (fun c40 => ?_)
                refine J_iload_n dX11_actOf_214 rfl 3 rfl ?_
                refine J_if_ne (tgt := 230) dX11_actOf_215 (by decide) (fun c41 => ?_) (fun c41 => ?_)
                · refine J_aload_n dX11_actOf_230 rfl 2 rfl ?_
                  refine J_getr (ci := 11) (j := 31) (t := 1132) dX11_actOf_231 fl_X11_65 (i1100 hI) rfl rfl rfl ?_
                  refine J_iload dX11_actOf_234 10 rfl ?_
                  refine J_iale (x := v 1132 s) dX11_actOf_236 (i1132 hI) rfl (ix_in (j := s) rfl (by omega) (by omega)) ((congrArg _ (ix_cl (j := s) rfl (by omega))).trans rfl) ?_
                  exact J_iret dX11_actOf_237 rfl ⟨_, rfl, rfl, rfl, by rw [acF_p (by clear ih; unfold acP; simp [c2, c29, c33, c35, c37, c39]), if_neg c41]⟩
                · refine J_iconst (x := 1) dX11_actOf_218 (by decide) ?_
                  refine J_aload_n dX11_actOf_219 rfl 2 rfl ?_
                  refine J_getr (ci := 11) (j := 30) (t := 1131) dX11_actOf_220 fl_X11_62 (i1100 hI) rfl rfl rfl ?_
                  refine J_iload dX11_actOf_223 10 rfl ?_
                  refine J_iale (x := v 1131 s) dX11_actOf_225 (i1131 hI) rfl (ix_in (j := s) rfl (by omega) (by omega)) ((congrArg _ (ix_cl (j := s) rfl (by omega))).trans rfl) ?_
                  refine J_isub dX11_actOf_226 ?_
                  refine J_goto (tgt := 237) dX11_actOf_227 (by decide) ?_
                  exact J_iret dX11_actOf_237 rfl ⟨_, rfl, rfl, rfl, by rw [acF_p (by clear ih; unfold acP; simp [c2, c29, c33, c35, c37, c39]), if_pos c41]⟩
              · refine J_aload_n dX11_actOf_173 rfl 1 rfl ?_
                refine J_getr (ci := 11) (j := 37) (t := 1138) dX11_actOf_174 fl_X11_83 (i1100 hI) rfl rfl rfl ?_
                refine J_iload dX11_actOf_177 9 rfl ?_
                refine J_iale (x := v 1138 s) dX11_actOf_179 (i1138 hI) rfl (ix_in (j := s) rfl (by omega) (by omega)) ((congrArg _ (ix_cl (j := s) rfl (by omega))).trans rfl) ?_
                refine J_iconst (x := 1) dX11_actOf_180 (by decide) ?_
                refine J_icmp_ne (tgt := 188) dX11_actOf_181 (by decide) (fun c42 => ?_) (fun c42 => ?_)
                · refine J_iconst (x := 0) dX11_actOf_188 (by decide) ?_
                  refine J_iload_n dX11_actOf_189 rfl 4 rfl ?_
                  refine J_iconst (x := (-1)) dX11_actOf_190 (by decide) ?_
                  refine J_icmp_eq (tgt := 198) dX11_actOf_191 (by decide) (fun c43 => ?_) (fun c43 => ?_)
                  · refine J_iconst (x := 0) dX11_actOf_198 (by decide) ?_
                    refine J_icmp_ne (tgt := 206) dX11_actOf_199 (by decide) (fun c44 => absurd rfl c44) (fun c44 => ?_)
                    refine J_iconst (x := 1) dX11_actOf_202 (by decide) ?_
                    refine J_goto (tgt := 207) dX11_actOf_203 (by decide) ?_
                    refine J_istore (lv' := [(10, .int 1), (9, .int 1), (0, .ref 1100), (1, .int x1), (2, .int x2), (3, .int x3), (4, .int x4), (5, .int x5), (6, .int z), (7, .int ag), (8, .int (nI s))]) dX11_actOf_207 (by decide) rfl ?_
                    refine J_iload dX11_actOf_209 0 rfl ?_
                    refine J_if_eq (tgt := 238) dX11_actOf_211 (by decide) (fun c45 => absurd c45 (by decide)) (fun c45 => ?_)
                    refine J_iload_n dX11_actOf_214 rfl 3 rfl ?_
                    refine J_if_ne (tgt := 230) dX11_actOf_215 (by decide) (fun c46 => ?_) (fun c46 => ?_)
                    · refine J_aload_n dX11_actOf_230 rfl 2 rfl ?_
                      refine J_getr (ci := 11) (j := 31) (t := 1132) dX11_actOf_231 fl_X11_65 (i1100 hI) rfl rfl rfl ?_
                      refine J_iload dX11_actOf_234 10 rfl ?_
                      refine J_iale (x := v 1132 s) dX11_actOf_236 (i1132 hI) rfl (ix_in (j := s) rfl (by omega) (by omega)) ((congrArg _ (ix_cl (j := s) rfl (by omega))).trans rfl) ?_
                      exact J_iret dX11_actOf_237 rfl ⟨_, rfl, rfl, rfl, by rw [acF_p (by clear ih; unfold acP; simp [c2, c29, c33, c35, c37, c39, c42, c43]), if_neg c46]⟩
                    · refine J_iconst (x := 1) dX11_actOf_218 (by decide) ?_
                      refine J_aload_n dX11_actOf_219 rfl 2 rfl ?_
                      refine J_getr (ci := 11) (j := 30) (t := 1131) dX11_actOf_220 fl_X11_62 (i1100 hI) rfl rfl rfl ?_
                      refine J_iload dX11_actOf_223 10 rfl ?_
                      refine J_iale (x := v 1131 s) dX11_actOf_225 (i1131 hI) rfl (ix_in (j := s) rfl (by omega) (by omega)) ((congrArg _ (ix_cl (j := s) rfl (by omega))).trans rfl) ?_
                      refine J_isub dX11_actOf_226 ?_
                      refine J_goto (tgt := 237) dX11_actOf_227 (by decide) ?_
                      exact J_iret dX11_actOf_237 rfl ⟨_, rfl, rfl, rfl, by rw [acF_p (by clear ih; unfold acP; simp [c2, c29, c33, c35, c37, c39, c42, c43]), if_pos c46]⟩
                  · refine J_iconst (x := 1) dX11_actOf_194 (by decide) ?_
                    refine J_goto (tgt := 199) dX11_actOf_195 (by decide) ?_
                    refine J_icmp_ne (tgt := 206) dX11_actOf_199 (by decide) (fun c47 => ?_) (fun c47 => absurd c47 (by decide))
                    refine J_iconst (x := 0) dX11_actOf_206 (by decide) ?_
                    refine J_istore (lv' := [(10, .int 0), (9, .int 1), (0, .ref 1100), (1, .int x1), (2, .int x2), (3, .int x3), (4, .int x4), (5, .int x5), (6, .int z), (7, .int ag), (8, .int (nI s))]) dX11_actOf_207 (by decide) rfl ?_
                    refine J_iload dX11_actOf_209 0 rfl ?_
                    refine J_if_eq (tgt := 238) dX11_actOf_211 (by decide) (fun c48 => ?_) (fun c48 => absurd (by decide) c48)
                    refine J_iinc (q := 10) (z := nI s - 1) (lv' := [(8, .int (nI s - 1)), (10, .int 0), (9, .int 1), (0, .ref 1100), (1, .int x1), (2, .int x2), (3, .int x3), (4, .int x4), (5, .int x5), (6, .int z), (7, .int ag)]) dX11_actOf_238 rfl (dn_1 s) (by decide) rfl ?_
                    refine J_goto (tgt := 47) dX11_actOf_241 (by decide) ?_
                    refine J_lv [3, 4, 5, 6, 7, 8, 9, 10, 0] rfl ?_
                    rw [acF_n (by clear ih; unfold acP; simp [c2, c29, c33, c35, c37, c39, c42, c43])]
                    exact ih (by omega)
                · refine J_iconst (x := 1) dX11_actOf_184 (by decide) ?_
                  refine J_goto (tgt := 189) dX11_actOf_185 (by decide) ?_
                  refine J_iload_n dX11_actOf_189 rfl 4 rfl ?_
                  refine J_iconst (x := (-1)) dX11_actOf_190 (by decide) ?_
                  refine J_icmp_eq (tgt := 198) dX11_actOf_191 (by decide) (fun c49 => ?_) (fun c49 => ?_)
                  · refine J_iconst (x := 0) dX11_actOf_198 (by decide) ?_
                    refine J_icmp_ne (tgt := 206) dX11_actOf_199 (by decide) (fun c50 => ?_) (fun c50 => absurd c50 (by decide))
                    refine J_iconst (x := 0) dX11_actOf_206 (by decide) ?_
                    refine J_istore (lv' := [(10, .int 0), (9, .int 1), (0, .ref 1100), (1, .int x1), (2, .int x2), (3, .int x3), (4, .int x4), (5, .int x5), (6, .int z), (7, .int ag), (8, .int (nI s))]) dX11_actOf_207 (by decide) rfl ?_
                    refine J_iload dX11_actOf_209 0 rfl ?_
                    refine J_if_eq (tgt := 238) dX11_actOf_211 (by decide) (fun c51 => ?_) (fun c51 => absurd (by decide) c51)
                    refine J_iinc (q := 10) (z := nI s - 1) (lv' := [(8, .int (nI s - 1)), (10, .int 0), (9, .int 1), (0, .ref 1100), (1, .int x1), (2, .int x2), (3, .int x3), (4, .int x4), (5, .int x5), (6, .int z), (7, .int ag)]) dX11_actOf_238 rfl (dn_1 s) (by decide) rfl ?_
                    refine J_goto (tgt := 47) dX11_actOf_241 (by decide) ?_
                    refine J_lv [3, 4, 5, 6, 7, 8, 9, 10, 0] rfl ?_
                    rw [acF_n (by clear ih; unfold acP; simp [c2, c29, c33, c35, c37, c39, c42, c49])]
                    exact ih (by omega)
                  · refine J_iconst (x := 1) dX11_actOf_194 (by decide) ?_
                    refine J_goto (tgt := 199) dX11_actOf_195 (by decide) ?_
                    refine J_icmp_ne (tgt := 206) dX11_actOf_199 (by decide) (fun c52 => absurd rfl c52) (fun c52 => ?_)
                    refine J_iconst (x := 1) dX11_actOf_202 (by decide) ?_
                    refine J_goto (tgt := 207) dX11_actOf_203 (by decide) ?_
                    refine J_istore (lv' := [(10, .int 1), (9, .int 1), (0, .ref 1100), (1, .int x1), (2, .int x2), (3, .int x3), (4, .int x4), (5, .int x5), (6, .int z), (7, .int ag), (8, .int (nI s))]) dX11_actOf_207 (by decide) rfl ?_
                    refine J_iload dX11_actOf_209 0 rfl ?_
                    refine J_if_eq (tgt := 238) dX11_actOf_211 (by decide) (fun c53 => absurd c53 (by decide)) (fun c53 => ?_)
                    refine J_iload_n dX11_actOf_214 rfl 3 rfl ?_
                    refine J_if_ne (tgt := 230) dX11_actOf_215 (by decide) (fun c54 => ?_) (fun c54 => ?_)
                    · refine J_aload_n dX11_actOf_230 rfl 2 rfl ?_
                      refine J_getr (ci := 11) (j := 31) (t := 1132) dX11_actOf_231 fl_X11_65 (i1100 hI) rfl rfl rfl ?_
                      refine J_iload dX11_actOf_234 10 rfl ?_
                      refine J_iale (x := v 1132 s) dX11_actOf_236 (i1132 hI) rfl (ix_in (j := s) rfl (by omega) (by omega)) ((congrArg _ (ix_cl (j := s) rfl (by omega))).trans rfl) ?_
                      exact J_iret dX11_actOf_237 rfl ⟨_, rfl, rfl, rfl, by rw [acF_p (by clear ih; unfold acP; simp [c2, c29, c33, c35, c37, c39, c42, c49]), if_neg c54]⟩
                    · refine J_iconst (x := 1) dX11_actOf_218 (by decide) ?_
                      refine J_aload_n dX11_actOf_219 rfl 2 rfl ?_
                      refine J_getr (ci := 11) (j := 30) (t := 1131) dX11_actOf_220 fl_X11_62 (i1100 hI) rfl rfl rfl ?_
                      refine J_iload dX11_actOf_223 10 rfl ?_
                      refine J_iale (x := v 1131 s) dX11_actOf_225 (i1131 hI) rfl (ix_in (j := s) rfl (by omega) (by omega)) ((congrArg _ (ix_cl (j := s) rfl (by omega))).trans rfl) ?_
                      refine J_isub dX11_actOf_226 ?_
                      refine J_goto (tgt := 237) dX11_actOf_227 (by decide) ?_
                      exact J_iret dX11_actOf_237 rfl ⟨_, rfl, rfl, rfl, by rw [acF_p (by clear ih; unfold acP; simp [c2, c29, c33, c35, c37, c39, c42, c49]), if_pos c54]⟩
def acZ (v : fr_V) (a b h : Int32) : Int32 := if b = (-1) then a else if f_X11_ageIn v b h < f_X11_ageIn v a h then b else a
theorem k_X11_actOf {l : Launch} {I : List Nat} (hI : fr_I I) (v : fr_V) (u : fr_U) (x1 x2 x3 x4 x5 : Int32) (M : Nat) (hM0 : v 1100 38 = nI M) (hM : M ≤ 24) (h1 : vp_in x2 12) (h2 : ¬ x3 = (-1) → vp_in x3 12) : Con l mX11_actOf I v u [.ref 1100, .int x1, .int x2, .int x3, .int x4, .int x5] (QI v u (fun a => a = acF v x1 x3 x4 x5 (acZ v x2 x3 x4) (f_X11_ageIn v (acZ v x2 x3 x4) x4) M)) := by
  refine Con.of (by decide) (Nat.le_of_ble_eq_true rfl) ?_
  show J l mX11_actOf I v u 0 [(0, .ref 1100), (1, .int x1), (2, .int x2), (3, .int x3), (4, .int x4), (5, .int x5)] [] _
  refine J_iload_n dX11_actOf_0 rfl 3 rfl ?_
  refine J_iconst (x := (-1)) dX11_actOf_1 (by decide) ?_
  refine J_icmp_eq (tgt := 22) dX11_actOf_2 (by decide) (fun c1 => ?_) (fun c1 => ?_)
  · refine J_iload_n dX11_actOf_22 rfl 2 rfl ?_
    refine J_goto (tgt := 27) dX11_actOf_23 (by decide) ?_
    refine J_istore (lv' := [(6, .int x2), (0, .ref 1100), (1, .int x1), (2, .int x2), (3, .int x3), (4, .int x4), (5, .int x5)]) dX11_actOf_27 (by decide) rfl ?_
    refine J_aload_n dX11_actOf_29 rfl 1 rfl ?_
    refine J_iload dX11_actOf_30 0 rfl ?_
    refine J_iload dX11_actOf_32 5 rfl ?_
    refine J_eVI (z := mX11_ageIn) (As := [.int x2, .int x4]) (rest := []) (ci := 11) (x := f_X11_ageIn v  x2 x4) dX11_actOf_34 ml_X11_214 ok_X11_ageIn iv_X11_ageIn (by decide) (i1100 hI) rfl rfl rfl rfl (Nat.le_of_ble_eq_true rfl) (k_X11_ageIn hI v u _ _ (by first | assumption | exact h2 (by assumption))) ?_
    refine J_istore (lv' := [(7, .int (f_X11_ageIn v  x2 x4)), (6, .int x2), (0, .ref 1100), (1, .int x1), (2, .int x2), (3, .int x3), (4, .int x4), (5, .int x5)]) dX11_actOf_37 (by decide) rfl ?_
    refine J_aload_n dX11_actOf_39 rfl 2 rfl ?_
    refine J_gete (ci := 11) (j := 38) (x := v 1100 38) dX11_actOf_40 fl_X11_170 (i1100 hI) rfl rfl rfl ?_
    refine J_iconst (x := 1) dX11_actOf_43 (by decide) ?_
    refine J_isub dX11_actOf_44 ?_
    refine J_istore (lv' := [(8, .int ((v 1100 38) - 1)), (7, .int (f_X11_ageIn v  x2 x4)), (6, .int x2), (0, .ref 1100), (1, .int x1), (2, .int x2), (3, .int x3), (4, .int x4), (5, .int x5)]) dX11_actOf_45 (by decide) rfl ?_
    refine J_lv [3, 4, 5, 6, 7, 8, 2, 1, 0] rfl ?_
    rw [hM0]
    have e : acZ v x2 x3 x4 = x2 := by unfold acZ; rw [if_pos c1]
    rw [e]
    exact ac_L hI v u x1 x2 x3 x4 x5 x2 _ M hM (by assumption) M (Nat.le_refl _)
  · refine J_aload_n dX11_actOf_5 rfl 0 rfl ?_
    refine J_iload_n dX11_actOf_6 rfl 2 rfl ?_
    refine J_iload dX11_actOf_7 4 rfl ?_
    refine J_eVI (z := mX11_ageIn) (As := [.int x2, .int x4]) (rest := []) (ci := 11) (x := f_X11_ageIn v  x2 x4) dX11_actOf_9 ml_X11_214 ok_X11_ageIn iv_X11_ageIn (by decide) (i1100 hI) rfl rfl rfl rfl (Nat.le_of_ble_eq_true rfl) (k_X11_ageIn hI v u _ _ (by first | assumption | exact h2 (by assumption))) ?_
    refine J_aload_n dX11_actOf_12 rfl 0 rfl ?_
    refine J_iload_n dX11_actOf_13 rfl 3 rfl ?_
    refine J_iload dX11_actOf_14 4 rfl ?_
    refine J_eVI (z := mX11_ageIn) (As := [.int x3, .int x4]) (rest := [.int (f_X11_ageIn v  x2 x4)]) (ci := 11) (x := f_X11_ageIn v  x3 x4) dX11_actOf_16 ml_X11_214 ok_X11_ageIn iv_X11_ageIn (by decide) (i1100 hI) rfl rfl rfl rfl (Nat.le_of_ble_eq_true rfl) (k_X11_ageIn hI v u _ _ (by first | assumption | exact h2 (by assumption))) ?_
    refine J_icmp_gt (tgt := 26) dX11_actOf_19 (by decide) (fun c2 => ?_) (fun c2 => ?_)
    · have h3 : vp_in x3 12 := h2 (by assumption)
      refine J_iload_n dX11_actOf_26 rfl 3 rfl ?_
      refine J_istore (lv' := [(6, .int x3), (0, .ref 1100), (1, .int x1), (2, .int x2), (3, .int x3), (4, .int x4), (5, .int x5)]) dX11_actOf_27 (by decide) rfl ?_
      refine J_aload_n dX11_actOf_29 rfl 1 rfl ?_
      refine J_iload dX11_actOf_30 0 rfl ?_
      refine J_iload dX11_actOf_32 5 rfl ?_
      refine J_eVI (z := mX11_ageIn) (As := [.int x3, .int x4]) (rest := []) (ci := 11) (x := f_X11_ageIn v  x3 x4) dX11_actOf_34 ml_X11_214 ok_X11_ageIn iv_X11_ageIn (by decide) (i1100 hI) rfl rfl rfl rfl (Nat.le_of_ble_eq_true rfl) (k_X11_ageIn hI v u _ _ (by first | assumption | exact h2 (by assumption))) ?_
      refine J_istore (lv' := [(7, .int (f_X11_ageIn v  x3 x4)), (6, .int x3), (0, .ref 1100), (1, .int x1), (2, .int x2), (3, .int x3), (4, .int x4), (5, .int x5)]) dX11_actOf_37 (by decide) rfl ?_
      refine J_aload_n dX11_actOf_39 rfl 2 rfl ?_
      refine J_gete (ci := 11) (j := 38) (x := v 1100 38) dX11_actOf_40 fl_X11_170 (i1100 hI) rfl rfl rfl ?_
      refine J_iconst (x := 1) dX11_actOf_43 (by decide) ?_
      refine J_isub dX11_actOf_44 ?_
      refine J_istore (lv' := [(8, .int ((v 1100 38) - 1)), (7, .int (f_X11_ageIn v  x3 x4)), (6, .int x3), (0, .ref 1100), (1, .int x1), (2, .int x2), (3, .int x3), (4, .int x4), (5, .int x5)]) dX11_actOf_45 (by decide) rfl ?_
      refine J_lv [3, 4, 5, 6, 7, 8, 2, 1, 0] rfl ?_
      rw [hM0]
      have e : acZ v x2 x3 x4 = x3 := by unfold acZ; rw [if_neg c1, if_pos c2]
      rw [e]
      exact ac_L hI v u x1 x2 x3 x4 x5 x3 _ M hM (by assumption) M (Nat.le_refl _)
    · refine J_iload_n dX11_actOf_22 rfl 2 rfl ?_
      refine J_goto (tgt := 27) dX11_actOf_23 (by decide) ?_
      refine J_istore (lv' := [(6, .int x2), (0, .ref 1100), (1, .int x1), (2, .int x2), (3, .int x3), (4, .int x4), (5, .int x5)]) dX11_actOf_27 (by decide) rfl ?_
      refine J_aload_n dX11_actOf_29 rfl 1 rfl ?_
      refine J_iload dX11_actOf_30 0 rfl ?_
      refine J_iload dX11_actOf_32 5 rfl ?_
      refine J_eVI (z := mX11_ageIn) (As := [.int x2, .int x4]) (rest := []) (ci := 11) (x := f_X11_ageIn v  x2 x4) dX11_actOf_34 ml_X11_214 ok_X11_ageIn iv_X11_ageIn (by decide) (i1100 hI) rfl rfl rfl rfl (Nat.le_of_ble_eq_true rfl) (k_X11_ageIn hI v u _ _ (by first | assumption | exact h2 (by assumption))) ?_
      refine J_istore (lv' := [(7, .int (f_X11_ageIn v  x2 x4)), (6, .int x2), (0, .ref 1100), (1, .int x1), (2, .int x2), (3, .int x3), (4, .int x4), (5, .int x5)]) dX11_actOf_37 (by decide) rfl ?_
      refine J_aload_n dX11_actOf_39 rfl 2 rfl ?_
      refine J_gete (ci := 11) (j := 38) (x := v 1100 38) dX11_actOf_40 fl_X11_170 (i1100 hI) rfl rfl rfl ?_
      refine J_iconst (x := 1) dX11_actOf_43 (by decide) ?_
      refine J_isub dX11_actOf_44 ?_
      refine J_istore (lv' := [(8, .int ((v 1100 38) - 1)), (7, .int (f_X11_ageIn v  x2 x4)), (6, .int x2), (0, .ref 1100), (1, .int x1), (2, .int x2), (3, .int x3), (4, .int x4), (5, .int x5)]) dX11_actOf_45 (by decide) rfl ?_
      refine J_lv [3, 4, 5, 6, 7, 8, 2, 1, 0] rfl ?_
      rw [hM0]
      have e : acZ v x2 x3 x4 = x2 := by unfold acZ; rw [if_neg c1, if_neg c2]
      rw [e]
      exact ac_L hI v u x1 x2 x3 x4 x5 x2 _ M hM (by assumption) M (Nat.le_refl _)
end
section
noncomputable def f_act (v : fr_V) (M : Nat) (w a b h e : Int32) : Int32 := acF v w b h e (acZ v a b h) (f_X11_ageIn v (acZ v a b h) h) M
def f_parts (v : fr_V) (N : Nat) (r h half : Int32) : Int32 := sp_parts (v 1116) N (v 1109 r.toNatClampNeg) (v 1110 r.toNatClampNeg) r h half
theorem ne_lt {n m : Nat} (h : n ≤ m) (c : ¬ nI n = nI m) : n < m := Nat.lt_of_le_of_ne h (fun e => c (by rw [e]))
noncomputable def f_X11_mayBe (v : fr_V) (M : Nat) (x1 x2 : Int32) : Int32 := if (f_act v M 0 x1 x2 (v 1100 3) 1) = 1 then 1 else 0
theorem k_X11_mayBe {l : Launch} {I : List Nat} (hI : fr_I I) (v : fr_V) (u : fr_U) (M : Nat) (x1 x2 : Int32) (hM0 : v 1100 38 = nI M) (hM : M ≤ 24) (h1 : vp_in x1 12) (h2 : ¬ x2 = (-1) → vp_in x2 12) : Con l mX11_mayBe I v u [.ref 1100, .int x1, .int x2] (QI v u (fun a => a = f_X11_mayBe v M x1 x2)) := by
  refine Con.of (by decide) (Nat.le_of_ble_eq_true rfl) ?_
  show J l mX11_mayBe I v u 0 [(0, .ref 1100), (1, .int x1), (2, .int x2)] [] _
  refine J_aload_n dX11_mayBe_0 rfl 0 rfl ?_
  refine J_iconst (x := 0) dX11_mayBe_1 (by decide) ?_
  refine J_iload_n dX11_mayBe_2 rfl 1 rfl ?_
  refine J_iload_n dX11_mayBe_3 rfl 2 rfl ?_
  refine J_aload_n dX11_mayBe_4 rfl 0 rfl ?_
  refine J_gete (ci := 11) (j := 3) (x := v 1100 3) dX11_mayBe_5 fl_X11_208 (i1100 hI) rfl rfl rfl ?_
  refine J_iconst (x := 1) dX11_mayBe_8 (by decide) ?_
  refine J_eVI (z := mX11_actOf) (As := [.int 0, .int x1, .int x2, .int (v 1100 3), .int 1]) (rest := []) (ci := 11) (x := f_act v M 0 x1 x2 (v 1100 3) 1) dX11_mayBe_9 ml_X11_217 ok_X11_actOf iv_X11_actOf (by decide) (i1100 hI) rfl rfl rfl rfl (Nat.le_of_ble_eq_true rfl) (k_X11_actOf hI v u _ _ _ _ _ M hM0 hM (by first | assumption | exact lf_in hL hL2 (by assumption) | exact rt_in hR hR2 (by assumption) | exact nt_in hN hW.1 (by assumption) | exact (fun h => absurd rfl h) | exact (fun _ => lf_in hL hL2 (by assumption)) | exact (fun h => absurd (by assumption) h)) (by first | assumption | exact lf_in hL hL2 (by assumption) | exact rt_in hR hR2 (by assumption) | exact nt_in hN hW.1 (by assumption) | exact (fun h => absurd rfl h) | exact (fun _ => lf_in hL hL2 (by assumption)) | exact (fun h => absurd (by assumption) h))) ?_
  refine J_iconst (x := 1) dX11_mayBe_12 (by decide) ?_
  refine J_icmp_ne (tgt := 20) dX11_mayBe_13 (by decide) (fun c1 => ?_) (fun c1 => ?_)
  · refine J_iconst (x := 0) dX11_mayBe_20 (by decide) ?_
    exact J_zret dX11_mayBe_21 rfl (by decide) ⟨_, rfl, rfl, rfl, by unfold f_X11_mayBe; rw [if_neg c1]⟩
  · refine J_iconst (x := 1) dX11_mayBe_16 (by decide) ?_
    refine J_goto (tgt := 21) dX11_mayBe_17 (by decide) ?_
    exact J_zret dX11_mayBe_21 rfl (by decide) ⟨_, rfl, rfl, rfl, by unfold f_X11_mayBe; rw [if_pos c1]⟩
noncomputable def f_X11_priceOf (v : fr_V) (M : Nat) (x1 x2 : Int32) : Int32 := f_act v M 2 x1 x2 (v 1100 3) 10
theorem k_X11_priceOf {l : Launch} {I : List Nat} (hI : fr_I I) (v : fr_V) (u : fr_U) (M : Nat) (x1 x2 : Int32) (hM0 : v 1100 38 = nI M) (hM : M ≤ 24) (h1 : vp_in x1 12) (h2 : ¬ x2 = (-1) → vp_in x2 12) : Con l mX11_priceOf I v u [.ref 1100, .int x1, .int x2] (QI v u (fun a => a = f_X11_priceOf v M x1 x2)) := by
  refine Con.of (by decide) (Nat.le_of_ble_eq_true rfl) ?_
  show J l mX11_priceOf I v u 0 [(0, .ref 1100), (1, .int x1), (2, .int x2)] [] _
  refine J_aload_n dX11_priceOf_0 rfl 0 rfl ?_
  refine J_iconst (x := 2) dX11_priceOf_1 (by decide) ?_
  refine J_iload_n dX11_priceOf_2 rfl 1 rfl ?_
  refine J_iload_n dX11_priceOf_3 rfl 2 rfl ?_
  refine J_aload_n dX11_priceOf_4 rfl 0 rfl ?_
  refine J_gete (ci := 11) (j := 3) (x := v 1100 3) dX11_priceOf_5 fl_X11_208 (i1100 hI) rfl rfl rfl ?_
  refine J_bipush (x := 10) dX11_priceOf_8 (by decide) ?_
  refine J_eVI (z := mX11_actOf) (As := [.int 2, .int x1, .int x2, .int (v 1100 3), .int 10]) (rest := []) (ci := 11) (x := f_act v M 2 x1 x2 (v 1100 3) 10) dX11_priceOf_10 ml_X11_217 ok_X11_actOf iv_X11_actOf (by decide) (i1100 hI) rfl rfl rfl rfl (Nat.le_of_ble_eq_true rfl) (k_X11_actOf hI v u _ _ _ _ _ M hM0 hM (by first | assumption | exact lf_in hL hL2 (by assumption) | exact rt_in hR hR2 (by assumption) | exact nt_in hN hW.1 (by assumption) | exact (fun h => absurd rfl h) | exact (fun _ => lf_in hL hL2 (by assumption)) | exact (fun h => absurd (by assumption) h)) (by first | assumption | exact lf_in hL hL2 (by assumption) | exact rt_in hR hR2 (by assumption) | exact nt_in hN hW.1 (by assumption) | exact (fun h => absurd rfl h) | exact (fun _ => lf_in hL hL2 (by assumption)) | exact (fun h => absurd (by assumption) h))) ?_
  exact J_iret dX11_priceOf_13 rfl ⟨_, rfl, rfl, rfl, rfl⟩
noncomputable def f_X11_lumpOf (v : fr_V) (M : Nat) (x1 x2 : Int32) : Int32 := f_act v M 3 x1 x2 (v 1100 3) 0
theorem k_X11_lumpOf {l : Launch} {I : List Nat} (hI : fr_I I) (v : fr_V) (u : fr_U) (M : Nat) (x1 x2 : Int32) (hM0 : v 1100 38 = nI M) (hM : M ≤ 24) (h1 : vp_in x1 12) (h2 : ¬ x2 = (-1) → vp_in x2 12) : Con l mX11_lumpOf I v u [.ref 1100, .int x1, .int x2] (QI v u (fun a => a = f_X11_lumpOf v M x1 x2)) := by
  refine Con.of (by decide) (Nat.le_of_ble_eq_true rfl) ?_
  show J l mX11_lumpOf I v u 0 [(0, .ref 1100), (1, .int x1), (2, .int x2)] [] _
  refine J_aload_n dX11_lumpOf_0 rfl 0 rfl ?_
  refine J_iconst (x := 3) dX11_lumpOf_1 (by decide) ?_
  refine J_iload_n dX11_lumpOf_2 rfl 1 rfl ?_
  refine J_iload_n dX11_lumpOf_3 rfl 2 rfl ?_
  refine J_aload_n dX11_lumpOf_4 rfl 0 rfl ?_
  refine J_gete (ci := 11) (j := 3) (x := v 1100 3) dX11_lumpOf_5 fl_X11_208 (i1100 hI) rfl rfl rfl ?_
  refine J_iconst (x := 0) dX11_lumpOf_8 (by decide) ?_
  refine J_eVI (z := mX11_actOf) (As := [.int 3, .int x1, .int x2, .int (v 1100 3), .int 0]) (rest := []) (ci := 11) (x := f_act v M 3 x1 x2 (v 1100 3) 0) dX11_lumpOf_9 ml_X11_217 ok_X11_actOf iv_X11_actOf (by decide) (i1100 hI) rfl rfl rfl rfl (Nat.le_of_ble_eq_true rfl) (k_X11_actOf hI v u _ _ _ _ _ M hM0 hM (by first | assumption | exact lf_in hL hL2 (by assumption) | exact rt_in hR hR2 (by assumption) | exact nt_in hN hW.1 (by assumption) | exact (fun h => absurd rfl h) | exact (fun _ => lf_in hL hL2 (by assumption)) | exact (fun h => absurd (by assumption) h)) (by first | assumption | exact lf_in hL hL2 (by assumption) | exact rt_in hR hR2 (by assumption) | exact nt_in hN hW.1 (by assumption) | exact (fun h => absurd rfl h) | exact (fun _ => lf_in hL hL2 (by assumption)) | exact (fun h => absurd (by assumption) h))) ?_
  exact J_iret dX11_lumpOf_12 rfl ⟨_, rfl, rfl, rfl, rfl⟩
noncomputable def f_X11_asks (v : fr_V) (M : Nat) (x1 x2 : Int32) : Int32 × fr_V := if (f_X11_isLife (up2 v 1100 2 0)  x1) = 0 then ((-1), up2 v 1100 2 0) else if (f_X11_isIn (up2 v 1100 2 0)  x2 0 2) = 0 then ((-1), up2 v 1100 2 0) else if x2 = 0 then (if (f_X11_mayBe (up2 v 1100 2 0) M x1 (-1)) = 0 then (0, up2 v 1100 2 0) else (1, up2 v 1100 2 0)) else if x2 = 1 then (f_X11_priceOf (up2 v 1100 2 0) M x1 (-1), up2 v 1100 2 0) else (f_X11_lumpOf (up2 v 1100 2 0) M x1 (-1), up2 v 1100 2 0)
theorem k_X11_asks {l : Launch} {I : List Nat} (hI : fr_I I) (v : fr_V) (u : fr_U) (M : Nat) (x1 x2 : Int32) (hM0 : v 1100 38 = nI M) (hM : M ≤ 24) (n : Nat) (hL : v 1100 4 = nI n) (hL2 : n ≤ 12) : Con l mX11_asks I v u [.ref 1100, .int x1, .int x2] (QX u (fun a b => a = (f_X11_asks v M x1 x2).1 ∧ b = (f_X11_asks v M x1 x2).2)) := by
  refine Con.of (by decide) (Nat.le_of_ble_eq_true rfl) ?_
  show J l mX11_asks I v u 0 [(0, .ref 1100), (1, .int x1), (2, .int x2)] [] _
  refine J_aload_n dX11_asks_0 rfl 0 rfl ?_
  refine J_iconst (x := 0) dX11_asks_1 (by decide) ?_
  refine J_puti (ci := 11) (j := 2) dX11_asks_2 fl_X11_129 (i1100 hI) rfl rfl (fun q h => by cases h; rfl) rfl ?_
  refine J_aload_n dX11_asks_5 rfl 0 rfl ?_
  refine J_iload_n dX11_asks_6 rfl 1 rfl ?_
  refine J_eVI (z := mX11_isLife) (As := [.int x1]) (rest := []) (ci := 11) (x := f_X11_isLife (up2 v 1100 2 0)  x1) dX11_asks_7 ml_X11_221 ok_X11_isLife iv_X11_isLife (by decide) (i1100 hI) rfl rfl rfl rfl (Nat.le_of_ble_eq_true rfl) (k_X11_isLife hI (up2 v 1100 2 0) u _ ) ?_
  refine J_if_eq (tgt := 22) dX11_asks_10 (by decide) (fun c1 => ?_) (fun c1 => ?_)
  · refine J_iconst (x := (-1)) dX11_asks_22 (by decide) ?_
    exact J_iret dX11_asks_23 rfl ⟨_, rfl, rfl, by unfold f_X11_asks; rw [if_pos c1], by unfold f_X11_asks; rw [if_pos c1]⟩
  · refine J_iload_n dX11_asks_13 rfl 2 rfl ?_
    refine J_iconst (x := 0) dX11_asks_14 (by decide) ?_
    refine J_iconst (x := 2) dX11_asks_15 (by decide) ?_
    refine J_eSI (z := mX11_isIn) (As := [.int x2, .int 0, .int 2]) (rest := []) (x := f_X11_isIn (up2 v 1100 2 0)  x2 0 2) dX11_asks_16 ml_X11_204 ok_X11_isIn iv_X11_isIn (by decide) rfl rfl (Nat.le_of_ble_eq_true rfl) (k_X11_isIn hI (up2 v 1100 2 0) u _ _ _ ) ?_
    refine J_if_ne (tgt := 24) dX11_asks_19 (by decide) (fun c2 => ?_) (fun c2 => ?_)
    · refine J_iload_n dX11_asks_24 rfl 2 rfl ?_
      refine J_if_ne (tgt := 45) dX11_asks_25 (by decide) (fun c3 => ?_) (fun c3 => ?_)
      · refine J_iload_n dX11_asks_45 rfl 2 rfl ?_
        refine J_iconst (x := 1) dX11_asks_46 (by decide) ?_
        refine J_icmp_ne (tgt := 59) dX11_asks_47 (by decide) (fun c4 => ?_) (fun c4 => ?_)
        · refine J_aload_n dX11_asks_59 rfl 0 rfl ?_
          refine J_iload_n dX11_asks_60 rfl 1 rfl ?_
          refine J_iconst (x := (-1)) dX11_asks_61 (by decide) ?_
          refine J_eVI (z := mX11_lumpOf) (As := [.int x1, .int (-1)]) (rest := []) (ci := 11) (x := f_X11_lumpOf (up2 v 1100 2 0) M x1 (-1)) dX11_asks_62 ml_X11_230 ok_X11_lumpOf iv_X11_lumpOf (by decide) (i1100 hI) rfl rfl rfl rfl (Nat.le_of_ble_eq_true rfl) (k_X11_lumpOf hI (up2 v 1100 2 0) u M _ _ hM0 hM (by first | assumption | exact lf_in hL hL2 (by assumption) | exact rt_in hR hR2 (by assumption) | exact nt_in hN hW.1 (by assumption) | exact (fun h => absurd rfl h) | exact (fun _ => lf_in hL hL2 (by assumption)) | exact (fun h => absurd (by assumption) h)) (by first | assumption | exact lf_in hL hL2 (by assumption) | exact rt_in hR hR2 (by assumption) | exact nt_in hN hW.1 (by assumption) | exact (fun h => absurd rfl h) | exact (fun _ => lf_in hL hL2 (by assumption)) | exact (fun h => absurd (by assumption) h))) ?_
          exact J_iret dX11_asks_65 rfl ⟨_, rfl, rfl, by unfold f_X11_asks; rw [if_neg c1, if_neg c2, if_neg c3, if_neg c4], by unfold f_X11_asks; rw [if_neg c1, if_neg c2, if_neg c3, if_neg c4]⟩
        · refine J_aload_n dX11_asks_50 rfl 0 rfl ?_
          refine J_iload_n dX11_asks_51 rfl 1 rfl ?_
          refine J_iconst (x := (-1)) dX11_asks_52 (by decide) ?_
          refine J_eVI (z := mX11_priceOf) (As := [.int x1, .int (-1)]) (rest := []) (ci := 11) (x := f_X11_priceOf (up2 v 1100 2 0) M x1 (-1)) dX11_asks_53 ml_X11_227 ok_X11_priceOf iv_X11_priceOf (by decide) (i1100 hI) rfl rfl rfl rfl (Nat.le_of_ble_eq_true rfl) (k_X11_priceOf hI (up2 v 1100 2 0) u M _ _ hM0 hM (by first | assumption | exact lf_in hL hL2 (by assumption) | exact rt_in hR hR2 (by assumption) | exact nt_in hN hW.1 (by assumption) | exact (fun h => absurd rfl h) | exact (fun _ => lf_in hL hL2 (by assumption)) | exact (fun h => absurd (by assumption) h)) (by first | assumption | exact lf_in hL hL2 (by assumption) | exact rt_in hR hR2 (by assumption) | exact nt_in hN hW.1 (by assumption) | exact (fun h => absurd rfl h) | exact (fun _ => lf_in hL hL2 (by assumption)) | exact (fun h => absurd (by assumption) h))) ?_
          refine J_goto (tgt := 65) dX11_asks_56 (by decide) ?_
          exact J_iret dX11_asks_65 rfl ⟨_, rfl, rfl, by unfold f_X11_asks; rw [if_neg c1, if_neg c2, if_neg c3, if_pos c4], by unfold f_X11_asks; rw [if_neg c1, if_neg c2, if_neg c3, if_pos c4]⟩
      · refine J_aload_n dX11_asks_28 rfl 0 rfl ?_
        refine J_iload_n dX11_asks_29 rfl 1 rfl ?_
        refine J_iconst (x := (-1)) dX11_asks_30 (by decide) ?_
        refine J_eVI (z := mX11_mayBe) (As := [.int x1, .int (-1)]) (rest := []) (ci := 11) (x := f_X11_mayBe (up2 v 1100 2 0) M x1 (-1)) dX11_asks_31 ml_X11_224 ok_X11_mayBe iv_X11_mayBe (by decide) (i1100 hI) rfl rfl rfl rfl (Nat.le_of_ble_eq_true rfl) (k_X11_mayBe hI (up2 v 1100 2 0) u M _ _ hM0 hM (by first | assumption | exact lf_in hL hL2 (by assumption) | exact rt_in hR hR2 (by assumption) | exact nt_in hN hW.1 (by assumption) | exact (fun h => absurd rfl h) | exact (fun _ => lf_in hL hL2 (by assumption)) | exact (fun h => absurd (by assumption) h)) (by first | assumption | exact lf_in hL hL2 (by assumption) | exact rt_in hR hR2 (by assumption) | exact nt_in hN hW.1 (by assumption) | exact (fun h => absurd rfl h) | exact (fun _ => lf_in hL hL2 (by assumption)) | exact (fun h => absurd (by assumption) h))) ?_
        refine J_if_eq (tgt := 41) dX11_asks_34 (by decide) (fun c5 => ?_) (fun c5 => ?_)
        · refine J_iconst (x := 0) dX11_asks_41 (by decide) ?_
          refine J_goto (tgt := 65) dX11_asks_42 (by decide) ?_
          exact J_iret dX11_asks_65 rfl ⟨_, rfl, rfl, by unfold f_X11_asks; rw [if_neg c1, if_neg c2, if_pos c3, if_pos c5], by unfold f_X11_asks; rw [if_neg c1, if_neg c2, if_pos c3, if_pos c5]⟩
        · refine J_iconst (x := 1) dX11_asks_37 (by decide) ?_
          refine J_goto (tgt := 65) dX11_asks_38 (by decide) ?_
          exact J_iret dX11_asks_65 rfl ⟨_, rfl, rfl, by unfold f_X11_asks; rw [if_neg c1, if_neg c2, if_pos c3, if_neg c5], by unfold f_X11_asks; rw [if_neg c1, if_neg c2, if_pos c3, if_neg c5]⟩
    · refine J_iconst (x := (-1)) dX11_asks_22 (by decide) ?_
      exact J_iret dX11_asks_23 rfl ⟨_, rfl, rfl, by unfold f_X11_asks; rw [if_neg c1, if_pos c2], by unfold f_X11_asks; rw [if_neg c1, if_pos c2]⟩
def f_X11_parts (v : fr_V) (NS : Nat) (x1 x2 x3 : Int32) : Int32 × fr_V := if (f_X11_isRent (up2 v 1100 2 0)  x1) = 0 then ((-1), up2 v 1100 2 0) else if (f_X11_isHolder (up2 v 1100 2 0)  x2) = 0 then ((-1), up2 v 1100 2 0) else if (f_X11_isHalf (up2 v 1100 2 0)  x3) = 0 then ((-1), up2 v 1100 2 0) else (f_parts (up2 v 1100 2 0) NS x1 x2 x3, up2 v 1100 2 0)
theorem k_X11_parts {l : Launch} {I : List Nat} (hI : fr_I I) (v : fr_V) (u : fr_U) (NS : Nat) (x1 x2 x3 : Int32) (hS : v 1100 14 = nI NS) (hS2 : NS ≤ 40) (nr : Nat) (hR : v 1100 7 = nI nr) (hR2 : nr ≤ 16) : Con l mX11_parts I v u [.ref 1100, .int x1, .int x2, .int x3] (QX u (fun a b => a = (f_X11_parts v NS x1 x2 x3).1 ∧ b = (f_X11_parts v NS x1 x2 x3).2)) := by
  refine Con.of (by decide) (Nat.le_of_ble_eq_true rfl) ?_
  show J l mX11_parts I v u 0 [(0, .ref 1100), (1, .int x1), (2, .int x2), (3, .int x3)] [] _
  refine J_aload_n dX11_parts_0 rfl 0 rfl ?_
  refine J_iconst (x := 0) dX11_parts_1 (by decide) ?_
  refine J_puti (ci := 11) (j := 2) dX11_parts_2 fl_X11_129 (i1100 hI) rfl rfl (fun q h => by cases h; rfl) rfl ?_
  refine J_aload_n dX11_parts_5 rfl 0 rfl ?_
  refine J_iload_n dX11_parts_6 rfl 1 rfl ?_
  refine J_eVI (z := mX11_isRent) (As := [.int x1]) (rest := []) (ci := 11) (x := f_X11_isRent (up2 v 1100 2 0)  x1) dX11_parts_7 ml_X11_242 ok_X11_isRent iv_X11_isRent (by decide) (i1100 hI) rfl rfl rfl rfl (Nat.le_of_ble_eq_true rfl) (k_X11_isRent hI (up2 v 1100 2 0) u _ ) ?_
  refine J_if_eq (tgt := 37) dX11_parts_10 (by decide) (fun c1 => ?_) (fun c1 => ?_)
  · refine J_iconst (x := (-1)) dX11_parts_37 (by decide) ?_
    exact J_iret dX11_parts_38 rfl ⟨_, rfl, rfl, by unfold f_X11_parts; rw [if_pos c1], by unfold f_X11_parts; rw [if_pos c1]⟩
  · refine J_iload_n dX11_parts_13 rfl 2 rfl ?_
    refine J_eSI (z := mX11_isHolder) (As := [.int x2]) (rest := []) (x := f_X11_isHolder (up2 v 1100 2 0)  x2) dX11_parts_14 ml_X11_236 ok_X11_isHolder iv_X11_isHolder (by decide) rfl rfl (Nat.le_of_ble_eq_true rfl) (k_X11_isHolder hI (up2 v 1100 2 0) u _ ) ?_
    refine J_if_eq (tgt := 37) dX11_parts_17 (by decide) (fun c2 => ?_) (fun c2 => ?_)
    · refine J_iconst (x := (-1)) dX11_parts_37 (by decide) ?_
      exact J_iret dX11_parts_38 rfl ⟨_, rfl, rfl, by unfold f_X11_parts; rw [if_neg c1, if_pos c2], by unfold f_X11_parts; rw [if_neg c1, if_pos c2]⟩
    · refine J_iload_n dX11_parts_20 rfl 3 rfl ?_
      refine J_eSI (z := mX11_isHalf) (As := [.int x3]) (rest := []) (x := f_X11_isHalf (up2 v 1100 2 0)  x3) dX11_parts_21 ml_X11_249 ok_X11_isHalf iv_X11_isHalf (by decide) rfl rfl (Nat.le_of_ble_eq_true rfl) (k_X11_isHalf hI (up2 v 1100 2 0) u _ ) ?_
      refine J_if_eq (tgt := 37) dX11_parts_24 (by decide) (fun c3 => ?_) (fun c3 => ?_)
      · refine J_iconst (x := (-1)) dX11_parts_37 (by decide) ?_
        exact J_iret dX11_parts_38 rfl ⟨_, rfl, rfl, by unfold f_X11_parts; rw [if_neg c1, if_neg c2, if_pos c3], by unfold f_X11_parts; rw [if_neg c1, if_neg c2, if_pos c3]⟩
      · refine J_aload_n dX11_parts_27 rfl 0 rfl ?_
        refine J_iload_n dX11_parts_28 rfl 1 rfl ?_
        refine J_iload_n dX11_parts_29 rfl 2 rfl ?_
        refine J_iload_n dX11_parts_30 rfl 3 rfl ?_
        refine J_eVI (z := mX11_partsOf) (As := [.int x1, .int x2, .int x3]) (rest := []) (ci := 11) (x := f_parts (up2 v 1100 2 0) NS x1 x2 x3) dX11_parts_31 ml_X11_245 ok_X11_partsOf iv_X11_partsOf (by decide) (i1100 hI) rfl rfl rfl rfl (Nat.le_of_ble_eq_true rfl) (k_X11_partsOf hI (up2 v 1100 2 0) u _ _ _ NS hS hS2 (by first | assumption | exact lf_in hL hL2 (by assumption) | exact rt_in hR hR2 (by assumption) | exact nt_in hN hW.1 (by assumption) | exact (fun h => absurd rfl h) | exact (fun _ => lf_in hL hL2 (by assumption)) | exact (fun h => absurd (by assumption) h))) ?_
        refine J_goto (tgt := 38) dX11_parts_34 (by decide) ?_
        exact J_iret dX11_parts_38 rfl ⟨_, rfl, rfl, by unfold f_X11_parts; rw [if_neg c1, if_neg c2, if_neg c3], by unfold f_X11_parts; rw [if_neg c1, if_neg c2, if_neg c3]⟩
def f_X11_sell (v : fr_V) (NS : Nat) (x1 x2 x3 x4 : Int32) : Int32 × fr_V := if (f_X11_isRent (up2 v 1100 2 0)  x1) = 0 then (0, up2 v 1100 2 0) else if (f_X11_isHolder (up2 v 1100 2 0)  x2) = 0 then (0, up2 v 1100 2 0) else if (f_X11_isHolder (up2 v 1100 2 0)  x3) = 0 then (0, up2 v 1100 2 0) else if x2 = x3 then (0, up2 v 1100 2 0) else if x4 < 1 then (0, up2 v 1100 2 0) else if (f_parts (up2 v 1100 2 0) NS x1 x2 (v 1100 3)) < x4 then (0, up2 v 1100 2 0) else if (nI NS) = 40 then (0, up2 v 1100 2 0) else (1, up2 (up2 (up2 (up2 (up2 (up2 (up2 v 1100 2 0) 1116 (5 * NS) x1) 1116 ((5 * NS) + 1) x2) 1116 ((5 * NS) + 2) x3) 1116 ((5 * NS) + 3) x4) 1116 ((5 * NS) + 4) (v 1100 3)) 1100 14 ((nI NS) + 1))
theorem k_X11_sell {l : Launch} {I : List Nat} (hI : fr_I I) (v : fr_V) (u : fr_U) (NS : Nat) (x1 x2 x3 x4 : Int32) (hS : v 1100 14 = nI NS) (hS2 : NS ≤ 40) (nr : Nat) (hR : v 1100 7 = nI nr) (hR2 : nr ≤ 16) : Con l mX11_sell I v u [.ref 1100, .int x1, .int x2, .int x3, .int x4] (QX u (fun a b => a = (f_X11_sell v NS x1 x2 x3 x4).1 ∧ b = (f_X11_sell v NS x1 x2 x3 x4).2)) := by
  refine Con.of (by decide) (Nat.le_of_ble_eq_true rfl) ?_
  show J l mX11_sell I v u 0 [(0, .ref 1100), (1, .int x1), (2, .int x2), (3, .int x3), (4, .int x4)] [] _
  refine J_aload_n dX11_sell_0 rfl 0 rfl ?_
  refine J_iconst (x := 0) dX11_sell_1 (by decide) ?_
  refine J_puti (ci := 11) (j := 2) dX11_sell_2 fl_X11_129 (i1100 hI) rfl rfl (fun q h => by cases h; rfl) rfl ?_
  refine J_aload_n dX11_sell_5 rfl 0 rfl ?_
  refine J_iload_n dX11_sell_6 rfl 1 rfl ?_
  refine J_eVI (z := mX11_isRent) (As := [.int x1]) (rest := []) (ci := 11) (x := f_X11_isRent (up2 v 1100 2 0)  x1) dX11_sell_7 ml_X11_242 ok_X11_isRent iv_X11_isRent (by decide) (i1100 hI) rfl rfl rfl rfl (Nat.le_of_ble_eq_true rfl) (k_X11_isRent hI (up2 v 1100 2 0) u _ ) ?_
  refine J_if_eq (tgt := 62) dX11_sell_10 (by decide) (fun c1 => ?_) (fun c1 => ?_)
  · refine J_iconst (x := 0) dX11_sell_62 (by decide) ?_
    exact J_zret dX11_sell_63 rfl (by decide) ⟨_, rfl, rfl, by unfold f_X11_sell; rw [if_pos c1], by unfold f_X11_sell; rw [if_pos c1]⟩
  · refine J_iload_n dX11_sell_13 rfl 2 rfl ?_
    refine J_eSI (z := mX11_isHolder) (As := [.int x2]) (rest := []) (x := f_X11_isHolder (up2 v 1100 2 0)  x2) dX11_sell_14 ml_X11_236 ok_X11_isHolder iv_X11_isHolder (by decide) rfl rfl (Nat.le_of_ble_eq_true rfl) (k_X11_isHolder hI (up2 v 1100 2 0) u _ ) ?_
    refine J_if_eq (tgt := 62) dX11_sell_17 (by decide) (fun c2 => ?_) (fun c2 => ?_)
    · refine J_iconst (x := 0) dX11_sell_62 (by decide) ?_
      exact J_zret dX11_sell_63 rfl (by decide) ⟨_, rfl, rfl, by unfold f_X11_sell; rw [if_neg c1, if_pos c2], by unfold f_X11_sell; rw [if_neg c1, if_pos c2]⟩
    · refine J_iload_n dX11_sell_20 rfl 3 rfl ?_
      refine J_eSI (z := mX11_isHolder) (As := [.int x3]) (rest := []) (x := f_X11_isHolder (up2 v 1100 2 0)  x3) dX11_sell_21 ml_X11_236 ok_X11_isHolder iv_X11_isHolder (by decide) rfl rfl (Nat.le_of_ble_eq_true rfl) (k_X11_isHolder hI (up2 v 1100 2 0) u _ ) ?_
      refine J_if_eq (tgt := 62) dX11_sell_24 (by decide) (fun c3 => ?_) (fun c3 => ?_)
      · refine J_iconst (x := 0) dX11_sell_62 (by decide) ?_
        exact J_zret dX11_sell_63 rfl (by decide) ⟨_, rfl, rfl, by unfold f_X11_sell; rw [if_neg c1, if_neg c2, if_pos c3], by unfold f_X11_sell; rw [if_neg c1, if_neg c2, if_pos c3]⟩
      · refine J_iload_n dX11_sell_27 rfl 2 rfl ?_
        refine J_iload_n dX11_sell_28 rfl 3 rfl ?_
        refine J_icmp_eq (tgt := 62) dX11_sell_29 (by decide) (fun c4 => ?_) (fun c4 => ?_)
        · refine J_iconst (x := 0) dX11_sell_62 (by decide) ?_
          exact J_zret dX11_sell_63 rfl (by decide) ⟨_, rfl, rfl, by unfold f_X11_sell; rw [if_neg c1, if_neg c2, if_neg c3, if_pos c4], by unfold f_X11_sell; rw [if_neg c1, if_neg c2, if_neg c3, if_pos c4]⟩
        · refine J_iload dX11_sell_32 4 rfl ?_
          refine J_iconst (x := 1) dX11_sell_34 (by decide) ?_
          refine J_icmp_lt (tgt := 62) dX11_sell_35 (by decide) (fun c5 => ?_) (fun c5 => ?_)
          · refine J_iconst (x := 0) dX11_sell_62 (by decide) ?_
            exact J_zret dX11_sell_63 rfl (by decide) ⟨_, rfl, rfl, by unfold f_X11_sell; rw [if_neg c1, if_neg c2, if_neg c3, if_neg c4, if_pos c5], by unfold f_X11_sell; rw [if_neg c1, if_neg c2, if_neg c3, if_neg c4, if_pos c5]⟩
          · refine J_iload dX11_sell_38 4 rfl ?_
            refine J_aload_n dX11_sell_40 rfl 0 rfl ?_
            refine J_iload_n dX11_sell_41 rfl 1 rfl ?_
            refine J_iload_n dX11_sell_42 rfl 2 rfl ?_
            refine J_aload_n dX11_sell_43 rfl 0 rfl ?_
            refine J_gete (ci := 11) (j := 3) (x := v 1100 3) dX11_sell_44 fl_X11_208 (i1100 hI) rfl rfl rfl ?_
            refine J_eVI (z := mX11_partsOf) (As := [.int x1, .int x2, .int (v 1100 3)]) (rest := [.int x4]) (ci := 11) (x := f_parts (up2 v 1100 2 0) NS x1 x2 (v 1100 3)) dX11_sell_47 ml_X11_245 ok_X11_partsOf iv_X11_partsOf (by decide) (i1100 hI) rfl rfl rfl rfl (Nat.le_of_ble_eq_true rfl) (k_X11_partsOf hI (up2 v 1100 2 0) u _ _ _ NS hS hS2 (by first | assumption | exact lf_in hL hL2 (by assumption) | exact rt_in hR hR2 (by assumption) | exact nt_in hN hW.1 (by assumption) | exact (fun h => absurd rfl h) | exact (fun _ => lf_in hL hL2 (by assumption)) | exact (fun h => absurd (by assumption) h))) ?_
            refine J_icmp_gt (tgt := 62) dX11_sell_50 (by decide) (fun c6 => ?_) (fun c6 => ?_)
            · refine J_iconst (x := 0) dX11_sell_62 (by decide) ?_
              exact J_zret dX11_sell_63 rfl (by decide) ⟨_, rfl, rfl, by unfold f_X11_sell; rw [if_neg c1, if_neg c2, if_neg c3, if_neg c4, if_neg c5, if_pos c6], by unfold f_X11_sell; rw [if_neg c1, if_neg c2, if_neg c3, if_neg c4, if_neg c5, if_pos c6]⟩
            · refine J_aload_n dX11_sell_53 rfl 0 rfl ?_
              refine J_gete (ci := 11) (j := 14) (x := nI NS) dX11_sell_54 fl_X11_239 (i1100 hI) rfl rfl hS ?_
              refine J_bipush (x := 40) dX11_sell_57 (by decide) ?_
              refine J_icmp_ne (tgt := 64) dX11_sell_59 (by decide) (fun c7 => ?_) (fun c7 => ?_)
              · have hS3 : NS < 40 := ne_lt hS2 (by assumption)
                refine J_aload_n dX11_sell_64 rfl 0 rfl ?_
                refine J_getr (ci := 11) (j := 15) (t := 1116) dX11_sell_65 fl_X11_37 (i1100 hI) rfl rfl rfl ?_
                refine J_iconst (x := 5) dX11_sell_68 (by decide) ?_
                refine J_aload_n dX11_sell_69 rfl 0 rfl ?_
                refine J_gete (ci := 11) (j := 14) (x := nI NS) dX11_sell_70 fl_X11_239 (i1100 hI) rfl rfl hS ?_
                refine J_imul dX11_sell_73 ?_
                refine J_iload_n dX11_sell_74 rfl 1 rfl ?_
                refine J_iase (j := 5 * NS) dX11_sell_75 (i1116 hI) rfl (ix_in (j := 5 * NS) (by show (nI 5) * (nI NS) = _; simp only [nI_add, pk_mul]) (by omega) (by omega)) (ix_cl (j := 5 * NS) (by show (nI 5) * (nI NS) = _; simp only [nI_add, pk_mul]) (by omega)) ?_
                refine J_aload_n dX11_sell_76 rfl 0 rfl ?_
                refine J_getr (ci := 11) (j := 15) (t := 1116) dX11_sell_77 fl_X11_37 (i1100 hI) rfl rfl rfl ?_
                refine J_iconst (x := 5) dX11_sell_80 (by decide) ?_
                refine J_aload_n dX11_sell_81 rfl 0 rfl ?_
                refine J_gete (ci := 11) (j := 14) (x := nI NS) dX11_sell_82 fl_X11_239 (i1100 hI) rfl rfl hS ?_
                refine J_imul dX11_sell_85 ?_
                refine J_iconst (x := 1) dX11_sell_86 (by decide) ?_
                refine J_iadd dX11_sell_87 ?_
                refine J_iload_n dX11_sell_88 rfl 2 rfl ?_
                refine J_iase (j := (5 * NS) + 1) dX11_sell_89 (i1116 hI) rfl (ix_in (j := (5 * NS) + 1) (by show ((nI 5) * (nI NS)) + (nI 1) = _; simp only [nI_add, pk_mul]) (by omega) (by omega)) (ix_cl (j := (5 * NS) + 1) (by show ((nI 5) * (nI NS)) + (nI 1) = _; simp only [nI_add, pk_mul]) (by omega)) ?_
                refine J_aload_n dX11_sell_90 rfl 0 rfl ?_
                refine J_getr (ci := 11) (j := 15) (t := 1116) dX11_sell_91 fl_X11_37 (i1100 hI) rfl rfl rfl ?_
                refine J_iconst (x := 5) dX11_sell_94 (by decide) ?_
                refine J_aload_n dX11_sell_95 rfl 0 rfl ?_
                refine J_gete (ci := 11) (j := 14) (x := nI NS) dX11_sell_96 fl_X11_239 (i1100 hI) rfl rfl hS ?_
                refine J_imul dX11_sell_99 ?_
                refine J_iconst (x := 2) dX11_sell_100 (by decide) ?_
                refine J_iadd dX11_sell_101 ?_
                refine J_iload_n dX11_sell_102 rfl 3 rfl ?_
                refine J_iase (j := (5 * NS) + 2) dX11_sell_103 (i1116 hI) rfl (ix_in (j := (5 * NS) + 2) (by show ((nI 5) * (nI NS)) + (nI 2) = _; simp only [nI_add, pk_mul]) (by omega) (by omega)) (ix_cl (j := (5 * NS) + 2) (by show ((nI 5) * (nI NS)) + (nI 2) = _; simp only [nI_add, pk_mul]) (by omega)) ?_
                refine J_aload_n dX11_sell_104 rfl 0 rfl ?_
                refine J_getr (ci := 11) (j := 15) (t := 1116) dX11_sell_105 fl_X11_37 (i1100 hI) rfl rfl rfl ?_
                refine J_iconst (x := 5) dX11_sell_108 (by decide) ?_
                refine J_aload_n dX11_sell_109 rfl 0 rfl ?_
                refine J_gete (ci := 11) (j := 14) (x := nI NS) dX11_sell_110 fl_X11_239 (i1100 hI) rfl rfl hS ?_
                refine J_imul dX11_sell_113 ?_
                refine J_iconst (x := 3) dX11_sell_114 (by decide) ?_
                refine J_iadd dX11_sell_115 ?_
                refine J_iload dX11_sell_116 4 rfl ?_
                refine J_iase (j := (5 * NS) + 3) dX11_sell_118 (i1116 hI) rfl (ix_in (j := (5 * NS) + 3) (by show ((nI 5) * (nI NS)) + (nI 3) = _; simp only [nI_add, pk_mul]) (by omega) (by omega)) (ix_cl (j := (5 * NS) + 3) (by show ((nI 5) * (nI NS)) + (nI 3) = _; simp only [nI_add, pk_mul]) (by omega)) ?_
                refine J_aload_n dX11_sell_119 rfl 0 rfl ?_
                refine J_getr (ci := 11) (j := 15) (t := 1116) dX11_sell_120 fl_X11_37 (i1100 hI) rfl rfl rfl ?_
                refine J_iconst (x := 5) dX11_sell_123 (by decide) ?_
                refine J_aload_n dX11_sell_124 rfl 0 rfl ?_
                refine J_gete (ci := 11) (j := 14) (x := nI NS) dX11_sell_125 fl_X11_239 (i1100 hI) rfl rfl hS ?_
                refine J_imul dX11_sell_128 ?_
                refine J_iconst (x := 4) dX11_sell_129 (by decide) ?_
                refine J_iadd dX11_sell_130 ?_
                refine J_aload_n dX11_sell_131 rfl 0 rfl ?_
                refine J_gete (ci := 11) (j := 3) (x := v 1100 3) dX11_sell_132 fl_X11_208 (i1100 hI) rfl rfl rfl ?_
                refine J_iase (j := (5 * NS) + 4) dX11_sell_135 (i1116 hI) rfl (ix_in (j := (5 * NS) + 4) (by show ((nI 5) * (nI NS)) + (nI 4) = _; simp only [nI_add, pk_mul]) (by omega) (by omega)) (ix_cl (j := (5 * NS) + 4) (by show ((nI 5) * (nI NS)) + (nI 4) = _; simp only [nI_add, pk_mul]) (by omega)) ?_
                refine J_aload_n dX11_sell_136 rfl 0 rfl ?_
                refine J_dup dX11_sell_137 rfl ?_
                refine J_gete (ci := 11) (j := 14) (x := nI NS) dX11_sell_138 fl_X11_239 (i1100 hI) rfl rfl hS ?_
                refine J_iconst (x := 1) dX11_sell_141 (by decide) ?_
                refine J_iadd dX11_sell_142 ?_
                refine J_puti (ci := 11) (j := 14) dX11_sell_143 fl_X11_239 (i1100 hI) rfl rfl (fun q h => by cases h; rfl) rfl ?_
                refine J_iconst (x := 1) dX11_sell_146 (by decide) ?_
                exact J_zret dX11_sell_147 rfl (by decide) ⟨_, rfl, rfl, by unfold f_X11_sell; rw [if_neg c1, if_neg c2, if_neg c3, if_neg c4, if_neg c5, if_neg c6, if_neg c7], by unfold f_X11_sell; rw [if_neg c1, if_neg c2, if_neg c3, if_neg c4, if_neg c5, if_neg c6, if_neg c7]⟩
              · refine J_iconst (x := 0) dX11_sell_62 (by decide) ?_
                exact J_zret dX11_sell_63 rfl (by decide) ⟨_, rfl, rfl, by unfold f_X11_sell; rw [if_neg c1, if_neg c2, if_neg c3, if_neg c4, if_neg c5, if_neg c6, if_pos c7], by unfold f_X11_sell; rw [if_neg c1, if_neg c2, if_neg c3, if_neg c4, if_neg c5, if_neg c6, if_pos c7]⟩
noncomputable def f_X11_rent (v : fr_V) (NR : Nat) (M : Nat) (x1 x2 x3 x4 : Int32) : Int32 × fr_V := if (nI NR) = 16 then ((-1), up2 v 1100 2 0) else if (f_X11_isHolder (up2 v 1100 2 0)  x1) = 0 then ((-1), up2 v 1100 2 0) else if (f_X11_isLife (up2 v 1100 2 0)  x2) = 0 then ((-1), up2 v 1100 2 0) else if x3 = (-1) then (if (f_X11_isIn (up2 v 1100 2 0)  x4 1 99) = 0 then ((-1), up2 v 1100 2 0) else if (f_X11_mayBe (up2 v 1100 2 0) M x2 x3) = 0 then ((-1), up2 v 1100 2 0) else (((nI NR) + 1) - 1, up2 (up2 (up2 (up2 (up2 (up2 (up2 (up2 v 1100 2 0) 1109 NR (v 1100 3)) 1110 NR x1) 1111 NR x2) 1112 NR x3) 1113 NR x4) 1114 NR (x4 * (f_X11_priceOf (up2 (up2 (up2 (up2 (up2 (up2 v 1100 2 0) 1109 NR (v 1100 3)) 1110 NR x1) 1111 NR x2) 1112 NR x3) 1113 NR x4) M x2 x3))) 1100 7 ((nI NR) + 1))) else if (f_X11_isLife (up2 v 1100 2 0)  x3) = 0 then ((-1), up2 v 1100 2 0) else if x2 = x3 then ((-1), up2 v 1100 2 0) else if (f_X11_isIn (up2 v 1100 2 0)  x4 1 99) = 0 then ((-1), up2 v 1100 2 0) else if (f_X11_mayBe (up2 v 1100 2 0) M x2 x3) = 0 then ((-1), up2 v 1100 2 0) else (((nI NR) + 1) - 1, up2 (up2 (up2 (up2 (up2 (up2 (up2 (up2 v 1100 2 0) 1109 NR (v 1100 3)) 1110 NR x1) 1111 NR x2) 1112 NR x3) 1113 NR x4) 1114 NR (x4 * (f_X11_priceOf (up2 (up2 (up2 (up2 (up2 (up2 v 1100 2 0) 1109 NR (v 1100 3)) 1110 NR x1) 1111 NR x2) 1112 NR x3) 1113 NR x4) M x2 x3))) 1100 7 ((nI NR) + 1))
theorem k_X11_rent {l : Launch} {I : List Nat} (hI : fr_I I) (v : fr_V) (u : fr_U) (NR : Nat) (M : Nat) (x1 x2 x3 x4 : Int32) (hR : v 1100 7 = nI NR) (hR2 : NR ≤ 16) (hM0 : v 1100 38 = nI M) (hM : M ≤ 24) (n : Nat) (hL : v 1100 4 = nI n) (hL2 : n ≤ 12) : Con l mX11_rent I v u [.ref 1100, .int x1, .int x2, .int x3, .int x4] (QX u (fun a b => a = (f_X11_rent v NR M x1 x2 x3 x4).1 ∧ b = (f_X11_rent v NR M x1 x2 x3 x4).2)) := by
  refine Con.of (by decide) (Nat.le_of_ble_eq_true rfl) ?_
  show J l mX11_rent I v u 0 [(0, .ref 1100), (1, .int x1), (2, .int x2), (3, .int x3), (4, .int x4)] [] _
  refine J_aload_n dX11_rent_0 rfl 0 rfl ?_
  refine J_iconst (x := 0) dX11_rent_1 (by decide) ?_
  refine J_puti (ci := 11) (j := 2) dX11_rent_2 fl_X11_129 (i1100 hI) rfl rfl (fun q h => by cases h; rfl) rfl ?_
  refine J_aload_n dX11_rent_5 rfl 0 rfl ?_
  refine J_gete (ci := 11) (j := 7) (x := nI NR) dX11_rent_6 fl_X11_233 (i1100 hI) rfl rfl hR ?_
  refine J_bipush (x := 16) dX11_rent_9 (by decide) ?_
  refine J_icmp_eq (tgt := 67) dX11_rent_11 (by decide) (fun c1 => ?_) (fun c1 => ?_)
  · refine J_iconst (x := (-1)) dX11_rent_67 (by decide) ?_
    exact J_iret dX11_rent_68 rfl ⟨_, rfl, rfl, by unfold f_X11_rent; rw [if_pos c1], by unfold f_X11_rent; rw [if_pos c1]⟩
  · refine J_iload_n dX11_rent_14 rfl 1 rfl ?_
    refine J_eSI (z := mX11_isHolder) (As := [.int x1]) (rest := []) (x := f_X11_isHolder (up2 v 1100 2 0)  x1) dX11_rent_15 ml_X11_236 ok_X11_isHolder iv_X11_isHolder (by decide) rfl rfl (Nat.le_of_ble_eq_true rfl) (k_X11_isHolder hI (up2 v 1100 2 0) u _ ) ?_
    refine J_if_eq (tgt := 67) dX11_rent_18 (by decide) (fun c2 => ?_) (fun c2 => ?_)
    · refine J_iconst (x := (-1)) dX11_rent_67 (by decide) ?_
      exact J_iret dX11_rent_68 rfl ⟨_, rfl, rfl, by unfold f_X11_rent; rw [if_neg c1, if_pos c2], by unfold f_X11_rent; rw [if_neg c1, if_pos c2]⟩
    · refine J_aload_n dX11_rent_21 rfl 0 rfl ?_
      refine J_iload_n dX11_rent_22 rfl 2 rfl ?_
      refine J_eVI (z := mX11_isLife) (As := [.int x2]) (rest := []) (ci := 11) (x := f_X11_isLife (up2 v 1100 2 0)  x2) dX11_rent_23 ml_X11_221 ok_X11_isLife iv_X11_isLife (by decide) (i1100 hI) rfl rfl rfl rfl (Nat.le_of_ble_eq_true rfl) (k_X11_isLife hI (up2 v 1100 2 0) u _ ) ?_
      refine J_if_eq (tgt := 67) dX11_rent_26 (by decide) (fun c3 => ?_) (fun c3 => ?_)
      · refine J_iconst (x := (-1)) dX11_rent_67 (by decide) ?_
        exact J_iret dX11_rent_68 rfl ⟨_, rfl, rfl, by unfold f_X11_rent; rw [if_neg c1, if_neg c2, if_pos c3], by unfold f_X11_rent; rw [if_neg c1, if_neg c2, if_pos c3]⟩
      · refine J_iload_n dX11_rent_29 rfl 3 rfl ?_
        refine J_iconst (x := (-1)) dX11_rent_30 (by decide) ?_
        refine J_icmp_eq (tgt := 47) dX11_rent_31 (by decide) (fun c4 => ?_) (fun c4 => ?_)
        · refine J_iload dX11_rent_47 4 rfl ?_
          refine J_iconst (x := 1) dX11_rent_49 (by decide) ?_
          refine J_bipush (x := 99) dX11_rent_50 (by decide) ?_
          refine J_eSI (z := mX11_isIn) (As := [.int x4, .int 1, .int 99]) (rest := []) (x := f_X11_isIn (up2 v 1100 2 0)  x4 1 99) dX11_rent_52 ml_X11_204 ok_X11_isIn iv_X11_isIn (by decide) rfl rfl (Nat.le_of_ble_eq_true rfl) (k_X11_isIn hI (up2 v 1100 2 0) u _ _ _ ) ?_
          refine J_if_eq (tgt := 67) dX11_rent_55 (by decide) (fun c5 => ?_) (fun c5 => ?_)
          · refine J_iconst (x := (-1)) dX11_rent_67 (by decide) ?_
            exact J_iret dX11_rent_68 rfl ⟨_, rfl, rfl, by unfold f_X11_rent; rw [if_neg c1, if_neg c2, if_neg c3, if_pos c4, if_pos c5], by unfold f_X11_rent; rw [if_neg c1, if_neg c2, if_neg c3, if_pos c4, if_pos c5]⟩
          · refine J_aload_n dX11_rent_58 rfl 0 rfl ?_
            refine J_iload_n dX11_rent_59 rfl 2 rfl ?_
            refine J_iload_n dX11_rent_60 rfl 3 rfl ?_
            refine J_eVI (z := mX11_mayBe) (As := [.int x2, .int x3]) (rest := []) (ci := 11) (x := f_X11_mayBe (up2 v 1100 2 0) M x2 x3) dX11_rent_61 ml_X11_224 ok_X11_mayBe iv_X11_mayBe (by decide) (i1100 hI) rfl rfl rfl rfl (Nat.le_of_ble_eq_true rfl) (k_X11_mayBe hI (up2 v 1100 2 0) u M _ _ hM0 hM (by first | assumption | exact lf_in hL hL2 (by assumption) | exact rt_in hR hR2 (by assumption) | exact nt_in hN hW.1 (by assumption) | exact (fun h => absurd rfl h) | exact (fun _ => lf_in hL hL2 (by assumption)) | exact (fun h => absurd (by assumption) h)) (by first | assumption | exact lf_in hL hL2 (by assumption) | exact rt_in hR hR2 (by assumption) | exact nt_in hN hW.1 (by assumption) | exact (fun h => absurd rfl h) | exact (fun _ => lf_in hL hL2 (by assumption)) | exact (fun h => absurd (by assumption) h))) ?_
            refine J_if_ne (tgt := 69) dX11_rent_64 (by decide) (fun c6 => ?_) (fun c6 => ?_)
            · have hR3 : NR < 16 := ne_lt hR2 (by assumption)
              refine J_aload_n dX11_rent_69 rfl 0 rfl ?_
              refine J_getr (ci := 11) (j := 8) (t := 1109) dX11_rent_70 fl_X11_19 (i1100 hI) rfl rfl rfl ?_
              refine J_aload_n dX11_rent_73 rfl 0 rfl ?_
              refine J_gete (ci := 11) (j := 7) (x := nI NR) dX11_rent_74 fl_X11_233 (i1100 hI) rfl rfl hR ?_
              refine J_aload_n dX11_rent_77 rfl 0 rfl ?_
              refine J_gete (ci := 11) (j := 3) (x := v 1100 3) dX11_rent_78 fl_X11_208 (i1100 hI) rfl rfl rfl ?_
              refine J_iase (j := NR) dX11_rent_81 (i1109 hI) rfl (ix_in (j := NR) rfl (by omega) (by omega)) (ix_cl (j := NR) rfl (by omega)) ?_
              refine J_aload_n dX11_rent_82 rfl 0 rfl ?_
              refine J_getr (ci := 11) (j := 9) (t := 1110) dX11_rent_83 fl_X11_22 (i1100 hI) rfl rfl rfl ?_
              refine J_aload_n dX11_rent_86 rfl 0 rfl ?_
              refine J_gete (ci := 11) (j := 7) (x := nI NR) dX11_rent_87 fl_X11_233 (i1100 hI) rfl rfl hR ?_
              refine J_iload_n dX11_rent_90 rfl 1 rfl ?_
              refine J_iase (j := NR) dX11_rent_91 (i1110 hI) rfl (ix_in (j := NR) rfl (by omega) (by omega)) (ix_cl (j := NR) rfl (by omega)) ?_
              refine J_aload_n dX11_rent_92 rfl 0 rfl ?_
              refine J_getr (ci := 11) (j := 10) (t := 1111) dX11_rent_93 fl_X11_25 (i1100 hI) rfl rfl rfl ?_
              refine J_aload_n dX11_rent_96 rfl 0 rfl ?_
              refine J_gete (ci := 11) (j := 7) (x := nI NR) dX11_rent_97 fl_X11_233 (i1100 hI) rfl rfl hR ?_
              refine J_iload_n dX11_rent_100 rfl 2 rfl ?_
              refine J_iase (j := NR) dX11_rent_101 (i1111 hI) rfl (ix_in (j := NR) rfl (by omega) (by omega)) (ix_cl (j := NR) rfl (by omega)) ?_
              refine J_aload_n dX11_rent_102 rfl 0 rfl ?_
              refine J_getr (ci := 11) (j := 11) (t := 1112) dX11_rent_103 fl_X11_28 (i1100 hI) rfl rfl rfl ?_
              refine J_aload_n dX11_rent_106 rfl 0 rfl ?_
              refine J_gete (ci := 11) (j := 7) (x := nI NR) dX11_rent_107 fl_X11_233 (i1100 hI) rfl rfl hR ?_
              refine J_iload_n dX11_rent_110 rfl 3 rfl ?_
              refine J_iase (j := NR) dX11_rent_111 (i1112 hI) rfl (ix_in (j := NR) rfl (by omega) (by omega)) (ix_cl (j := NR) rfl (by omega)) ?_
              refine J_aload_n dX11_rent_112 rfl 0 rfl ?_
              refine J_getr (ci := 11) (j := 12) (t := 1113) dX11_rent_113 fl_X11_31 (i1100 hI) rfl rfl rfl ?_
              refine J_aload_n dX11_rent_116 rfl 0 rfl ?_
              refine J_gete (ci := 11) (j := 7) (x := nI NR) dX11_rent_117 fl_X11_233 (i1100 hI) rfl rfl hR ?_
              refine J_iload dX11_rent_120 4 rfl ?_
              refine J_iase (j := NR) dX11_rent_122 (i1113 hI) rfl (ix_in (j := NR) rfl (by omega) (by omega)) (ix_cl (j := NR) rfl (by omega)) ?_
              refine J_aload_n dX11_rent_123 rfl 0 rfl ?_
              refine J_getr (ci := 11) (j := 13) (t := 1114) dX11_rent_124 fl_X11_34 (i1100 hI) rfl rfl rfl ?_
              refine J_aload_n dX11_rent_127 rfl 0 rfl ?_
              refine J_gete (ci := 11) (j := 7) (x := nI NR) dX11_rent_128 fl_X11_233 (i1100 hI) rfl rfl hR ?_
              refine J_iload dX11_rent_131 4 rfl ?_
              refine J_aload_n dX11_rent_133 rfl 0 rfl ?_
              refine J_iload_n dX11_rent_134 rfl 2 rfl ?_
              refine J_iload_n dX11_rent_135 rfl 3 rfl ?_
              refine J_eVI (z := mX11_priceOf) (As := [.int x2, .int x3]) (rest := [.int x4, .int (nI NR), .ref 1114]) (ci := 11) (x := f_X11_priceOf (up2 (up2 (up2 (up2 (up2 (up2 v 1100 2 0) 1109 NR (v 1100 3)) 1110 NR x1) 1111 NR x2) 1112 NR x3) 1113 NR x4) M x2 x3) dX11_rent_136 ml_X11_227 ok_X11_priceOf iv_X11_priceOf (by decide) (i1100 hI) rfl rfl rfl rfl (Nat.le_of_ble_eq_true rfl) (k_X11_priceOf hI (up2 (up2 (up2 (up2 (up2 (up2 v 1100 2 0) 1109 NR (v 1100 3)) 1110 NR x1) 1111 NR x2) 1112 NR x3) 1113 NR x4) u M _ _ hM0 hM (by first | assumption | exact lf_in hL hL2 (by assumption) | exact rt_in hR hR2 (by assumption) | exact nt_in hN hW.1 (by assumption) | exact (fun h => absurd rfl h) | exact (fun _ => lf_in hL hL2 (by assumption)) | exact (fun h => absurd (by assumption) h)) (by first | assumption | exact lf_in hL hL2 (by assumption) | exact rt_in hR hR2 (by assumption) | exact nt_in hN hW.1 (by assumption) | exact (fun h => absurd rfl h) | exact (fun _ => lf_in hL hL2 (by assumption)) | exact (fun h => absurd (by assumption) h))) ?_
              refine J_imul dX11_rent_139 ?_
              refine J_iase (j := NR) dX11_rent_140 (i1114 hI) rfl (ix_in (j := NR) rfl (by omega) (by omega)) (ix_cl (j := NR) rfl (by omega)) ?_
              refine J_aload_n dX11_rent_141 rfl 0 rfl ?_
              refine J_dup dX11_rent_142 rfl ?_
              refine J_gete (ci := 11) (j := 7) (x := nI NR) dX11_rent_143 fl_X11_233 (i1100 hI) rfl rfl hR ?_
              refine J_iconst (x := 1) dX11_rent_146 (by decide) ?_
              refine J_iadd dX11_rent_147 ?_
              refine J_puti (ci := 11) (j := 7) dX11_rent_148 fl_X11_233 (i1100 hI) rfl rfl (fun q h => by cases h; rfl) rfl ?_
              refine J_aload_n dX11_rent_151 rfl 0 rfl ?_
              refine J_gete (ci := 11) (j := 7) (x := (nI NR) + 1) dX11_rent_152 fl_X11_233 (i1100 hI) rfl rfl rfl ?_
              refine J_iconst (x := 1) dX11_rent_155 (by decide) ?_
              refine J_isub dX11_rent_156 ?_
              exact J_iret dX11_rent_157 rfl ⟨_, rfl, rfl, by unfold f_X11_rent; rw [if_neg c1, if_neg c2, if_neg c3, if_pos c4, if_neg c5, if_neg c6], by unfold f_X11_rent; rw [if_neg c1, if_neg c2, if_neg c3, if_pos c4, if_neg c5, if_neg c6]⟩
            · refine J_iconst (x := (-1)) dX11_rent_67 (by decide) ?_
              exact J_iret dX11_rent_68 rfl ⟨_, rfl, rfl, by unfold f_X11_rent; rw [if_neg c1, if_neg c2, if_neg c3, if_pos c4, if_neg c5, if_pos c6], by unfold f_X11_rent; rw [if_neg c1, if_neg c2, if_neg c3, if_pos c4, if_neg c5, if_pos c6]⟩
        · refine J_aload_n dX11_rent_34 rfl 0 rfl ?_
          refine J_iload_n dX11_rent_35 rfl 3 rfl ?_
          refine J_eVI (z := mX11_isLife) (As := [.int x3]) (rest := []) (ci := 11) (x := f_X11_isLife (up2 v 1100 2 0)  x3) dX11_rent_36 ml_X11_221 ok_X11_isLife iv_X11_isLife (by decide) (i1100 hI) rfl rfl rfl rfl (Nat.le_of_ble_eq_true rfl) (k_X11_isLife hI (up2 v 1100 2 0) u _ ) ?_
          refine J_if_eq (tgt := 67) dX11_rent_39 (by decide) (fun c7 => ?_) (fun c7 => ?_)
          · refine J_iconst (x := (-1)) dX11_rent_67 (by decide) ?_
            exact J_iret dX11_rent_68 rfl ⟨_, rfl, rfl, by unfold f_X11_rent; rw [if_neg c1, if_neg c2, if_neg c3, if_neg c4, if_pos c7], by unfold f_X11_rent; rw [if_neg c1, if_neg c2, if_neg c3, if_neg c4, if_pos c7]⟩
          · refine J_iload_n dX11_rent_42 rfl 2 rfl ?_
            refine J_iload_n dX11_rent_43 rfl 3 rfl ?_
            refine J_icmp_eq (tgt := 67) dX11_rent_44 (by decide) (fun c8 => ?_) (fun c8 => ?_)
            · refine J_iconst (x := (-1)) dX11_rent_67 (by decide) ?_
              exact J_iret dX11_rent_68 rfl ⟨_, rfl, rfl, by unfold f_X11_rent; rw [if_neg c1, if_neg c2, if_neg c3, if_neg c4, if_neg c7, if_pos c8], by unfold f_X11_rent; rw [if_neg c1, if_neg c2, if_neg c3, if_neg c4, if_neg c7, if_pos c8]⟩
            · refine J_iload dX11_rent_47 4 rfl ?_
              refine J_iconst (x := 1) dX11_rent_49 (by decide) ?_
              refine J_bipush (x := 99) dX11_rent_50 (by decide) ?_
              refine J_eSI (z := mX11_isIn) (As := [.int x4, .int 1, .int 99]) (rest := []) (x := f_X11_isIn (up2 v 1100 2 0)  x4 1 99) dX11_rent_52 ml_X11_204 ok_X11_isIn iv_X11_isIn (by decide) rfl rfl (Nat.le_of_ble_eq_true rfl) (k_X11_isIn hI (up2 v 1100 2 0) u _ _ _ ) ?_
              refine J_if_eq (tgt := 67) dX11_rent_55 (by decide) (fun c9 => ?_) (fun c9 => ?_)
              · refine J_iconst (x := (-1)) dX11_rent_67 (by decide) ?_
                exact J_iret dX11_rent_68 rfl ⟨_, rfl, rfl, by unfold f_X11_rent; rw [if_neg c1, if_neg c2, if_neg c3, if_neg c4, if_neg c7, if_neg c8, if_pos c9], by unfold f_X11_rent; rw [if_neg c1, if_neg c2, if_neg c3, if_neg c4, if_neg c7, if_neg c8, if_pos c9]⟩
              · refine J_aload_n dX11_rent_58 rfl 0 rfl ?_
                refine J_iload_n dX11_rent_59 rfl 2 rfl ?_
                refine J_iload_n dX11_rent_60 rfl 3 rfl ?_
                refine J_eVI (z := mX11_mayBe) (As := [.int x2, .int x3]) (rest := []) (ci := 11) (x := f_X11_mayBe (up2 v 1100 2 0) M x2 x3) dX11_rent_61 ml_X11_224 ok_X11_mayBe iv_X11_mayBe (by decide) (i1100 hI) rfl rfl rfl rfl (Nat.le_of_ble_eq_true rfl) (k_X11_mayBe hI (up2 v 1100 2 0) u M _ _ hM0 hM (by first | assumption | exact lf_in hL hL2 (by assumption) | exact rt_in hR hR2 (by assumption) | exact nt_in hN hW.1 (by assumption) | exact (fun h => absurd rfl h) | exact (fun _ => lf_in hL hL2 (by assumption)) | exact (fun h => absurd (by assumption) h)) (by first | assumption | exact lf_in hL hL2 (by assumption) | exact rt_in hR hR2 (by assumption) | exact nt_in hN hW.1 (by assumption) | exact (fun h => absurd rfl h) | exact (fun _ => lf_in hL hL2 (by assumption)) | exact (fun h => absurd (by assumption) h))) ?_
                refine J_if_ne (tgt := 69) dX11_rent_64 (by decide) (fun c10 => ?_) (fun c10 => ?_)
                · have hR3 : NR < 16 := ne_lt hR2 (by assumption)
                  refine J_aload_n dX11_rent_69 rfl 0 rfl ?_
                  refine J_getr (ci := 11) (j := 8) (t := 1109) dX11_rent_70 fl_X11_19 (i1100 hI) rfl rfl rfl ?_
                  refine J_aload_n dX11_rent_73 rfl 0 rfl ?_
                  refine J_gete (ci := 11) (j := 7) (x := nI NR) dX11_rent_74 fl_X11_233 (i1100 hI) rfl rfl hR ?_
                  refine J_aload_n dX11_rent_77 rfl 0 rfl ?_
                  refine J_gete (ci := 11) (j := 3) (x := v 1100 3) dX11_rent_78 fl_X11_208 (i1100 hI) rfl rfl rfl ?_
                  refine J_iase (j := NR) dX11_rent_81 (i1109 hI) rfl (ix_in (j := NR) rfl (by omega) (by omega)) (ix_cl (j := NR) rfl (by omega)) ?_
                  refine J_aload_n dX11_rent_82 rfl 0 rfl ?_
                  refine J_getr (ci := 11) (j := 9) (t := 1110) dX11_rent_83 fl_X11_22 (i1100 hI) rfl rfl rfl ?_
                  refine J_aload_n dX11_rent_86 rfl 0 rfl ?_
                  refine J_gete (ci := 11) (j := 7) (x := nI NR) dX11_rent_87 fl_X11_233 (i1100 hI) rfl rfl hR ?_
                  refine J_iload_n dX11_rent_90 rfl 1 rfl ?_
                  refine J_iase (j := NR) dX11_rent_91 (i1110 hI) rfl (ix_in (j := NR) rfl (by omega) (by omega)) (ix_cl (j := NR) rfl (by omega)) ?_
                  refine J_aload_n dX11_rent_92 rfl 0 rfl ?_
                  refine J_getr (ci := 11) (j := 10) (t := 1111) dX11_rent_93 fl_X11_25 (i1100 hI) rfl rfl rfl ?_
                  refine J_aload_n dX11_rent_96 rfl 0 rfl ?_
                  refine J_gete (ci := 11) (j := 7) (x := nI NR) dX11_rent_97 fl_X11_233 (i1100 hI) rfl rfl hR ?_
                  refine J_iload_n dX11_rent_100 rfl 2 rfl ?_
                  refine J_iase (j := NR) dX11_rent_101 (i1111 hI) rfl (ix_in (j := NR) rfl (by omega) (by omega)) (ix_cl (j := NR) rfl (by omega)) ?_
                  refine J_aload_n dX11_rent_102 rfl 0 rfl ?_
                  refine J_getr (ci := 11) (j := 11) (t := 1112) dX11_rent_103 fl_X11_28 (i1100 hI) rfl rfl rfl ?_
                  refine J_aload_n dX11_rent_106 rfl 0 rfl ?_
                  refine J_gete (ci := 11) (j := 7) (x := nI NR) dX11_rent_107 fl_X11_233 (i1100 hI) rfl rfl hR ?_
                  refine J_iload_n dX11_rent_110 rfl 3 rfl ?_
                  refine J_iase (j := NR) dX11_rent_111 (i1112 hI) rfl (ix_in (j := NR) rfl (by omega) (by omega)) (ix_cl (j := NR) rfl (by omega)) ?_
                  refine J_aload_n dX11_rent_112 rfl 0 rfl ?_
                  refine J_getr (ci := 11) (j := 12) (t := 1113) dX11_rent_113 fl_X11_31 (i1100 hI) rfl rfl rfl ?_
                  refine J_aload_n dX11_rent_116 rfl 0 rfl ?_
                  refine J_gete (ci := 11) (j := 7) (x := nI NR) dX11_rent_117 fl_X11_233 (i1100 hI) rfl rfl hR ?_
                  refine J_iload dX11_rent_120 4 rfl ?_
                  refine J_iase (j := NR) dX11_rent_122 (i1113 hI) rfl (ix_in (j := NR) rfl (by omega) (by omega)) (ix_cl (j := NR) rfl (by omega)) ?_
                  refine J_aload_n dX11_rent_123 rfl 0 rfl ?_
                  refine J_getr (ci := 11) (j := 13) (t := 1114) dX11_rent_124 fl_X11_34 (i1100 hI) rfl rfl rfl ?_
                  refine J_aload_n dX11_rent_127 rfl 0 rfl ?_
                  refine J_gete (ci := 11) (j := 7) (x := nI NR) dX11_rent_128 fl_X11_233 (i1100 hI) rfl rfl hR ?_
                  refine J_iload dX11_rent_131 4 rfl ?_
                  refine J_aload_n dX11_rent_133 rfl 0 rfl ?_
                  refine J_iload_n dX11_rent_134 rfl 2 rfl ?_
                  refine J_iload_n dX11_rent_135 rfl 3 rfl ?_
                  refine J_eVI (z := mX11_priceOf) (As := [.int x2, .int x3]) (rest := [.int x4, .int (nI NR), .ref 1114]) (ci := 11) (x := f_X11_priceOf (up2 (up2 (up2 (up2 (up2 (up2 v 1100 2 0) 1109 NR (v 1100 3)) 1110 NR x1) 1111 NR x2) 1112 NR x3) 1113 NR x4) M x2 x3) dX11_rent_136 ml_X11_227 ok_X11_priceOf iv_X11_priceOf (by decide) (i1100 hI) rfl rfl rfl rfl (Nat.le_of_ble_eq_true rfl) (k_X11_priceOf hI (up2 (up2 (up2 (up2 (up2 (up2 v 1100 2 0) 1109 NR (v 1100 3)) 1110 NR x1) 1111 NR x2) 1112 NR x3) 1113 NR x4) u M _ _ hM0 hM (by first | assumption | exact lf_in hL hL2 (by assumption) | exact rt_in hR hR2 (by assumption) | exact nt_in hN hW.1 (by assumption) | exact (fun h => absurd rfl h) | exact (fun _ => lf_in hL hL2 (by assumption)) | exact (fun h => absurd (by assumption) h)) (by first | assumption | exact lf_in hL hL2 (by assumption) | exact rt_in hR hR2 (by assumption) | exact nt_in hN hW.1 (by assumption) | exact (fun h => absurd rfl h) | exact (fun _ => lf_in hL hL2 (by assumption)) | exact (fun h => absurd (by assumption) h))) ?_
                  refine J_imul dX11_rent_139 ?_
                  refine J_iase (j := NR) dX11_rent_140 (i1114 hI) rfl (ix_in (j := NR) rfl (by omega) (by omega)) (ix_cl (j := NR) rfl (by omega)) ?_
                  refine J_aload_n dX11_rent_141 rfl 0 rfl ?_
                  refine J_dup dX11_rent_142 rfl ?_
                  refine J_gete (ci := 11) (j := 7) (x := nI NR) dX11_rent_143 fl_X11_233 (i1100 hI) rfl rfl hR ?_
                  refine J_iconst (x := 1) dX11_rent_146 (by decide) ?_
                  refine J_iadd dX11_rent_147 ?_
                  refine J_puti (ci := 11) (j := 7) dX11_rent_148 fl_X11_233 (i1100 hI) rfl rfl (fun q h => by cases h; rfl) rfl ?_
                  refine J_aload_n dX11_rent_151 rfl 0 rfl ?_
                  refine J_gete (ci := 11) (j := 7) (x := (nI NR) + 1) dX11_rent_152 fl_X11_233 (i1100 hI) rfl rfl rfl ?_
                  refine J_iconst (x := 1) dX11_rent_155 (by decide) ?_
                  refine J_isub dX11_rent_156 ?_
                  exact J_iret dX11_rent_157 rfl ⟨_, rfl, rfl, by unfold f_X11_rent; rw [if_neg c1, if_neg c2, if_neg c3, if_neg c4, if_neg c7, if_neg c8, if_neg c9, if_neg c10], by unfold f_X11_rent; rw [if_neg c1, if_neg c2, if_neg c3, if_neg c4, if_neg c7, if_neg c8, if_neg c9, if_neg c10]⟩
                · refine J_iconst (x := (-1)) dX11_rent_67 (by decide) ?_
                  exact J_iret dX11_rent_68 rfl ⟨_, rfl, rfl, by unfold f_X11_rent; rw [if_neg c1, if_neg c2, if_neg c3, if_neg c4, if_neg c7, if_neg c8, if_neg c9, if_pos c10], by unfold f_X11_rent; rw [if_neg c1, if_neg c2, if_neg c3, if_neg c4, if_neg c7, if_neg c8, if_neg c9, if_pos c10]⟩
theorem grp_in {v : fr_V} {x : Int32} {s : Nat} (hs : s < 2 ^ 31) (hx : x = nI s) : ∃ g, g ≤ 9 ∧ f_X11_groupOf v x = nI g := by
  subst hx
  unfold f_X11_groupOf
  by_cases h : nI s ≤ 99
  · rw [if_pos h]
    have h2 : s ≤ 99 := nz_le (b := 99) hs (by omega) h
    exact ⟨s / 10, by omega, pk_div (d := 10) hs (by omega) (by omega)⟩
  · rw [if_neg h]; exact ⟨9, by omega, rfl⟩
theorem lo_in {v : fr_V} {c g : Int32} {i : Nat} (hi : i ≤ 3) (hc : c = nI i) (hg : ∃ g0, g0 ≤ 9 ∧ g = nI g0) : vp_in (10 * c + g) 40 := by
  obtain ⟨j, hj, rfl⟩ := hg
  subst hc
  show vp_in (nI 10 * nI i + nI j) 40
  rw [pk_mul, nI_add]
  exact vp_in_nI (by omega) (by omega)
def sp_wo (Y : Int32 → Int32 → Int32) (live : Nat → Int32) (ag : Int32) : Nat → Int32 → Int32
  | 0, w => w
  | s + 1, w => if nI s < ag then w else sp_wo Y live ag s (Y w (live s))
theorem sp_wo_s (Y : Int32 → Int32 → Int32) (live : Nat → Int32) (ag : Int32) (s : Nat) (w : Int32) : sp_wo Y live ag (s + 1) w = if nI s < ag then w else sp_wo Y live ag s (Y w (live s)) := rfl
theorem lt0 {x : Int32} (h : ¬ x < 0) : nI 0 - 1 < x := by
  obtain ⟨j, hj, rfl⟩ := nI_of h
  rw [Int32.lt_iff_toInt_lt, nI_toInt hj]
  have : (nI 0 - 1).toInt = -1 := by decide
  omega
theorem wo_L {l : Launch} {I : List Nat} (hI : fr_I I) (v : fr_V) (u : fr_U) (x1 : Int32) (h1 : vp_in x1 12) (i : Nat) (hi : i ≤ 3) (hc : v 1107 x1.toNatClampNeg = nI i) (hr : ¬ v 1141 2 + 1 = 0) (ha : ¬ f_X11_ageIn v x1 (v 1100 3) < 0) : ∀ (t : Nat) (w : Int32) (ht : t ≤ 100), J l mX11_worthOf I v u 5 [(0, .ref 1100), (1, .int x1), (2, .int w), (3, .int (nI t - 1))] [] (QI v u (fun a => a = sp_wo (f_X11_yearBack v) (fun a => f_X11_liveOf v x1 (nI a)) (f_X11_ageIn v x1 (v 1100 3)) t w)) := by
  intro t
  induction t with
  | zero =>
    intro w ht
    refine J_iload_n dX11_worthOf_5 rfl 3 rfl ?_
    refine J_aload_n dX11_worthOf_6 rfl 0 rfl ?_
    refine J_iload_n dX11_worthOf_7 rfl 1 rfl ?_
    refine J_aload_n dX11_worthOf_8 rfl 0 rfl ?_
    refine J_gete (ci := 11) (j := 3) (x := v 1100 3) dX11_worthOf_9 fl_X11_208 (i1100 hI) rfl rfl rfl ?_
    refine J_eVI (z := mX11_ageIn) (As := [.int x1, .int (v 1100 3)]) (rest := [.int (nI 0 - 1)]) (ci := 11) (x := f_X11_ageIn v  x1 (v 1100 3)) dX11_worthOf_12 ml_X11_214 ok_X11_ageIn iv_X11_ageIn (by decide) (i1100 hI) rfl rfl rfl rfl (Nat.le_of_ble_eq_true rfl) (k_X11_ageIn hI v u _ _ h1) ?_
    refine J_icmp_lt (tgt := 36) dX11_worthOf_15 (by decide) (fun c1 => ?_) (fun c1 => absurd (lt0 ha) c1)
    refine J_iload_n dX11_worthOf_36 rfl 2 rfl ?_
    exact J_iret dX11_worthOf_37 rfl ⟨_, rfl, rfl, rfl, rfl⟩
  | succ s ih =>
    intro w ht
    rw [nI_pred]
    refine J_iload_n dX11_worthOf_5 rfl 3 rfl ?_
    refine J_aload_n dX11_worthOf_6 rfl 0 rfl ?_
    refine J_iload_n dX11_worthOf_7 rfl 1 rfl ?_
    refine J_aload_n dX11_worthOf_8 rfl 0 rfl ?_
    refine J_gete (ci := 11) (j := 3) (x := v 1100 3) dX11_worthOf_9 fl_X11_208 (i1100 hI) rfl rfl rfl ?_
    refine J_eVI (z := mX11_ageIn) (As := [.int x1, .int (v 1100 3)]) (rest := [.int (nI s)]) (ci := 11) (x := f_X11_ageIn v  x1 (v 1100 3)) dX11_worthOf_12 ml_X11_214 ok_X11_ageIn iv_X11_ageIn (by decide) (i1100 hI) rfl rfl rfl rfl (Nat.le_of_ble_eq_true rfl) (k_X11_ageIn hI v u _ _ h1) ?_
    refine J_icmp_lt (tgt := 36) dX11_worthOf_15 (by decide) (fun c1 => ?_) (fun c1 => ?_)
    · refine J_iload_n dX11_worthOf_36 rfl 2 rfl ?_
      exact J_iret dX11_worthOf_37 rfl ⟨_, rfl, rfl, rfl, by rw [sp_wo_s, if_pos c1]⟩
    · refine J_aload_n dX11_worthOf_18 rfl 0 rfl ?_
      refine J_iload_n dX11_worthOf_19 rfl 2 rfl ?_
      refine J_aload_n dX11_worthOf_20 rfl 0 rfl ?_
      refine J_iload_n dX11_worthOf_21 rfl 1 rfl ?_
      refine J_iload_n dX11_worthOf_22 rfl 3 rfl ?_
      refine J_eVI (z := mX11_liveOf) (As := [.int x1, .int (nI s)]) (rest := [.int w, .ref 1100]) (ci := 11) (x := f_X11_liveOf v  x1 (nI s)) dX11_worthOf_23 ml_X11_302 ok_X11_liveOf iv_X11_liveOf (by decide) (i1100 hI) rfl rfl rfl rfl (Nat.le_of_ble_eq_true rfl) (k_X11_liveOf hI v u _ _ h1 (lo_in (v := v) hi hc (grp_in (by omega) rfl))) ?_
      refine J_eVI (z := mX11_yearBack) (As := [.int w, .int (f_X11_liveOf v  x1 (nI s))]) (rest := []) (ci := 11) (x := f_X11_yearBack v  w (f_X11_liveOf v  x1 (nI s))) dX11_worthOf_26 ml_X11_305 ok_X11_yearBack iv_X11_yearBack (by decide) (i1100 hI) rfl rfl rfl rfl (Nat.le_of_ble_eq_true rfl) (k_X11_yearBack hI v u _ _ hr) ?_
      refine J_istore_n (lv' := [(2, .int (f_X11_yearBack v  w (f_X11_liveOf v  x1 (nI s)))), (0, .ref 1100), (1, .int x1), (3, .int (nI s))]) dX11_worthOf_29 rfl (by decide) rfl ?_
      refine J_iinc (q := 3) (z := nI s - 1) (lv' := [(3, .int (nI s - 1)), (2, .int (f_X11_yearBack v  w (f_X11_liveOf v  x1 (nI s)))), (0, .ref 1100), (1, .int x1)]) dX11_worthOf_30 rfl (dn_1 s) (by decide) rfl ?_
      refine J_goto (tgt := 5) dX11_worthOf_33 (by decide) ?_
      refine J_lv [2, 3, 1, 0] rfl ?_
      rw [sp_wo_s, if_neg c1]
      exact ih _ (by omega)
theorem k_X11_worthOf {l : Launch} {I : List Nat} (hI : fr_I I) (v : fr_V) (u : fr_U) (x1 : Int32) (h1 : vp_in x1 12) (i : Nat) (hi : i ≤ 3) (hc : v 1107 x1.toNatClampNeg = nI i) (hr : ¬ v 1141 2 + 1 = 0) (ha : ¬ f_X11_ageIn v x1 (v 1100 3) < 0) : Con l mX11_worthOf I v u [.ref 1100, .int x1] (QI v u (fun a => a = sp_wo (f_X11_yearBack v) (fun a => f_X11_liveOf v x1 (nI a)) (f_X11_ageIn v x1 (v 1100 3)) 100 0)) := by
  refine Con.of (by decide) (Nat.le_of_ble_eq_true rfl) ?_
  show J l mX11_worthOf I v u 0 [(0, .ref 1100), (1, .int x1)] [] _
  refine J_iconst (x := 0) dX11_worthOf_0 (by decide) ?_
  refine J_istore_n (lv' := [(2, .int 0), (0, .ref 1100), (1, .int x1)]) dX11_worthOf_1 rfl (by decide) rfl ?_
  refine J_bipush (x := 99) dX11_worthOf_2 (by decide) ?_
  refine J_istore_n (lv' := [(3, .int 99), (2, .int 0), (0, .ref 1100), (1, .int x1)]) dX11_worthOf_4 rfl (by decide) rfl ?_
  refine J_lv [2, 3, 1, 0] rfl ?_
  exact wo_L hI v u x1 h1 i hi hc hr ha 100 0 (by omega)
end
section
def pl_a_t (j : Nat) (z : fr_V) : fr_V := up2 z 1142 j 0
def pl_a (w0 : fr_V) : Nat → fr_V
  | 0 => w0
  | j + 1 => pl_a_t j (pl_a w0 j)
theorem pl_a_s (w0 : fr_V) (j : Nat) : pl_a w0 (j + 1) = pl_a_t j (pl_a w0 j) := rfl
theorem pl_a_L {l : Launch} {I : List Nat} (hI : fr_I I) (u : fr_U) (w0 : fr_V) : ∀ (d j : Nat) (z : fr_V) (hd : 4 - j < d) (hj : j ≤ 4) (hz : z = pl_a w0 j), J l mX11_plain I z u 33 [(0, .ref 1100), (1, .int (nI j))] [] (QN u (fun a => a = up2 (pl_a w0 4) 1100 39 0)) := by
  intro d
  induction d with
  | zero => intros; omega
  | succ d ih =>
    intro j z hd hj hz
    refine J_iload_n dX11_plain_33 rfl 1 rfl ?_
    refine J_iconst (x := 4) dX11_plain_34 (by decide) ?_
    refine J_icmp_ge (tgt := 51) dX11_plain_35 (by decide) (fun c1 => ?_) (fun c1 => ?_)
    · have e : j = 4 := by have := nz_le (a := 4) (by omega) (by omega) c1; omega
      refine J_aload_n dX11_plain_51 rfl 0 rfl ?_
      refine J_iconst (x := 0) dX11_plain_52 (by decide) ?_
      refine J_puti (ci := 11) (j := 39) dX11_plain_53 fl_X11_167 (i1100 hI) rfl rfl (fun q h => by cases h; rfl) rfl ?_
      exact J_vret dX11_plain_56 rfl ⟨rfl, rfl, by rw [← e, ← hz]⟩
    · have hjn : j < 4 := nz_nle (a := 4) (by omega) (by omega) c1
      refine J_aload_n dX11_plain_38 rfl 0 rfl ?_
      refine J_getr (ci := 11) (j := 41) (t := 1142) dX11_plain_39 fl_X11_89 (i1100 hI) rfl rfl rfl ?_
      refine J_iload_n dX11_plain_42 rfl 1 rfl ?_
      refine J_iconst (x := 0) dX11_plain_43 (by decide) ?_
      refine J_zase (j := j) dX11_plain_44 (i1142 hI) rfl (ix_in (j := j) rfl (by omega) (by omega)) (ix_cl (j := j) rfl (by omega)) (by decide) ?_
      refine J_iinc (q := 1) (z := nI (j + 1)) (lv' := [(1, .int (nI (j + 1))), (0, .ref 1100)]) dX11_plain_45 rfl (nI_1 j) (by decide) rfl ?_
      refine J_goto (tgt := 33) dX11_plain_48 (by decide) ?_
      refine J_lv [1, 0] rfl ?_
      exact ih (j + 1) _ (by omega) (by omega) (by rw [pl_a_s, ← hz]; unfold pl_a_t; rfl)
def f_plain (v : fr_V) : fr_V := up2 (pl_a (up2 (up2 (up2 (up2 v 1141 4 4) 1141 5 0) 1141 6 20) 1141 7 3) 4) 1100 39 0
theorem k_X11_plain {l : Launch} {I : List Nat} (hI : fr_I I) (v : fr_V) (u : fr_U) : Con l mX11_plain I v u [.ref 1100] (QN u (fun a => a = f_plain v)) := by
  refine Con.of (by decide) (Nat.le_of_ble_eq_true rfl) ?_
  show J l mX11_plain I v u 0 [(0, .ref 1100)] [] _
  refine J_aload_n dX11_plain_0 rfl 0 rfl ?_
  refine J_getr (ci := 11) (j := 40) (t := 1141) dX11_plain_1 fl_X11_86 (i1100 hI) rfl rfl rfl ?_
  refine J_iconst (x := 4) dX11_plain_4 (by decide) ?_
  refine J_iconst (x := 4) dX11_plain_5 (by decide) ?_
  refine J_iase (j := 4) dX11_plain_6 (i1141 hI) rfl (ix_in (j := 4) rfl (by omega) (by omega)) (ix_cl (j := 4) rfl (by omega)) ?_
  refine J_aload_n dX11_plain_7 rfl 0 rfl ?_
  refine J_getr (ci := 11) (j := 40) (t := 1141) dX11_plain_8 fl_X11_86 (i1100 hI) rfl rfl rfl ?_
  refine J_iconst (x := 5) dX11_plain_11 (by decide) ?_
  refine J_iconst (x := 0) dX11_plain_12 (by decide) ?_
  refine J_iase (j := 5) dX11_plain_13 (i1141 hI) rfl (ix_in (j := 5) rfl (by omega) (by omega)) (ix_cl (j := 5) rfl (by omega)) ?_
  refine J_aload_n dX11_plain_14 rfl 0 rfl ?_
  refine J_getr (ci := 11) (j := 40) (t := 1141) dX11_plain_15 fl_X11_86 (i1100 hI) rfl rfl rfl ?_
  refine J_bipush (x := 6) dX11_plain_18 (by decide) ?_
  refine J_bipush (x := 20) dX11_plain_20 (by decide) ?_
  refine J_iase (j := 6) dX11_plain_22 (i1141 hI) rfl (ix_in (j := 6) rfl (by omega) (by omega)) (ix_cl (j := 6) rfl (by omega)) ?_
  refine J_aload_n dX11_plain_23 rfl 0 rfl ?_
  refine J_getr (ci := 11) (j := 40) (t := 1141) dX11_plain_24 fl_X11_86 (i1100 hI) rfl rfl rfl ?_
  refine J_bipush (x := 7) dX11_plain_27 (by decide) ?_
  refine J_iconst (x := 3) dX11_plain_29 (by decide) ?_
  refine J_iase (j := 7) dX11_plain_30 (i1141 hI) rfl (ix_in (j := 7) rfl (by omega) (by omega)) (ix_cl (j := 7) rfl (by omega)) ?_
  refine J_iconst (x := 0) dX11_plain_31 (by decide) ?_
  refine J_istore_n (lv' := [(1, .int 0), (0, .ref 1100)]) dX11_plain_32 rfl (by decide) rfl ?_
  refine J_lv [1, 0] rfl ?_
  exact pl_a_L hI u _ 5 0 _ (by omega) (by omega) rfl
def kp_b_t (j : Nat) (z : fr_V) : fr_V := up2 (up2 (up2 (up2 (up2 (up2 (up2 (up2 z 1131 j (z 1131 (24 + j))) 1132 j (z 1132 (24 + j))) 1133 j (z 1133 (24 + j))) 1134 j (z 1134 (24 + j))) 1135 j (z 1135 (24 + j))) 1136 j (z 1136 (24 + j))) 1137 j (z 1137 (24 + j))) 1138 j (z 1138 (24 + j))
def kp_b (w0 : fr_V) : Nat → fr_V
  | 0 => w0
  | j + 1 => kp_b_t j (kp_b w0 j)
theorem kp_b_s (w0 : fr_V) (j : Nat) : kp_b w0 (j + 1) = kp_b_t j (kp_b w0 j) := rfl
theorem kp_b_L {l : Launch} {I : List Nat} (hI : fr_I I) (u : fr_U) (w0 : fr_V) (M : Nat) (hM : M ≤ 24) : ∀ (d j : Nat) (z : fr_V) (hd : M - j < d) (hj : j ≤ M) (hz : z = kp_b w0 j) (hm : z 1100 38 = nI M), J l mX11_keep I z u 37 [(0, .ref 1100), (1, .int (nI j))] [] (QN u (fun a => a = kp_b w0 M)) := by
  intro d
  induction d with
  | zero => intros; omega
  | succ d ih =>
    intro j z hd hj hz hm
    refine J_iload_n dX11_keep_37 rfl 1 rfl ?_
    refine J_aload_n dX11_keep_38 rfl 0 rfl ?_
    refine J_gete (ci := 11) (j := 38) (x := nI M) dX11_keep_39 fl_X11_170 (i1100 hI) rfl rfl hm ?_
    refine J_icmp_ge (tgt := 171) dX11_keep_42 (by decide) (fun c1 => ?_) (fun c1 => ?_)
    · have e : j = M := by have := nz_le (by omega) (by omega) c1; omega
      exact J_vret dX11_keep_171 rfl ⟨rfl, rfl, by rw [hz, e]⟩
    · have hjn : j < M := nz_nle (by omega) (by omega) c1
      refine J_aload_n dX11_keep_45 rfl 0 rfl ?_
      refine J_getr (ci := 11) (j := 30) (t := 1131) dX11_keep_46 fl_X11_62 (i1100 hI) rfl rfl rfl ?_
      refine J_iload_n dX11_keep_49 rfl 1 rfl ?_
      refine J_aload_n dX11_keep_50 rfl 0 rfl ?_
      refine J_getr (ci := 11) (j := 30) (t := 1131) dX11_keep_51 fl_X11_62 (i1100 hI) rfl rfl rfl ?_
      refine J_bipush (x := 24) dX11_keep_54 (by decide) ?_
      refine J_iload_n dX11_keep_56 rfl 1 rfl ?_
      refine J_iadd dX11_keep_57 ?_
      refine J_iale (x := z 1131 (24 + j)) dX11_keep_58 (i1131 hI) rfl (ix_in (j := 24 + j) (by show (nI 24) + (nI j) = _; simp only [nI_add, pk_mul]) (by omega) (by omega)) ((congrArg _ (ix_cl (j := 24 + j) (by show (nI 24) + (nI j) = _; simp only [nI_add, pk_mul]) (by omega))).trans rfl) ?_
      refine J_iase (j := j) dX11_keep_59 (i1131 hI) rfl (ix_in (j := j) rfl (by omega) (by omega)) (ix_cl (j := j) rfl (by omega)) ?_
      refine J_aload_n dX11_keep_60 rfl 0 rfl ?_
      refine J_getr (ci := 11) (j := 31) (t := 1132) dX11_keep_61 fl_X11_65 (i1100 hI) rfl rfl rfl ?_
      refine J_iload_n dX11_keep_64 rfl 1 rfl ?_
      refine J_aload_n dX11_keep_65 rfl 0 rfl ?_
      refine J_getr (ci := 11) (j := 31) (t := 1132) dX11_keep_66 fl_X11_65 (i1100 hI) rfl rfl rfl ?_
      refine J_bipush (x := 24) dX11_keep_69 (by decide) ?_
      refine J_iload_n dX11_keep_71 rfl 1 rfl ?_
      refine J_iadd dX11_keep_72 ?_
      refine J_iale (x := z 1132 (24 + j)) dX11_keep_73 (i1132 hI) rfl (ix_in (j := 24 + j) (by show (nI 24) + (nI j) = _; simp only [nI_add, pk_mul]) (by omega) (by omega)) ((congrArg _ (ix_cl (j := 24 + j) (by show (nI 24) + (nI j) = _; simp only [nI_add, pk_mul]) (by omega))).trans rfl) ?_
      refine J_iase (j := j) dX11_keep_74 (i1132 hI) rfl (ix_in (j := j) rfl (by omega) (by omega)) (ix_cl (j := j) rfl (by omega)) ?_
      refine J_aload_n dX11_keep_75 rfl 0 rfl ?_
      refine J_getr (ci := 11) (j := 32) (t := 1133) dX11_keep_76 fl_X11_68 (i1100 hI) rfl rfl rfl ?_
      refine J_iload_n dX11_keep_79 rfl 1 rfl ?_
      refine J_aload_n dX11_keep_80 rfl 0 rfl ?_
      refine J_getr (ci := 11) (j := 32) (t := 1133) dX11_keep_81 fl_X11_68 (i1100 hI) rfl rfl rfl ?_
      refine J_bipush (x := 24) dX11_keep_84 (by decide) ?_
      refine J_iload_n dX11_keep_86 rfl 1 rfl ?_
      refine J_iadd dX11_keep_87 ?_
      refine J_iale (x := z 1133 (24 + j)) dX11_keep_88 (i1133 hI) rfl (ix_in (j := 24 + j) (by show (nI 24) + (nI j) = _; simp only [nI_add, pk_mul]) (by omega) (by omega)) ((congrArg _ (ix_cl (j := 24 + j) (by show (nI 24) + (nI j) = _; simp only [nI_add, pk_mul]) (by omega))).trans rfl) ?_
      refine J_iase (j := j) dX11_keep_89 (i1133 hI) rfl (ix_in (j := j) rfl (by omega) (by omega)) (ix_cl (j := j) rfl (by omega)) ?_
      refine J_aload_n dX11_keep_90 rfl 0 rfl ?_
      refine J_getr (ci := 11) (j := 33) (t := 1134) dX11_keep_91 fl_X11_71 (i1100 hI) rfl rfl rfl ?_
      refine J_iload_n dX11_keep_94 rfl 1 rfl ?_
      refine J_aload_n dX11_keep_95 rfl 0 rfl ?_
      refine J_getr (ci := 11) (j := 33) (t := 1134) dX11_keep_96 fl_X11_71 (i1100 hI) rfl rfl rfl ?_
      refine J_bipush (x := 24) dX11_keep_99 (by decide) ?_
      refine J_iload_n dX11_keep_101 rfl 1 rfl ?_
      refine J_iadd dX11_keep_102 ?_
      refine J_iale (x := z 1134 (24 + j)) dX11_keep_103 (i1134 hI) rfl (ix_in (j := 24 + j) (by show (nI 24) + (nI j) = _; simp only [nI_add, pk_mul]) (by omega) (by omega)) ((congrArg _ (ix_cl (j := 24 + j) (by show (nI 24) + (nI j) = _; simp only [nI_add, pk_mul]) (by omega))).trans rfl) ?_
      refine J_iase (j := j) dX11_keep_104 (i1134 hI) rfl (ix_in (j := j) rfl (by omega) (by omega)) (ix_cl (j := j) rfl (by omega)) ?_
      refine J_aload_n dX11_keep_105 rfl 0 rfl ?_
      refine J_getr (ci := 11) (j := 34) (t := 1135) dX11_keep_106 fl_X11_74 (i1100 hI) rfl rfl rfl ?_
      refine J_iload_n dX11_keep_109 rfl 1 rfl ?_
      refine J_aload_n dX11_keep_110 rfl 0 rfl ?_
      refine J_getr (ci := 11) (j := 34) (t := 1135) dX11_keep_111 fl_X11_74 (i1100 hI) rfl rfl rfl ?_
      refine J_bipush (x := 24) dX11_keep_114 (by decide) ?_
      refine J_iload_n dX11_keep_116 rfl 1 rfl ?_
      refine J_iadd dX11_keep_117 ?_
      refine J_iale (x := z 1135 (24 + j)) dX11_keep_118 (i1135 hI) rfl (ix_in (j := 24 + j) (by show (nI 24) + (nI j) = _; simp only [nI_add, pk_mul]) (by omega) (by omega)) ((congrArg _ (ix_cl (j := 24 + j) (by show (nI 24) + (nI j) = _; simp only [nI_add, pk_mul]) (by omega))).trans rfl) ?_
      refine J_iase (j := j) dX11_keep_119 (i1135 hI) rfl (ix_in (j := j) rfl (by omega) (by omega)) (ix_cl (j := j) rfl (by omega)) ?_
      refine J_aload_n dX11_keep_120 rfl 0 rfl ?_
      refine J_getr (ci := 11) (j := 35) (t := 1136) dX11_keep_121 fl_X11_77 (i1100 hI) rfl rfl rfl ?_
      refine J_iload_n dX11_keep_124 rfl 1 rfl ?_
      refine J_aload_n dX11_keep_125 rfl 0 rfl ?_
      refine J_getr (ci := 11) (j := 35) (t := 1136) dX11_keep_126 fl_X11_77 (i1100 hI) rfl rfl rfl ?_
      refine J_bipush (x := 24) dX11_keep_129 (by decide) ?_
      refine J_iload_n dX11_keep_131 rfl 1 rfl ?_
      refine J_iadd dX11_keep_132 ?_
      refine J_iale (x := z 1136 (24 + j)) dX11_keep_133 (i1136 hI) rfl (ix_in (j := 24 + j) (by show (nI 24) + (nI j) = _; simp only [nI_add, pk_mul]) (by omega) (by omega)) ((congrArg _ (ix_cl (j := 24 + j) (by show (nI 24) + (nI j) = _; simp only [nI_add, pk_mul]) (by omega))).trans rfl) ?_
      refine J_iase (j := j) dX11_keep_134 (i1136 hI) rfl (ix_in (j := j) rfl (by omega) (by omega)) (ix_cl (j := j) rfl (by omega)) ?_
      refine J_aload_n dX11_keep_135 rfl 0 rfl ?_
      refine J_getr (ci := 11) (j := 36) (t := 1137) dX11_keep_136 fl_X11_80 (i1100 hI) rfl rfl rfl ?_
      refine J_iload_n dX11_keep_139 rfl 1 rfl ?_
      refine J_aload_n dX11_keep_140 rfl 0 rfl ?_
      refine J_getr (ci := 11) (j := 36) (t := 1137) dX11_keep_141 fl_X11_80 (i1100 hI) rfl rfl rfl ?_
      refine J_bipush (x := 24) dX11_keep_144 (by decide) ?_
      refine J_iload_n dX11_keep_146 rfl 1 rfl ?_
      refine J_iadd dX11_keep_147 ?_
      refine J_iale (x := z 1137 (24 + j)) dX11_keep_148 (i1137 hI) rfl (ix_in (j := 24 + j) (by show (nI 24) + (nI j) = _; simp only [nI_add, pk_mul]) (by omega) (by omega)) ((congrArg _ (ix_cl (j := 24 + j) (by show (nI 24) + (nI j) = _; simp only [nI_add, pk_mul]) (by omega))).trans rfl) ?_
      refine J_iase (j := j) dX11_keep_149 (i1137 hI) rfl (ix_in (j := j) rfl (by omega) (by omega)) (ix_cl (j := j) rfl (by omega)) ?_
      refine J_aload_n dX11_keep_150 rfl 0 rfl ?_
      refine J_getr (ci := 11) (j := 37) (t := 1138) dX11_keep_151 fl_X11_83 (i1100 hI) rfl rfl rfl ?_
      refine J_iload_n dX11_keep_154 rfl 1 rfl ?_
      refine J_aload_n dX11_keep_155 rfl 0 rfl ?_
      refine J_getr (ci := 11) (j := 37) (t := 1138) dX11_keep_156 fl_X11_83 (i1100 hI) rfl rfl rfl ?_
      refine J_bipush (x := 24) dX11_keep_159 (by decide) ?_
      refine J_iload_n dX11_keep_161 rfl 1 rfl ?_
      refine J_iadd dX11_keep_162 ?_
      refine J_iale (x := z 1138 (24 + j)) dX11_keep_163 (i1138 hI) rfl (ix_in (j := 24 + j) (by show (nI 24) + (nI j) = _; simp only [nI_add, pk_mul]) (by omega) (by omega)) ((congrArg _ (ix_cl (j := 24 + j) (by show (nI 24) + (nI j) = _; simp only [nI_add, pk_mul]) (by omega))).trans rfl) ?_
      refine J_iase (j := j) dX11_keep_164 (i1138 hI) rfl (ix_in (j := j) rfl (by omega) (by omega)) (ix_cl (j := j) rfl (by omega)) ?_
      refine J_iinc (q := 1) (z := nI (j + 1)) (lv' := [(1, .int (nI (j + 1))), (0, .ref 1100)]) dX11_keep_165 rfl (nI_1 j) (by decide) rfl ?_
      refine J_goto (tgt := 37) dX11_keep_168 (by decide) ?_
      refine J_lv [1, 0] rfl ?_
      exact ih (j + 1) _ (by omega) (by omega) (by rw [kp_b_s, ← hz]; unfold kp_b_t; rfl) (hm)
def kp_a_t (j : Nat) (z : fr_V) : fr_V := up2 z 1141 j (z 1141 (4 + j))
def kp_a (w0 : fr_V) : Nat → fr_V
  | 0 => w0
  | j + 1 => kp_a_t j (kp_a w0 j)
theorem kp_a_s (w0 : fr_V) (j : Nat) : kp_a w0 (j + 1) = kp_a_t j (kp_a w0 j) := rfl
theorem kp_a_L {l : Launch} {I : List Nat} (hI : fr_I I) (u : fr_U) (w0 : fr_V) (M : Nat) (hM : M ≤ 24) : ∀ (d j : Nat) (z : fr_V) (hd : 4 - j < d) (hj : j ≤ 4) (hz : z = kp_a w0 j) (hm : z 1100 39 = nI M), J l mX11_keep I z u 2 [(0, .ref 1100), (1, .int (nI j))] [] (QN u (fun a => a = kp_b (up2 (kp_a w0 4) 1100 38 ((kp_a w0 4) 1100 39)) M)) := by
  intro d
  induction d with
  | zero => intros; omega
  | succ d ih =>
    intro j z hd hj hz hm
    refine J_iload_n dX11_keep_2 rfl 1 rfl ?_
    refine J_iconst (x := 4) dX11_keep_3 (by decide) ?_
    refine J_icmp_ge (tgt := 27) dX11_keep_4 (by decide) (fun c1 => ?_) (fun c1 => ?_)
    · have e : j = 4 := by have := nz_le (a := 4) (by omega) (by omega) c1; omega
      refine J_aload_n dX11_keep_27 rfl 0 rfl ?_
      refine J_aload_n dX11_keep_28 rfl 0 rfl ?_
      refine J_gete (ci := 11) (j := 39) (x := z 1100 39) dX11_keep_29 fl_X11_167 (i1100 hI) rfl rfl rfl ?_
      refine J_puti (ci := 11) (j := 38) dX11_keep_32 fl_X11_170 (i1100 hI) rfl rfl (fun q h => by cases h; rfl) rfl ?_
      refine J_iconst (x := 0) dX11_keep_35 (by decide) ?_
      refine J_istore_n (lv' := [(1, .int 0), (0, .ref 1100)]) dX11_keep_36 rfl (by decide) rfl ?_
      refine J_lv [1, 0] rfl ?_
      rw [hz, e] at hm ⊢
      refine J_post (fun r v1 u1 hq => hq) (kp_b_L hI u _ M hM (M + 1) 0 _ (by omega) (by omega) rfl hm)
    · have hjn : j < 4 := nz_nle (a := 4) (by omega) (by omega) c1
      refine J_aload_n dX11_keep_7 rfl 0 rfl ?_
      refine J_getr (ci := 11) (j := 40) (t := 1141) dX11_keep_8 fl_X11_86 (i1100 hI) rfl rfl rfl ?_
      refine J_iload_n dX11_keep_11 rfl 1 rfl ?_
      refine J_aload_n dX11_keep_12 rfl 0 rfl ?_
      refine J_getr (ci := 11) (j := 40) (t := 1141) dX11_keep_13 fl_X11_86 (i1100 hI) rfl rfl rfl ?_
      refine J_iconst (x := 4) dX11_keep_16 (by decide) ?_
      refine J_iload_n dX11_keep_17 rfl 1 rfl ?_
      refine J_iadd dX11_keep_18 ?_
      refine J_iale (x := z 1141 (4 + j)) dX11_keep_19 (i1141 hI) rfl (ix_in (j := 4 + j) (by show (nI 4) + (nI j) = _; simp only [nI_add, pk_mul]) (by omega) (by omega)) ((congrArg _ (ix_cl (j := 4 + j) (by show (nI 4) + (nI j) = _; simp only [nI_add, pk_mul]) (by omega))).trans rfl) ?_
      refine J_iase (j := j) dX11_keep_20 (i1141 hI) rfl (ix_in (j := j) rfl (by omega) (by omega)) (ix_cl (j := j) rfl (by omega)) ?_
      refine J_iinc (q := 1) (z := nI (j + 1)) (lv' := [(1, .int (nI (j + 1))), (0, .ref 1100)]) dX11_keep_21 rfl (nI_1 j) (by decide) rfl ?_
      refine J_goto (tgt := 2) dX11_keep_24 (by decide) ?_
      refine J_lv [1, 0] rfl ?_
      exact ih (j + 1) _ (by omega) (by omega) (by rw [kp_a_s, ← hz]; unfold kp_a_t; rfl) (hm)
def f_keep (v : fr_V) (M : Nat) : fr_V := kp_b (up2 (kp_a v 4) 1100 38 ((kp_a v 4) 1100 39)) M
theorem k_X11_keep {l : Launch} {I : List Nat} (hI : fr_I I) (v : fr_V) (u : fr_U) (M : Nat) (hM : M ≤ 24) (hm : v 1100 39 = nI M) : Con l mX11_keep I v u [.ref 1100] (QN u (fun a => a = f_keep v M)) := by
  refine Con.of (by decide) (Nat.le_of_ble_eq_true rfl) ?_
  show J l mX11_keep I v u 0 [(0, .ref 1100)] [] _
  refine J_iconst (x := 0) dX11_keep_0 (by decide) ?_
  refine J_istore_n (lv' := [(1, .int 0), (0, .ref 1100)]) dX11_keep_1 rfl (by decide) rfl ?_
  refine J_lv [1, 0] rfl ?_
  exact kp_a_L hI u v M hM 5 0 _ (by omega) (by omega) rfl hm
def fd_a_t (T : Nat) (x1 : Int32) (x2 : Int32) (x3 : Int32) (x4 : Int32) (x5 : Int32) (j : Nat) (z : fr_V) : fr_V := if 4 ≤ (nI j) then (if 8 ≤ (nI j) then (if 12 ≤ (nI j) then (if 16 ≤ (nI j) then up2 z 1101 (T + j) ((x5 >>> ((24 - (8 * ((nI j) - (nI j) / 4 * 4))) &&& 31)) &&& 255) else up2 z 1101 (T + j) ((x4 >>> ((24 - (8 * ((nI j) - (nI j) / 4 * 4))) &&& 31)) &&& 255)) else up2 z 1101 (T + j) ((x3 >>> ((24 - (8 * ((nI j) - (nI j) / 4 * 4))) &&& 31)) &&& 255)) else up2 z 1101 (T + j) ((x2 >>> ((24 - (8 * ((nI j) - (nI j) / 4 * 4))) &&& 31)) &&& 255)) else up2 z 1101 (T + j) ((x1 >>> ((24 - (8 * ((nI j) - (nI j) / 4 * 4))) &&& 31)) &&& 255)
def fd_a (T : Nat) (x1 : Int32) (x2 : Int32) (x3 : Int32) (x4 : Int32) (x5 : Int32) (w0 : fr_V) : Nat → fr_V
  | 0 => w0
  | j + 1 => fd_a_t T x1 x2 x3 x4 x5 j (fd_a T x1 x2 x3 x4 x5 w0 j)
theorem fd_a_s (T : Nat) (x1 : Int32) (x2 : Int32) (x3 : Int32) (x4 : Int32) (x5 : Int32) (w0 : fr_V) (j : Nat) : fd_a T x1 x2 x3 x4 x5 w0 (j + 1) = fd_a_t T x1 x2 x3 x4 x5 j (fd_a T x1 x2 x3 x4 x5 w0 j) := rfl
theorem fd_a_L {l : Launch} {I : List Nat} (hI : fr_I I) (u : fr_U) (T : Nat) (x1 : Int32) (x2 : Int32) (x3 : Int32) (x4 : Int32) (x5 : Int32) (w0 : fr_V) (hT : T + 20 ≤ 500) : ∀ (d j : Nat) (z : fr_V) (hd : 20 - j < d) (hj : j ≤ 20) (hz : z = fd_a T x1 x2 x3 x4 x5 w0 j) (ht : z 1100 1 = nI T), J l mX11_feed I z u 23 [(0, .ref 1100), (1, .int x1), (2, .int x2), (3, .int x3), (4, .int x4), (5, .int x5), (6, .int (nI j))] [] (QX u (fun a b => a = nI T + 20 ∧ b = up2 (fd_a T x1 x2 x3 x4 x5 w0 20) 1100 1 (nI T + 20))) := by
  intro d
  induction d with
  | zero => intros; omega
  | succ d ih =>
    intro j z hd hj hz ht
    refine J_iload dX11_feed_23 6 rfl ?_
    refine J_bipush (x := 20) dX11_feed_25 (by decide) ?_
    refine J_icmp_ge (tgt := 113) dX11_feed_27 (by decide) (fun c1 => ?_) (fun c1 => ?_)
    · have e : j = 20 := by have := nz_le (a := 20) (by omega) (by omega) c1; omega
      refine J_aload_n dX11_feed_113 rfl 0 rfl ?_
      refine J_dup dX11_feed_114 rfl ?_
      refine J_gete (ci := 11) (j := 1) (x := nI T) dX11_feed_115 fl_X11_132 (i1100 hI) rfl rfl ht ?_
      refine J_bipush (x := 20) dX11_feed_118 (by decide) ?_
      refine J_iadd dX11_feed_120 ?_
      refine J_puti (ci := 11) (j := 1) dX11_feed_121 fl_X11_132 (i1100 hI) rfl rfl (fun q h => by cases h; rfl) rfl ?_
      refine J_aload_n dX11_feed_124 rfl 0 rfl ?_
      refine J_gete (ci := 11) (j := 1) (x := (nI T) + 20) dX11_feed_125 fl_X11_132 (i1100 hI) rfl rfl rfl ?_
      exact J_iret dX11_feed_128 rfl ⟨_, rfl, rfl, rfl, by rw [hz, e]⟩
    · have hjn : j < 20 := nz_nle (a := 20) (by omega) (by omega) c1
      refine J_iload dX11_feed_30 6 rfl ?_
      refine J_iconst (x := 4) dX11_feed_32 (by decide) ?_
      refine J_icmp_ge (tgt := 40) dX11_feed_33 (by decide) (fun c2 => ?_) (fun c2 => ?_)
      · refine J_iload dX11_feed_40 6 rfl ?_
        refine J_bipush (x := 8) dX11_feed_42 (by decide) ?_
        refine J_icmp_ge (tgt := 51) dX11_feed_44 (by decide) (fun c3 => ?_) (fun c3 => ?_)
        · refine J_iload dX11_feed_51 6 rfl ?_
          refine J_bipush (x := 12) dX11_feed_53 (by decide) ?_
          refine J_icmp_ge (tgt := 62) dX11_feed_55 (by decide) (fun c4 => ?_) (fun c4 => ?_)
          · refine J_iload dX11_feed_62 6 rfl ?_
            refine J_bipush (x := 16) dX11_feed_64 (by decide) ?_
            refine J_icmp_ge (tgt := 74) dX11_feed_66 (by decide) (fun c5 => ?_) (fun c5 => ?_)
            · refine J_iload dX11_feed_74 5 rfl ?_
              refine J_istore (lv' := [(7, .int x5), (0, .ref 1100), (1, .int x1), (2, .int x2), (3, .int x3), (4, .int x4), (5, .int x5), (6, .int (nI j))]) dX11_feed_76 (by decide) rfl ?_
              refine J_aload_n dX11_feed_78 rfl 1 rfl ?_
              refine J_getr (ci := 11) (j := 0) (t := 1101) dX11_feed_79 fl_X11_7 (i1100 hI) rfl rfl rfl ?_
              refine J_aload_n dX11_feed_82 rfl 1 rfl ?_
              refine J_gete (ci := 11) (j := 1) (x := nI T) dX11_feed_83 fl_X11_132 (i1100 hI) rfl rfl ht ?_
              refine J_iload dX11_feed_86 7 rfl ?_
              refine J_iadd dX11_feed_88 ?_
              refine J_iload dX11_feed_89 0 rfl ?_
              refine J_bipush (x := 24) dX11_feed_91 (by decide) ?_
              refine J_bipush (x := 8) dX11_feed_93 (by decide) ?_
              refine J_iload dX11_feed_95 7 rfl ?_
              refine J_iconst (x := 4) dX11_feed_97 (by decide) ?_
              refine J_irem dX11_feed_98 (by decide) ?_
              refine J_imul dX11_feed_99 ?_
              refine J_isub dX11_feed_100 ?_
              refine J_ishr dX11_feed_101 ?_
              refine J_sipush (x := 255) dX11_feed_102 (by decide) ?_
              refine J_iand dX11_feed_105 ?_
              refine J_iase (j := T + j) dX11_feed_106 (i1101 hI) rfl (ix_in (j := T + j) (by show (nI T) + (nI j) = _; simp only [nI_add, pk_mul]) (by omega) (by omega)) (ix_cl (j := T + j) (by show (nI T) + (nI j) = _; simp only [nI_add, pk_mul]) (by omega)) ?_
              refine J_iinc (q := 7) (z := nI (j + 1)) (lv' := [(6, .int (nI (j + 1))), (7, .int x5), (0, .ref 1100), (1, .int x1), (2, .int x2), (3, .int x3), (4, .int x4), (5, .int x5)]) dX11_feed_107 rfl (nI_1 j) (by decide) rfl ?_
              refine J_goto (tgt := 23) dX11_feed_110 (by decide) ?_
              refine J_lv [2, 3, 4, 5, 6, 7, 0] rfl ?_
              exact ih (j + 1) _ (by omega) (by omega) (by rw [fd_a_s, ← hz]; unfold fd_a_t; rw [if_pos c2, if_pos c3, if_pos c4, if_pos c5]) (ht)
            · refine J_iload dX11_feed_69 4 rfl ?_
              refine J_goto (tgt := 76) dX11_feed_71 (by decide) ?_
              refine J_istore (lv' := [(7, .int x4), (0, .ref 1100), (1, .int x1), (2, .int x2), (3, .int x3), (4, .int x4), (5, .int x5), (6, .int (nI j))]) dX11_feed_76 (by decide) rfl ?_
              refine J_aload_n dX11_feed_78 rfl 1 rfl ?_
              refine J_getr (ci := 11) (j := 0) (t := 1101) dX11_feed_79 fl_X11_7 (i1100 hI) rfl rfl rfl ?_
              refine J_aload_n dX11_feed_82 rfl 1 rfl ?_
              refine J_gete (ci := 11) (j := 1) (x := nI T) dX11_feed_83 fl_X11_132 (i1100 hI) rfl rfl ht ?_
              refine J_iload dX11_feed_86 7 rfl ?_
              refine J_iadd dX11_feed_88 ?_
              refine J_iload dX11_feed_89 0 rfl ?_
              refine J_bipush (x := 24) dX11_feed_91 (by decide) ?_
              refine J_bipush (x := 8) dX11_feed_93 (by decide) ?_
              refine J_iload dX11_feed_95 7 rfl ?_
              refine J_iconst (x := 4) dX11_feed_97 (by decide) ?_
              refine J_irem dX11_feed_98 (by decide) ?_
              refine J_imul dX11_feed_99 ?_
              refine J_isub dX11_feed_100 ?_
              refine J_ishr dX11_feed_101 ?_
              refine J_sipush (x := 255) dX11_feed_102 (by decide) ?_
              refine J_iand dX11_feed_105 ?_
              refine J_iase (j := T + j) dX11_feed_106 (i1101 hI) rfl (ix_in (j := T + j) (by show (nI T) + (nI j) = _; simp only [nI_add, pk_mul]) (by omega) (by omega)) (ix_cl (j := T + j) (by show (nI T) + (nI j) = _; simp only [nI_add, pk_mul]) (by omega)) ?_
              refine J_iinc (q := 7) (z := nI (j + 1)) (lv' := [(6, .int (nI (j + 1))), (7, .int x4), (0, .ref 1100), (1, .int x1), (2, .int x2), (3, .int x3), (4, .int x4), (5, .int x5)]) dX11_feed_107 rfl (nI_1 j) (by decide) rfl ?_
              refine J_goto (tgt := 23) dX11_feed_110 (by decide) ?_
              refine J_lv [2, 3, 4, 5, 6, 7, 0] rfl ?_
              exact ih (j + 1) _ (by omega) (by omega) (by rw [fd_a_s, ← hz]; unfold fd_a_t; rw [if_pos c2, if_pos c3, if_pos c4, if_neg c5]) (ht)
          · refine J_iload_n dX11_feed_58 rfl 3 rfl ?_
            refine J_goto (tgt := 76) dX11_feed_59 (by decide) ?_
            refine J_istore (lv' := [(7, .int x3), (0, .ref 1100), (1, .int x1), (2, .int x2), (3, .int x3), (4, .int x4), (5, .int x5), (6, .int (nI j))]) dX11_feed_76 (by decide) rfl ?_
            refine J_aload_n dX11_feed_78 rfl 1 rfl ?_
            refine J_getr (ci := 11) (j := 0) (t := 1101) dX11_feed_79 fl_X11_7 (i1100 hI) rfl rfl rfl ?_
            refine J_aload_n dX11_feed_82 rfl 1 rfl ?_
            refine J_gete (ci := 11) (j := 1) (x := nI T) dX11_feed_83 fl_X11_132 (i1100 hI) rfl rfl ht ?_
            refine J_iload dX11_feed_86 7 rfl ?_
            refine J_iadd dX11_feed_88 ?_
            refine J_iload dX11_feed_89 0 rfl ?_
            refine J_bipush (x := 24) dX11_feed_91 (by decide) ?_
            refine J_bipush (x := 8) dX11_feed_93 (by decide) ?_
            refine J_iload dX11_feed_95 7 rfl ?_
            refine J_iconst (x := 4) dX11_feed_97 (by decide) ?_
            refine J_irem dX11_feed_98 (by decide) ?_
            refine J_imul dX11_feed_99 ?_
            refine J_isub dX11_feed_100 ?_
            refine J_ishr dX11_feed_101 ?_
            refine J_sipush (x := 255) dX11_feed_102 (by decide) ?_
            refine J_iand dX11_feed_105 ?_
            refine J_iase (j := T + j) dX11_feed_106 (i1101 hI) rfl (ix_in (j := T + j) (by show (nI T) + (nI j) = _; simp only [nI_add, pk_mul]) (by omega) (by omega)) (ix_cl (j := T + j) (by show (nI T) + (nI j) = _; simp only [nI_add, pk_mul]) (by omega)) ?_
            refine J_iinc (q := 7) (z := nI (j + 1)) (lv' := [(6, .int (nI (j + 1))), (7, .int x3), (0, .ref 1100), (1, .int x1), (2, .int x2), (3, .int x3), (4, .int x4), (5, .int x5)]) dX11_feed_107 rfl (nI_1 j) (by decide) rfl ?_
            refine J_goto (tgt := 23) dX11_feed_110 (by decide) ?_
            refine J_lv [2, 3, 4, 5, 6, 7, 0] rfl ?_
            exact ih (j + 1) _ (by omega) (by omega) (by rw [fd_a_s, ← hz]; unfold fd_a_t; rw [if_pos c2, if_pos c3, if_neg c4]) (ht)
        · refine J_iload_n dX11_feed_47 rfl 2 rfl ?_
          refine J_goto (tgt := 76) dX11_feed_48 (by decide) ?_
          refine J_istore (lv' := [(7, .int x2), (0, .ref 1100), (1, .int x1), (2, .int x2), (3, .int x3), (4, .int x4), (5, .int x5), (6, .int (nI j))]) dX11_feed_76 (by decide) rfl ?_
          refine J_aload_n dX11_feed_78 rfl 1 rfl ?_
          refine J_getr (ci := 11) (j := 0) (t := 1101) dX11_feed_79 fl_X11_7 (i1100 hI) rfl rfl rfl ?_
          refine J_aload_n dX11_feed_82 rfl 1 rfl ?_
          refine J_gete (ci := 11) (j := 1) (x := nI T) dX11_feed_83 fl_X11_132 (i1100 hI) rfl rfl ht ?_
          refine J_iload dX11_feed_86 7 rfl ?_
          refine J_iadd dX11_feed_88 ?_
          refine J_iload dX11_feed_89 0 rfl ?_
          refine J_bipush (x := 24) dX11_feed_91 (by decide) ?_
          refine J_bipush (x := 8) dX11_feed_93 (by decide) ?_
          refine J_iload dX11_feed_95 7 rfl ?_
          refine J_iconst (x := 4) dX11_feed_97 (by decide) ?_
          refine J_irem dX11_feed_98 (by decide) ?_
          refine J_imul dX11_feed_99 ?_
          refine J_isub dX11_feed_100 ?_
          refine J_ishr dX11_feed_101 ?_
          refine J_sipush (x := 255) dX11_feed_102 (by decide) ?_
          refine J_iand dX11_feed_105 ?_
          refine J_iase (j := T + j) dX11_feed_106 (i1101 hI) rfl (ix_in (j := T + j) (by show (nI T) + (nI j) = _; simp only [nI_add, pk_mul]) (by omega) (by omega)) (ix_cl (j := T + j) (by show (nI T) + (nI j) = _; simp only [nI_add, pk_mul]) (by omega)) ?_
          refine J_iinc (q := 7) (z := nI (j + 1)) (lv' := [(6, .int (nI (j + 1))), (7, .int x2), (0, .ref 1100), (1, .int x1), (2, .int x2), (3, .int x3), (4, .int x4), (5, .int x5)]) dX11_feed_107 rfl (nI_1 j) (by decide) rfl ?_
          refine J_goto (tgt := 23) dX11_feed_110 (by decide) ?_
          refine J_lv [2, 3, 4, 5, 6, 7, 0] rfl ?_
          exact ih (j + 1) _ (by omega) (by omega) (by rw [fd_a_s, ← hz]; unfold fd_a_t; rw [if_pos c2, if_neg c3]) (ht)
      · refine J_iload_n dX11_feed_36 rfl 1 rfl ?_
        refine J_goto (tgt := 76) dX11_feed_37 (by decide) ?_
        refine J_istore (lv' := [(7, .int x1), (0, .ref 1100), (1, .int x1), (2, .int x2), (3, .int x3), (4, .int x4), (5, .int x5), (6, .int (nI j))]) dX11_feed_76 (by decide) rfl ?_
        refine J_aload_n dX11_feed_78 rfl 1 rfl ?_
        refine J_getr (ci := 11) (j := 0) (t := 1101) dX11_feed_79 fl_X11_7 (i1100 hI) rfl rfl rfl ?_
        refine J_aload_n dX11_feed_82 rfl 1 rfl ?_
        refine J_gete (ci := 11) (j := 1) (x := nI T) dX11_feed_83 fl_X11_132 (i1100 hI) rfl rfl ht ?_
        refine J_iload dX11_feed_86 7 rfl ?_
        refine J_iadd dX11_feed_88 ?_
        refine J_iload dX11_feed_89 0 rfl ?_
        refine J_bipush (x := 24) dX11_feed_91 (by decide) ?_
        refine J_bipush (x := 8) dX11_feed_93 (by decide) ?_
        refine J_iload dX11_feed_95 7 rfl ?_
        refine J_iconst (x := 4) dX11_feed_97 (by decide) ?_
        refine J_irem dX11_feed_98 (by decide) ?_
        refine J_imul dX11_feed_99 ?_
        refine J_isub dX11_feed_100 ?_
        refine J_ishr dX11_feed_101 ?_
        refine J_sipush (x := 255) dX11_feed_102 (by decide) ?_
        refine J_iand dX11_feed_105 ?_
        refine J_iase (j := T + j) dX11_feed_106 (i1101 hI) rfl (ix_in (j := T + j) (by show (nI T) + (nI j) = _; simp only [nI_add, pk_mul]) (by omega) (by omega)) (ix_cl (j := T + j) (by show (nI T) + (nI j) = _; simp only [nI_add, pk_mul]) (by omega)) ?_
        refine J_iinc (q := 7) (z := nI (j + 1)) (lv' := [(6, .int (nI (j + 1))), (7, .int x1), (0, .ref 1100), (1, .int x1), (2, .int x2), (3, .int x3), (4, .int x4), (5, .int x5)]) dX11_feed_107 rfl (nI_1 j) (by decide) rfl ?_
        refine J_goto (tgt := 23) dX11_feed_110 (by decide) ?_
        refine J_lv [2, 3, 4, 5, 6, 7, 0] rfl ?_
        exact ih (j + 1) _ (by omega) (by omega) (by rw [fd_a_s, ← hz]; unfold fd_a_t; rw [if_neg c2]) (ht)
def f_feed (v : fr_V) (T : Nat) (x1 x2 x3 x4 x5 : Int32) : Int32 × fr_V := if nI T + 20 ≤ 500 then (nI T + 20, up2 (fd_a T x1 x2 x3 x4 x5 (up2 v 1100 2 0) 20) 1100 1 (nI T + 20)) else (-1, up2 v 1100 2 0)
theorem k_X11_feed {l : Launch} {I : List Nat} (hI : fr_I I) (v : fr_V) (u : fr_U) (T : Nat) (ht : v 1100 1 = nI T) (hT : T ≤ 500) (x1 x2 x3 x4 x5 : Int32) : Con l mX11_feed I v u [.ref 1100, .int x1, .int x2, .int x3, .int x4, .int x5] (QX u (fun a b => a = (f_feed v T x1 x2 x3 x4 x5).1 ∧ b = (f_feed v T x1 x2 x3 x4 x5).2)) := by
  refine Con.of (by decide) (Nat.le_of_ble_eq_true rfl) ?_
  show J l mX11_feed I v u 0 [(0, .ref 1100), (1, .int x1), (2, .int x2), (3, .int x3), (4, .int x4), (5, .int x5)] [] _
  refine J_aload_n dX11_feed_0 rfl 0 rfl ?_
  refine J_iconst (x := 0) dX11_feed_1 (by decide) ?_
  refine J_puti (ci := 11) (j := 2) dX11_feed_2 fl_X11_129 (i1100 hI) rfl rfl (fun q h => by cases h; rfl) rfl ?_
  refine J_aload_n dX11_feed_5 rfl 0 rfl ?_
  refine J_gete (ci := 11) (j := 1) (x := nI T) dX11_feed_6 fl_X11_132 (i1100 hI) rfl rfl ht ?_
  refine J_bipush (x := 20) dX11_feed_9 (by decide) ?_
  refine J_iadd dX11_feed_11 ?_
  refine J_sipush (x := 500) dX11_feed_12 (by decide) ?_
  refine J_icmp_le (tgt := 20) dX11_feed_15 (by decide) (fun c1 => ?_) (fun c1 => ?_)
  · refine J_iconst (x := 0) dX11_feed_20 (by decide) ?_
    refine J_istore (lv' := [(6, .int 0), (0, .ref 1100), (1, .int x1), (2, .int x2), (3, .int x3), (4, .int x4), (5, .int x5)]) dX11_feed_21 (by decide) rfl ?_
    refine J_lv [1, 2, 3, 4, 5, 6, 0] rfl ?_
    have hT2 : T + 20 ≤ 500 := nz_le (a := T + 20) (b := 500) (by omega) (by omega) (by rw [← nI_add]; exact c1)
    refine J_post (fun r v1 u1 hq => ?_) (fd_a_L hI u T x1 x2 x3 x4 x5 (up2 v 1100 2 0) hT2 21 0 _ (by omega) (by omega) rfl ht)
    obtain ⟨x, h1, h2, h3, h4⟩ := hq
    exact ⟨x, h1, h2, by rw [h3]; unfold f_feed; rw [if_pos c1], by rw [h4]; unfold f_feed; rw [if_pos c1]⟩
  · refine J_iconst (x := (-1)) dX11_feed_18 (by decide) ?_
    exact J_iret dX11_feed_19 rfl ⟨_, rfl, rfl, by unfold f_feed; rw [if_neg c1], by unfold f_feed; rw [if_neg c1]⟩
end
section
def yrN (g : Nat) : Nat := if g = 9 then 40 else 10
def yr_i_t (x3 : Int32) (g i s : Nat) (z : fr_V) : fr_V := if ((z 1106 i) + (2 * (nI (10 * g + s)))) < 0 then z else if x3 < ((z 1106 i) + (2 * (nI (10 * g + s)))) then z else if (z 1146 i) = (-1) then (if (z 1146 i) = ((z 1106 i) + (2 * (nI (10 * g + s)))) then up2 (up2 z 1100 49 ((z 1100 49) + 1)) 1100 50 ((z 1100 50) + 1) else if (z 1146 i) = (((z 1106 i) + (2 * (nI (10 * g + s)))) + 1) then up2 (up2 z 1100 49 ((z 1100 49) + 1)) 1100 50 ((z 1100 50) + 1) else up2 (up2 z 1100 49 ((z 1100 49) + 1)) 1100 50 ((z 1100 50) + 0)) else if ((z 1106 i) + (2 * (nI (10 * g + s)))) ≤ (z 1146 i) then (if (z 1146 i) = ((z 1106 i) + (2 * (nI (10 * g + s)))) then up2 (up2 z 1100 49 ((z 1100 49) + 1)) 1100 50 ((z 1100 50) + 1) else if (z 1146 i) = (((z 1106 i) + (2 * (nI (10 * g + s)))) + 1) then up2 (up2 z 1100 49 ((z 1100 49) + 1)) 1100 50 ((z 1100 50) + 1) else up2 (up2 z 1100 49 ((z 1100 49) + 1)) 1100 50 ((z 1100 50) + 0)) else z
def yr_i (x3 : Int32) (g i : Nat) (w0 : fr_V) : Nat → fr_V
  | 0 => w0
  | s + 1 => yr_i_t x3 g i s (yr_i x3 g i w0 s)
theorem yr_i_s (x3 : Int32) (g i : Nat) (w0 : fr_V) (s : Nat) : yr_i x3 g i w0 (s + 1) = yr_i_t x3 g i s (yr_i x3 g i w0 s) := rfl
theorem yr_i_L {l : Launch} {I : List Nat} (hI : fr_I I) (u : fr_U) (x1 x3 : Int32) (g i : Nat) (hg : g ≤ 9) (n : Nat) (hi : i < n) (hn : n ≤ 12) (w0 : fr_V) {Q : Option Value → fr_V → fr_U → Prop} (hk : ∀ z : fr_V, z = yr_i x3 g i w0 (yrN g) → z 1100 4 = nI n → J l mX11_years I z u 178 [(0, .ref 1100), (1, .int x1), (2, .int (nI g)), (3, .int x3), (4, .int (nI i))] [] Q) : ∀ (d s : Nat) (z : fr_V) (hd : yrN g - s < d) (hs : s ≤ yrN g) (hz : z = yr_i x3 g i w0 s) (hm : z 1100 4 = nI n), J l mX11_years I z u 42 [(0, .ref 1100), (1, .int x1), (2, .int (nI g)), (3, .int x3), (4, .int (nI i)), (5, .int (nI (10 * g + s)))] [] Q := by
  have hN : yrN g ≤ 40 := by unfold yrN; split <;> omega
  intro d
  induction d with
  | zero => intros; omega
  | succ d ih =>
    intro s z hd hs hz hm
    refine J_iload_n dX11_years_42 rfl 2 rfl ?_
    refine J_bipush (x := 9) dX11_years_43 (by decide) ?_
    refine J_icmp_ne (tgt := 59) dX11_years_45 (by decide) (fun c1 => ?_) (fun c1 => ?_)
    · refine J_iload dX11_years_59 5 rfl ?_
      refine J_bipush (x := 10) dX11_years_61 (by decide) ?_
      refine J_iload_n dX11_years_63 rfl 2 rfl ?_
      refine J_imul dX11_years_64 ?_
      refine J_bipush (x := 10) dX11_years_65 (by decide) ?_
      refine J_iadd dX11_years_67 ?_
      refine J_icmp_ge (tgt := 178) dX11_years_68 (by decide) (fun c2 => ?_) (fun c2 => ?_)
      · have e : s = yrN g := by have h9 : ¬ g = 9 := fun q => c1 (by rw [q]; rfl); have h1 : (10 : Int32) * nI g + 10 ≤ nI (10 * g + s) := c2; have h2 : nI (10 * g + 10) ≤ nI (10 * g + s) := by {rw [← nI_add, ← pk_mul]; exact h1}; have := nz_le (by omega) (by omega) h2; unfold yrN at hs ⊢; rw [if_neg h9] at hs ⊢; omega
        refine J_lv [0, 1, 2, 3, 4] rfl ?_
        rw [e] at hz
        rw [hz]
        exact hk _ rfl (hz ▸ hm)
      · have hsn : s < yrN g := by have h9 : ¬ g = 9 := fun q => c1 (by rw [q]; rfl); have h1 : ¬ (10 : Int32) * nI g + 10 ≤ nI (10 * g + s) := c2; have h2 : ¬ nI (10 * g + 10) ≤ nI (10 * g + s) := by {rw [← nI_add, ← pk_mul]; exact h1}; have := nz_nle (by omega) (by omega) h2; unfold yrN; rw [if_neg h9]; omega
        refine J_aload_n dX11_years_71 rfl 0 rfl ?_
        refine J_getr (ci := 11) (j := 5) (t := 1106) dX11_years_72 fl_X11_13 (i1100 hI) rfl rfl rfl ?_
        refine J_iload dX11_years_75 4 rfl ?_
        refine J_iale (x := z 1106 i) dX11_years_77 (i1106 hI) rfl (ix_in (j := i) rfl (by omega) (by omega)) ((congrArg _ (ix_cl (j := i) rfl (by omega))).trans rfl) ?_
        refine J_iconst (x := 2) dX11_years_78 (by decide) ?_
        refine J_iload dX11_years_79 5 rfl ?_
        refine J_imul dX11_years_81 ?_
        refine J_iadd dX11_years_82 ?_
        refine J_istore (lv' := [(6, .int ((z 1106 i) + (2 * (nI (10 * g + s))))), (0, .ref 1100), (1, .int x1), (2, .int (nI g)), (3, .int x3), (4, .int (nI i)), (5, .int (nI (10 * g + s)))]) dX11_years_83 (by decide) rfl ?_
        refine J_iload dX11_years_85 0 rfl ?_
        refine J_if_lt (tgt := 172) dX11_years_87 (by decide) (fun c3 => ?_) (fun c3 => ?_)
        · refine J_iinc (q := 6) (z := nI ((10 * g + s) + 1)) (lv' := [(5, .int (nI ((10 * g + s) + 1))), (6, .int ((z 1106 i) + (2 * (nI (10 * g + s))))), (0, .ref 1100), (1, .int x1), (2, .int (nI g)), (3, .int x3), (4, .int (nI i))]) dX11_years_172 rfl (nI_1 (10 * g + s)) (by decide) rfl ?_
          refine J_goto (tgt := 42) dX11_years_175 (by decide) ?_
          refine J_lv [2, 3, 4, 5, 6, 0] rfl ?_
          exact ih (s + 1) _ (by omega) (by omega) (by rw [yr_i_s, ← hz]; unfold yr_i_t; rw [if_pos c3]) hm
        · refine J_iload dX11_years_90 0 rfl ?_
          refine J_iload_n dX11_years_92 rfl 4 rfl ?_
          refine J_icmp_gt (tgt := 172) dX11_years_93 (by decide) (fun c4 => ?_) (fun c4 => ?_)
          · refine J_iinc (q := 6) (z := nI ((10 * g + s) + 1)) (lv' := [(5, .int (nI ((10 * g + s) + 1))), (6, .int ((z 1106 i) + (2 * (nI (10 * g + s))))), (0, .ref 1100), (1, .int x1), (2, .int (nI g)), (3, .int x3), (4, .int (nI i))]) dX11_years_172 rfl (nI_1 (10 * g + s)) (by decide) rfl ?_
            refine J_goto (tgt := 42) dX11_years_175 (by decide) ?_
            refine J_lv [2, 3, 4, 5, 6, 0] rfl ?_
            exact ih (s + 1) _ (by omega) (by omega) (by rw [yr_i_s, ← hz]; unfold yr_i_t; rw [if_neg c3, if_pos c4]) hm
          · refine J_aload_n dX11_years_96 rfl 1 rfl ?_
            refine J_getr (ci := 11) (j := 45) (t := 1146) dX11_years_97 fl_X11_96 (i1100 hI) rfl rfl rfl ?_
            refine J_iload dX11_years_100 5 rfl ?_
            refine J_iale (x := z 1146 i) dX11_years_102 (i1146 hI) rfl (ix_in (j := i) rfl (by omega) (by omega)) ((congrArg _ (ix_cl (j := i) rfl (by omega))).trans rfl) ?_
            refine J_iconst (x := (-1)) dX11_years_103 (by decide) ?_
            refine J_icmp_eq (tgt := 122) dX11_years_104 (by decide) (fun c5 => ?_) (fun c5 => ?_)
            · refine J_aload_n dX11_years_122 rfl 1 rfl ?_
              refine J_dup dX11_years_123 rfl ?_
              refine J_gete (ci := 11) (j := 49) (x := z 1100 49) dX11_years_124 fl_X11_286 (i1100 hI) rfl rfl rfl ?_
              refine J_iconst (x := 1) dX11_years_127 (by decide) ?_
              refine J_iadd dX11_years_128 ?_
              refine J_puti (ci := 11) (j := 49) dX11_years_129 fl_X11_286 (i1100 hI) rfl rfl (fun q h => by cases h; rfl) rfl ?_
              refine J_aload_n dX11_years_132 rfl 1 rfl ?_
              refine J_dup dX11_years_133 rfl ?_
              refine J_gete (ci := 11) (j := 50) (x := z 1100 50) dX11_years_134 fl_X11_289 (i1100 hI) rfl rfl rfl ?_
              refine J_aload_n dX11_years_137 rfl 1 rfl ?_
              refine J_getr (ci := 11) (j := 45) (t := 1146) dX11_years_138 fl_X11_96 (i1100 hI) rfl rfl rfl ?_
              refine J_iload dX11_years_141 5 rfl ?_
              refine J_iale (x := z 1146 i) dX11_years_143 (i1146 hI) rfl (ix_in (j := i) rfl (by omega) (by omega)) ((congrArg _ (ix_cl (j := i) rfl (by omega))).trans rfl) ?_
              refine J_iload dX11_years_144 0 rfl ?_
              refine J_icmp_eq (tgt := 163) dX11_years_146 (by decide) (fun c6 => ?_) (fun c6 => ?_)
              · refine J_iconst (x := 1) dX11_years_163 (by decide) ?_
                refine J_goto (tgt := 168) dX11_years_164 (by decide) ?_
                refine J_iadd dX11_years_168 ?_
                refine J_puti (ci := 11) (j := 50) dX11_years_169 fl_X11_289 (i1100 hI) rfl rfl (fun q h => by cases h; rfl) rfl ?_
                refine J_iinc (q := 6) (z := nI ((10 * g + s) + 1)) (lv' := [(5, .int (nI ((10 * g + s) + 1))), (6, .int ((z 1106 i) + (2 * (nI (10 * g + s))))), (0, .ref 1100), (1, .int x1), (2, .int (nI g)), (3, .int x3), (4, .int (nI i))]) dX11_years_172 rfl (nI_1 (10 * g + s)) (by decide) rfl ?_
                refine J_goto (tgt := 42) dX11_years_175 (by decide) ?_
                refine J_lv [2, 3, 4, 5, 6, 0] rfl ?_
                exact ih (s + 1) _ (by omega) (by omega) (by rw [yr_i_s, ← hz]; unfold yr_i_t; rw [if_neg c3, if_neg c4, if_pos c5, if_pos c6]) hm
              · refine J_aload_n dX11_years_149 rfl 1 rfl ?_
                refine J_getr (ci := 11) (j := 45) (t := 1146) dX11_years_150 fl_X11_96 (i1100 hI) rfl rfl rfl ?_
                refine J_iload dX11_years_153 5 rfl ?_
                refine J_iale (x := z 1146 i) dX11_years_155 (i1146 hI) rfl (ix_in (j := i) rfl (by omega) (by omega)) ((congrArg _ (ix_cl (j := i) rfl (by omega))).trans rfl) ?_
                refine J_iload dX11_years_156 0 rfl ?_
                refine J_iconst (x := 1) dX11_years_158 (by decide) ?_
                refine J_iadd dX11_years_159 ?_
                refine J_icmp_ne (tgt := 167) dX11_years_160 (by decide) (fun c7 => ?_) (fun c7 => ?_)
                · refine J_iconst (x := 0) dX11_years_167 (by decide) ?_
                  refine J_iadd dX11_years_168 ?_
                  refine J_puti (ci := 11) (j := 50) dX11_years_169 fl_X11_289 (i1100 hI) rfl rfl (fun q h => by cases h; rfl) rfl ?_
                  refine J_iinc (q := 6) (z := nI ((10 * g + s) + 1)) (lv' := [(5, .int (nI ((10 * g + s) + 1))), (6, .int ((z 1106 i) + (2 * (nI (10 * g + s))))), (0, .ref 1100), (1, .int x1), (2, .int (nI g)), (3, .int x3), (4, .int (nI i))]) dX11_years_172 rfl (nI_1 (10 * g + s)) (by decide) rfl ?_
                  refine J_goto (tgt := 42) dX11_years_175 (by decide) ?_
                  refine J_lv [2, 3, 4, 5, 6, 0] rfl ?_
                  exact ih (s + 1) _ (by omega) (by omega) (by rw [yr_i_s, ← hz]; unfold yr_i_t; rw [if_neg c3, if_neg c4, if_pos c5, if_neg c6, if_neg c7]) hm
                · refine J_iconst (x := 1) dX11_years_163 (by decide) ?_
                  refine J_goto (tgt := 168) dX11_years_164 (by decide) ?_
                  refine J_iadd dX11_years_168 ?_
                  refine J_puti (ci := 11) (j := 50) dX11_years_169 fl_X11_289 (i1100 hI) rfl rfl (fun q h => by cases h; rfl) rfl ?_
                  refine J_iinc (q := 6) (z := nI ((10 * g + s) + 1)) (lv' := [(5, .int (nI ((10 * g + s) + 1))), (6, .int ((z 1106 i) + (2 * (nI (10 * g + s))))), (0, .ref 1100), (1, .int x1), (2, .int (nI g)), (3, .int x3), (4, .int (nI i))]) dX11_years_172 rfl (nI_1 (10 * g + s)) (by decide) rfl ?_
                  refine J_goto (tgt := 42) dX11_years_175 (by decide) ?_
                  refine J_lv [2, 3, 4, 5, 6, 0] rfl ?_
                  exact ih (s + 1) _ (by omega) (by omega) (by rw [yr_i_s, ← hz]; unfold yr_i_t; rw [if_neg c3, if_neg c4, if_pos c5, if_neg c6, if_pos c7]) hm
            · refine J_iload dX11_years_107 0 rfl ?_
              refine J_aload_n dX11_years_109 rfl 1 rfl ?_
              refine J_getr (ci := 11) (j := 45) (t := 1146) dX11_years_110 fl_X11_96 (i1100 hI) rfl rfl rfl ?_
              refine J_iload dX11_years_113 5 rfl ?_
              refine J_iale (x := z 1146 i) dX11_years_115 (i1146 hI) rfl (ix_in (j := i) rfl (by omega) (by omega)) ((congrArg _ (ix_cl (j := i) rfl (by omega))).trans rfl) ?_
              refine J_icmp_le (tgt := 122) dX11_years_116 (by decide) (fun c8 => ?_) (fun c8 => ?_)
              · refine J_aload_n dX11_years_122 rfl 1 rfl ?_
                refine J_dup dX11_years_123 rfl ?_
                refine J_gete (ci := 11) (j := 49) (x := z 1100 49) dX11_years_124 fl_X11_286 (i1100 hI) rfl rfl rfl ?_
                refine J_iconst (x := 1) dX11_years_127 (by decide) ?_
                refine J_iadd dX11_years_128 ?_
                refine J_puti (ci := 11) (j := 49) dX11_years_129 fl_X11_286 (i1100 hI) rfl rfl (fun q h => by cases h; rfl) rfl ?_
                refine J_aload_n dX11_years_132 rfl 1 rfl ?_
                refine J_dup dX11_years_133 rfl ?_
                refine J_gete (ci := 11) (j := 50) (x := z 1100 50) dX11_years_134 fl_X11_289 (i1100 hI) rfl rfl rfl ?_
                refine J_aload_n dX11_years_137 rfl 1 rfl ?_
                refine J_getr (ci := 11) (j := 45) (t := 1146) dX11_years_138 fl_X11_96 (i1100 hI) rfl rfl rfl ?_
                refine J_iload dX11_years_141 5 rfl ?_
                refine J_iale (x := z 1146 i) dX11_years_143 (i1146 hI) rfl (ix_in (j := i) rfl (by omega) (by omega)) ((congrArg _ (ix_cl (j := i) rfl (by omega))).trans rfl) ?_
                refine J_iload dX11_years_144 0 rfl ?_
                refine J_icmp_eq (tgt := 163) dX11_years_146 (by decide) (fun c9 => ?_) (fun c9 => ?_)
                · refine J_iconst (x := 1) dX11_years_163 (by decide) ?_
                  refine J_goto (tgt := 168) dX11_years_164 (by decide) ?_
                  refine J_iadd dX11_years_168 ?_
                  refine J_puti (ci := 11) (j := 50) dX11_years_169 fl_X11_289 (i1100 hI) rfl rfl (fun q h => by cases h; rfl) rfl ?_
                  refine J_iinc (q := 6) (z := nI ((10 * g + s) + 1)) (lv' := [(5, .int (nI ((10 * g + s) + 1))), (6, .int ((z 1106 i) + (2 * (nI (10 * g + s))))), (0, .ref 1100), (1, .int x1), (2, .int (nI g)), (3, .int x3), (4, .int (nI i))]) dX11_years_172 rfl (nI_1 (10 * g + s)) (by decide) rfl ?_
                  refine J_goto (tgt := 42) dX11_years_175 (by decide) ?_
                  refine J_lv [2, 3, 4, 5, 6, 0] rfl ?_
                  exact ih (s + 1) _ (by omega) (by omega) (by rw [yr_i_s, ← hz]; unfold yr_i_t; rw [if_neg c3, if_neg c4, if_neg c5, if_pos c8, if_pos c9]) hm
                · refine J_aload_n dX11_years_149 rfl 1 rfl ?_
                  refine J_getr (ci := 11) (j := 45) (t := 1146) dX11_years_150 fl_X11_96 (i1100 hI) rfl rfl rfl ?_
                  refine J_iload dX11_years_153 5 rfl ?_
                  refine J_iale (x := z 1146 i) dX11_years_155 (i1146 hI) rfl (ix_in (j := i) rfl (by omega) (by omega)) ((congrArg _ (ix_cl (j := i) rfl (by omega))).trans rfl) ?_
                  refine J_iload dX11_years_156 0 rfl ?_
                  refine J_iconst (x := 1) dX11_years_158 (by decide) ?_
                  refine J_iadd dX11_years_159 ?_
                  refine J_icmp_ne (tgt := 167) dX11_years_160 (by decide) (fun c10 => ?_) (fun c10 => ?_)
                  · refine J_iconst (x := 0) dX11_years_167 (by decide) ?_
                    refine J_iadd dX11_years_168 ?_
                    refine J_puti (ci := 11) (j := 50) dX11_years_169 fl_X11_289 (i1100 hI) rfl rfl (fun q h => by cases h; rfl) rfl ?_
                    refine J_iinc (q := 6) (z := nI ((10 * g + s) + 1)) (lv' := [(5, .int (nI ((10 * g + s) + 1))), (6, .int ((z 1106 i) + (2 * (nI (10 * g + s))))), (0, .ref 1100), (1, .int x1), (2, .int (nI g)), (3, .int x3), (4, .int (nI i))]) dX11_years_172 rfl (nI_1 (10 * g + s)) (by decide) rfl ?_
                    refine J_goto (tgt := 42) dX11_years_175 (by decide) ?_
                    refine J_lv [2, 3, 4, 5, 6, 0] rfl ?_
                    exact ih (s + 1) _ (by omega) (by omega) (by rw [yr_i_s, ← hz]; unfold yr_i_t; rw [if_neg c3, if_neg c4, if_neg c5, if_pos c8, if_neg c9, if_neg c10]) hm
                  · refine J_iconst (x := 1) dX11_years_163 (by decide) ?_
                    refine J_goto (tgt := 168) dX11_years_164 (by decide) ?_
                    refine J_iadd dX11_years_168 ?_
                    refine J_puti (ci := 11) (j := 50) dX11_years_169 fl_X11_289 (i1100 hI) rfl rfl (fun q h => by cases h; rfl) rfl ?_
                    refine J_iinc (q := 6) (z := nI ((10 * g + s) + 1)) (lv' := [(5, .int (nI ((10 * g + s) + 1))), (6, .int ((z 1106 i) + (2 * (nI (10 * g + s))))), (0, .ref 1100), (1, .int x1), (2, .int (nI g)), (3, .int x3), (4, .int (nI i))]) dX11_years_172 rfl (nI_1 (10 * g + s)) (by decide) rfl ?_
                    refine J_goto (tgt := 42) dX11_years_175 (by decide) ?_
                    refine J_lv [2, 3, 4, 5, 6, 0] rfl ?_
                    exact ih (s + 1) _ (by omega) (by omega) (by rw [yr_i_s, ← hz]; unfold yr_i_t; rw [if_neg c3, if_neg c4, if_neg c5, if_pos c8, if_neg c9, if_pos c10]) hm
              · refine J_goto (tgt := 172) dX11_years_119 (by decide) ?_
                refine J_iinc (q := 6) (z := nI ((10 * g + s) + 1)) (lv' := [(5, .int (nI ((10 * g + s) + 1))), (6, .int ((z 1106 i) + (2 * (nI (10 * g + s))))), (0, .ref 1100), (1, .int x1), (2, .int (nI g)), (3, .int x3), (4, .int (nI i))]) dX11_years_172 rfl (nI_1 (10 * g + s)) (by decide) rfl ?_
                refine J_goto (tgt := 42) dX11_years_175 (by decide) ?_
                refine J_lv [2, 3, 4, 5, 6, 0] rfl ?_
                exact ih (s + 1) _ (by omega) (by omega) (by rw [yr_i_s, ← hz]; unfold yr_i_t; rw [if_neg c3, if_neg c4, if_neg c5, if_neg c8]) hm
    · refine J_iload dX11_years_48 5 rfl ?_
      refine J_sipush (x := 130) dX11_years_50 (by decide) ?_
      refine J_icmp_ge (tgt := 178) dX11_years_53 (by decide) (fun c11 => ?_) (fun c11 => ?_)
      · have e : s = yrN g := by have h9 : g = 9 := (nI_eq (by omega) (by omega)).mp c1; subst h9; have := nz_le (a := 130) (by omega) (by omega) c11; unfold yrN at hs ⊢; rw [if_pos rfl] at hs ⊢; omega
        refine J_lv [0, 1, 2, 3, 4] rfl ?_
        rw [e] at hz
        rw [hz]
        exact hk _ rfl (hz ▸ hm)
      · refine J_goto (tgt := 71) dX11_years_56 (by decide) ?_
        have hsn : s < yrN g := by have h9 : g = 9 := (nI_eq (by omega) (by omega)).mp c1; subst h9; have := nz_nle (a := 130) (by omega) (by omega) c11; unfold yrN; rw [if_pos rfl]; omega
        refine J_aload_n dX11_years_71 rfl 0 rfl ?_
        refine J_getr (ci := 11) (j := 5) (t := 1106) dX11_years_72 fl_X11_13 (i1100 hI) rfl rfl rfl ?_
        refine J_iload dX11_years_75 4 rfl ?_
        refine J_iale (x := z 1106 i) dX11_years_77 (i1106 hI) rfl (ix_in (j := i) rfl (by omega) (by omega)) ((congrArg _ (ix_cl (j := i) rfl (by omega))).trans rfl) ?_
        refine J_iconst (x := 2) dX11_years_78 (by decide) ?_
        refine J_iload dX11_years_79 5 rfl ?_
        refine J_imul dX11_years_81 ?_
        refine J_iadd dX11_years_82 ?_
        refine J_istore (lv' := [(6, .int ((z 1106 i) + (2 * (nI (10 * g + s))))), (0, .ref 1100), (1, .int x1), (2, .int (nI g)), (3, .int x3), (4, .int (nI i)), (5, .int (nI (10 * g + s)))]) dX11_years_83 (by decide) rfl ?_
        refine J_iload dX11_years_85 0 rfl ?_
        refine J_if_lt (tgt := 172) dX11_years_87 (by decide) (fun c12 => ?_) (fun c12 => ?_)
        · refine J_iinc (q := 6) (z := nI ((10 * g + s) + 1)) (lv' := [(5, .int (nI ((10 * g + s) + 1))), (6, .int ((z 1106 i) + (2 * (nI (10 * g + s))))), (0, .ref 1100), (1, .int x1), (2, .int (nI g)), (3, .int x3), (4, .int (nI i))]) dX11_years_172 rfl (nI_1 (10 * g + s)) (by decide) rfl ?_
          refine J_goto (tgt := 42) dX11_years_175 (by decide) ?_
          refine J_lv [2, 3, 4, 5, 6, 0] rfl ?_
          exact ih (s + 1) _ (by omega) (by omega) (by rw [yr_i_s, ← hz]; unfold yr_i_t; rw [if_pos c12]) hm
        · refine J_iload dX11_years_90 0 rfl ?_
          refine J_iload_n dX11_years_92 rfl 4 rfl ?_
          refine J_icmp_gt (tgt := 172) dX11_years_93 (by decide) (fun c13 => ?_) (fun c13 => ?_)
          · refine J_iinc (q := 6) (z := nI ((10 * g + s) + 1)) (lv' := [(5, .int (nI ((10 * g + s) + 1))), (6, .int ((z 1106 i) + (2 * (nI (10 * g + s))))), (0, .ref 1100), (1, .int x1), (2, .int (nI g)), (3, .int x3), (4, .int (nI i))]) dX11_years_172 rfl (nI_1 (10 * g + s)) (by decide) rfl ?_
            refine J_goto (tgt := 42) dX11_years_175 (by decide) ?_
            refine J_lv [2, 3, 4, 5, 6, 0] rfl ?_
            exact ih (s + 1) _ (by omega) (by omega) (by rw [yr_i_s, ← hz]; unfold yr_i_t; rw [if_neg c12, if_pos c13]) hm
          · refine J_aload_n dX11_years_96 rfl 1 rfl ?_
            refine J_getr (ci := 11) (j := 45) (t := 1146) dX11_years_97 fl_X11_96 (i1100 hI) rfl rfl rfl ?_
            refine J_iload dX11_years_100 5 rfl ?_
            refine J_iale (x := z 1146 i) dX11_years_102 (i1146 hI) rfl (ix_in (j := i) rfl (by omega) (by omega)) ((congrArg _ (ix_cl (j := i) rfl (by omega))).trans rfl) ?_
            refine J_iconst (x := (-1)) dX11_years_103 (by decide) ?_
            refine J_icmp_eq (tgt := 122) dX11_years_104 (by decide) (fun c14 => ?_) (fun c14 => ?_)
            · refine J_aload_n dX11_years_122 rfl 1 rfl ?_
              refine J_dup dX11_years_123 rfl ?_
              refine J_gete (ci := 11) (j := 49) (x := z 1100 49) dX11_years_124 fl_X11_286 (i1100 hI) rfl rfl rfl ?_
              refine J_iconst (x := 1) dX11_years_127 (by decide) ?_
              refine J_iadd dX11_years_128 ?_
              refine J_puti (ci := 11) (j := 49) dX11_years_129 fl_X11_286 (i1100 hI) rfl rfl (fun q h => by cases h; rfl) rfl ?_
              refine J_aload_n dX11_years_132 rfl 1 rfl ?_
              refine J_dup dX11_years_133 rfl ?_
              refine J_gete (ci := 11) (j := 50) (x := z 1100 50) dX11_years_134 fl_X11_289 (i1100 hI) rfl rfl rfl ?_
              refine J_aload_n dX11_years_137 rfl 1 rfl ?_
              refine J_getr (ci := 11) (j := 45) (t := 1146) dX11_years_138 fl_X11_96 (i1100 hI) rfl rfl rfl ?_
              refine J_iload dX11_years_141 5 rfl ?_
              refine J_iale (x := z 1146 i) dX11_years_143 (i1146 hI) rfl (ix_in (j := i) rfl (by omega) (by omega)) ((congrArg _ (ix_cl (j := i) rfl (by omega))).trans rfl) ?_
              refine J_iload dX11_years_144 0 rfl ?_
              refine J_icmp_eq (tgt := 163) dX11_years_146 (by decide) (fun c15 => ?_) (fun c15 => ?_)
              · refine J_iconst (x := 1) dX11_years_163 (by decide) ?_
                refine J_goto (tgt := 168) dX11_years_164 (by decide) ?_
                refine J_iadd dX11_years_168 ?_
                refine J_puti (ci := 11) (j := 50) dX11_years_169 fl_X11_289 (i1100 hI) rfl rfl (fun q h => by cases h; rfl) rfl ?_
                refine J_iinc (q := 6) (z := nI ((10 * g + s) + 1)) (lv' := [(5, .int (nI ((10 * g + s) + 1))), (6, .int ((z 1106 i) + (2 * (nI (10 * g + s))))), (0, .ref 1100), (1, .int x1), (2, .int (nI g)), (3, .int x3), (4, .int (nI i))]) dX11_years_172 rfl (nI_1 (10 * g + s)) (by decide) rfl ?_
                refine J_goto (tgt := 42) dX11_years_175 (by decide) ?_
                refine J_lv [2, 3, 4, 5, 6, 0] rfl ?_
                exact ih (s + 1) _ (by omega) (by omega) (by rw [yr_i_s, ← hz]; unfold yr_i_t; rw [if_neg c12, if_neg c13, if_pos c14, if_pos c15]) hm
              · refine J_aload_n dX11_years_149 rfl 1 rfl ?_
                refine J_getr (ci := 11) (j := 45) (t := 1146) dX11_years_150 fl_X11_96 (i1100 hI) rfl rfl rfl ?_
                refine J_iload dX11_years_153 5 rfl ?_
                refine J_iale (x := z 1146 i) dX11_years_155 (i1146 hI) rfl (ix_in (j := i) rfl (by omega) (by omega)) ((congrArg _ (ix_cl (j := i) rfl (by omega))).trans rfl) ?_
                refine J_iload dX11_years_156 0 rfl ?_
                refine J_iconst (x := 1) dX11_years_158 (by decide) ?_
                refine J_iadd dX11_years_159 ?_
                refine J_icmp_ne (tgt := 167) dX11_years_160 (by decide) (fun c16 => ?_) (fun c16 => ?_)
                · refine J_iconst (x := 0) dX11_years_167 (by decide) ?_
                  refine J_iadd dX11_years_168 ?_
                  refine J_puti (ci := 11) (j := 50) dX11_years_169 fl_X11_289 (i1100 hI) rfl rfl (fun q h => by cases h; rfl) rfl ?_
                  refine J_iinc (q := 6) (z := nI ((10 * g + s) + 1)) (lv' := [(5, .int (nI ((10 * g + s) + 1))), (6, .int ((z 1106 i) + (2 * (nI (10 * g + s))))), (0, .ref 1100), (1, .int x1), (2, .int (nI g)), (3, .int x3), (4, .int (nI i))]) dX11_years_172 rfl (nI_1 (10 * g + s)) (by decide) rfl ?_
                  refine J_goto (tgt := 42) dX11_years_175 (by decide) ?_
                  refine J_lv [2, 3, 4, 5, 6, 0] rfl ?_
                  exact ih (s + 1) _ (by omega) (by omega) (by rw [yr_i_s, ← hz]; unfold yr_i_t; rw [if_neg c12, if_neg c13, if_pos c14, if_neg c15, if_neg c16]) hm
                · refine J_iconst (x := 1) dX11_years_163 (by decide) ?_
                  refine J_goto (tgt := 168) dX11_years_164 (by decide) ?_
                  refine J_iadd dX11_years_168 ?_
                  refine J_puti (ci := 11) (j := 50) dX11_years_169 fl_X11_289 (i1100 hI) rfl rfl (fun q h => by cases h; rfl) rfl ?_
                  refine J_iinc (q := 6) (z := nI ((10 * g + s) + 1)) (lv' := [(5, .int (nI ((10 * g + s) + 1))), (6, .int ((z 1106 i) + (2 * (nI (10 * g + s))))), (0, .ref 1100), (1, .int x1), (2, .int (nI g)), (3, .int x3), (4, .int (nI i))]) dX11_years_172 rfl (nI_1 (10 * g + s)) (by decide) rfl ?_
                  refine J_goto (tgt := 42) dX11_years_175 (by decide) ?_
                  refine J_lv [2, 3, 4, 5, 6, 0] rfl ?_
                  exact ih (s + 1) _ (by omega) (by omega) (by rw [yr_i_s, ← hz]; unfold yr_i_t; rw [if_neg c12, if_neg c13, if_pos c14, if_neg c15, if_pos c16]) hm
            · refine J_iload dX11_years_107 0 rfl ?_
              refine J_aload_n dX11_years_109 rfl 1 rfl ?_
              refine J_getr (ci := 11) (j := 45) (t := 1146) dX11_years_110 fl_X11_96 (i1100 hI) rfl rfl rfl ?_
              refine J_iload dX11_years_113 5 rfl ?_
              refine J_iale (x := z 1146 i) dX11_years_115 (i1146 hI) rfl (ix_in (j := i) rfl (by omega) (by omega)) ((congrArg _ (ix_cl (j := i) rfl (by omega))).trans rfl) ?_
              refine J_icmp_le (tgt := 122) dX11_years_116 (by decide) (fun c17 => ?_) (fun c17 => ?_)
              · refine J_aload_n dX11_years_122 rfl 1 rfl ?_
                refine J_dup dX11_years_123 rfl ?_
                refine J_gete (ci := 11) (j := 49) (x := z 1100 49) dX11_years_124 fl_X11_286 (i1100 hI) rfl rfl rfl ?_
                refine J_iconst (x := 1) dX11_years_127 (by decide) ?_
                refine J_iadd dX11_years_128 ?_
                refine J_puti (ci := 11) (j := 49) dX11_years_129 fl_X11_286 (i1100 hI) rfl rfl (fun q h => by cases h; rfl) rfl ?_
                refine J_aload_n dX11_years_132 rfl 1 rfl ?_
                refine J_dup dX11_years_133 rfl ?_
                refine J_gete (ci := 11) (j := 50) (x := z 1100 50) dX11_years_134 fl_X11_289 (i1100 hI) rfl rfl rfl ?_
                refine J_aload_n dX11_years_137 rfl 1 rfl ?_
                refine J_getr (ci := 11) (j := 45) (t := 1146) dX11_years_138 fl_X11_96 (i1100 hI) rfl rfl rfl ?_
                refine J_iload dX11_years_141 5 rfl ?_
                refine J_iale (x := z 1146 i) dX11_years_143 (i1146 hI) rfl (ix_in (j := i) rfl (by omega) (by omega)) ((congrArg _ (ix_cl (j := i) rfl (by omega))).trans rfl) ?_
                refine J_iload dX11_years_144 0 rfl ?_
                refine J_icmp_eq (tgt := 163) dX11_years_146 (by decide) (fun c18 => ?_) (fun c18 => ?_)
                · refine J_iconst (x := 1) dX11_years_163 (by decide) ?_
                  refine J_goto (tgt := 168) dX11_years_164 (by decide) ?_
                  refine J_iadd dX11_years_168 ?_
                  refine J_puti (ci := 11) (j := 50) dX11_years_169 fl_X11_289 (i1100 hI) rfl rfl (fun q h => by cases h; rfl) rfl ?_
                  refine J_iinc (q := 6) (z := nI ((10 * g + s) + 1)) (lv' := [(5, .int (nI ((10 * g + s) + 1))), (6, .int ((z 1106 i) + (2 * (nI (10 * g + s))))), (0, .ref 1100), (1, .int x1), (2, .int (nI g)), (3, .int x3), (4, .int (nI i))]) dX11_years_172 rfl (nI_1 (10 * g + s)) (by decide) rfl ?_
                  refine J_goto (tgt := 42) dX11_years_175 (by decide) ?_
                  refine J_lv [2, 3, 4, 5, 6, 0] rfl ?_
                  exact ih (s + 1) _ (by omega) (by omega) (by rw [yr_i_s, ← hz]; unfold yr_i_t; rw [if_neg c12, if_neg c13, if_neg c14, if_pos c17, if_pos c18]) hm
                · refine J_aload_n dX11_years_149 rfl 1 rfl ?_
                  refine J_getr (ci := 11) (j := 45) (t := 1146) dX11_years_150 fl_X11_96 (i1100 hI) rfl rfl rfl ?_
                  refine J_iload dX11_years_153 5 rfl ?_
                  refine J_iale (x := z 1146 i) dX11_years_155 (i1146 hI) rfl (ix_in (j := i) rfl (by omega) (by omega)) ((congrArg _ (ix_cl (j := i) rfl (by omega))).trans rfl) ?_
                  refine J_iload dX11_years_156 0 rfl ?_
                  refine J_iconst (x := 1) dX11_years_158 (by decide) ?_
                  refine J_iadd dX11_years_159 ?_
                  refine J_icmp_ne (tgt := 167) dX11_years_160 (by decide) (fun c19 => ?_) (fun c19 => ?_)
                  · refine J_iconst (x := 0) dX11_years_167 (by decide) ?_
                    refine J_iadd dX11_years_168 ?_
                    refine J_puti (ci := 11) (j := 50) dX11_years_169 fl_X11_289 (i1100 hI) rfl rfl (fun q h => by cases h; rfl) rfl ?_
                    refine J_iinc (q := 6) (z := nI ((10 * g + s) + 1)) (lv' := [(5, .int (nI ((10 * g + s) + 1))), (6, .int ((z 1106 i) + (2 * (nI (10 * g + s))))), (0, .ref 1100), (1, .int x1), (2, .int (nI g)), (3, .int x3), (4, .int (nI i))]) dX11_years_172 rfl (nI_1 (10 * g + s)) (by decide) rfl ?_
                    refine J_goto (tgt := 42) dX11_years_175 (by decide) ?_
                    refine J_lv [2, 3, 4, 5, 6, 0] rfl ?_
                    exact ih (s + 1) _ (by omega) (by omega) (by rw [yr_i_s, ← hz]; unfold yr_i_t; rw [if_neg c12, if_neg c13, if_neg c14, if_pos c17, if_neg c18, if_neg c19]) hm
                  · refine J_iconst (x := 1) dX11_years_163 (by decide) ?_
                    refine J_goto (tgt := 168) dX11_years_164 (by decide) ?_
                    refine J_iadd dX11_years_168 ?_
                    refine J_puti (ci := 11) (j := 50) dX11_years_169 fl_X11_289 (i1100 hI) rfl rfl (fun q h => by cases h; rfl) rfl ?_
                    refine J_iinc (q := 6) (z := nI ((10 * g + s) + 1)) (lv' := [(5, .int (nI ((10 * g + s) + 1))), (6, .int ((z 1106 i) + (2 * (nI (10 * g + s))))), (0, .ref 1100), (1, .int x1), (2, .int (nI g)), (3, .int x3), (4, .int (nI i))]) dX11_years_172 rfl (nI_1 (10 * g + s)) (by decide) rfl ?_
                    refine J_goto (tgt := 42) dX11_years_175 (by decide) ?_
                    refine J_lv [2, 3, 4, 5, 6, 0] rfl ?_
                    exact ih (s + 1) _ (by omega) (by omega) (by rw [yr_i_s, ← hz]; unfold yr_i_t; rw [if_neg c12, if_neg c13, if_neg c14, if_pos c17, if_neg c18, if_pos c19]) hm
              · refine J_goto (tgt := 172) dX11_years_119 (by decide) ?_
                refine J_iinc (q := 6) (z := nI ((10 * g + s) + 1)) (lv' := [(5, .int (nI ((10 * g + s) + 1))), (6, .int ((z 1106 i) + (2 * (nI (10 * g + s))))), (0, .ref 1100), (1, .int x1), (2, .int (nI g)), (3, .int x3), (4, .int (nI i))]) dX11_years_172 rfl (nI_1 (10 * g + s)) (by decide) rfl ?_
                refine J_goto (tgt := 42) dX11_years_175 (by decide) ?_
                refine J_lv [2, 3, 4, 5, 6, 0] rfl ?_
                exact ih (s + 1) _ (by omega) (by omega) (by rw [yr_i_s, ← hz]; unfold yr_i_t; rw [if_neg c12, if_neg c13, if_neg c14, if_neg c17]) hm
def yr_o_t (x1 x3 : Int32) (g i : Nat) (z : fr_V) : fr_V := if z 1107 i = x1 then yr_i x3 g i z (yrN g) else z
def yr_o (x1 x3 : Int32) (g : Nat) (w0 : fr_V) : Nat → fr_V
  | 0 => w0
  | i + 1 => yr_o_t x1 x3 g i (yr_o x1 x3 g w0 i)
theorem yr_o_s (x1 x3 : Int32) (g : Nat) (w0 : fr_V) (i : Nat) : yr_o x1 x3 g w0 (i + 1) = yr_o_t x1 x3 g i (yr_o x1 x3 g w0 i) := rfl
theorem yr_o_L {l : Launch} {I : List Nat} (hI : fr_I I) (u : fr_U) (x1 x3 : Int32) (g : Nat) (hg : g ≤ 9) (n : Nat) (hn : n ≤ 12) (w0 : fr_V) : ∀ (d i : Nat) (z : fr_V) (hd : n - i < d) (hi : i ≤ n) (hz : z = yr_o x1 x3 g w0 i) (hm : z 1100 4 = nI n), J l mX11_years I z u 13 [(0, .ref 1100), (1, .int x1), (2, .int (nI g)), (3, .int x3), (4, .int (nI i))] [] (QN u (fun a => a = yr_o x1 x3 g w0 n)) := by
  intro d
  induction d with
  | zero => intros; omega
  | succ d ih =>
    intro i z hd hi hz hm
    refine J_iload dX11_years_13 4 rfl ?_
    refine J_aload_n dX11_years_15 rfl 0 rfl ?_
    refine J_gete (ci := 11) (j := 4) (x := nI n) dX11_years_16 fl_X11_211 (i1100 hI) rfl rfl hm ?_
    refine J_icmp_ge (tgt := 184) dX11_years_19 (by decide) (fun c1 => ?_) (fun c1 => ?_)
    · exact J_vret dX11_years_184 rfl ⟨rfl, rfl, by have e : i = n := by {have := nz_le (by omega) (by omega) c1; omega}; rw [hz, e]⟩
    · have hin : i < n := nz_nle (by omega) (by omega) c1
      refine J_aload_n dX11_years_22 rfl 0 rfl ?_
      refine J_getr (ci := 11) (j := 6) (t := 1107) dX11_years_23 fl_X11_16 (i1100 hI) rfl rfl rfl ?_
      refine J_iload dX11_years_26 4 rfl ?_
      refine J_iale (x := z 1107 i) dX11_years_28 (i1107 hI) rfl (ix_in (j := i) rfl (by omega) (by omega)) ((congrArg _ (ix_cl (j := i) rfl (by omega))).trans rfl) ?_
      refine J_iload_n dX11_years_29 rfl 1 rfl ?_
      refine J_icmp_eq (tgt := 36) dX11_years_30 (by decide) (fun c2 => ?_) (fun c2 => ?_)
      · refine J_bipush (x := 10) dX11_years_36 (by decide) ?_
        refine J_iload_n dX11_years_38 rfl 2 rfl ?_
        refine J_imul dX11_years_39 ?_
        refine J_istore (lv' := [(5, .int (10 * (nI g))), (0, .ref 1100), (1, .int x1), (2, .int (nI g)), (3, .int x3), (4, .int (nI i))]) dX11_years_40 (by decide) rfl ?_
        refine J_lv [1, 2, 3, 4, 5, 0] rfl ?_
        rw [show (10 : Int32) * nI g = nI (10 * g + 0) from pk_mul 10 g]
        refine yr_i_L hI u x1 x3 g i hg n hin hn z (fun z2 hz2 hm2 => ?_) (yrN g + 1) 0 _ (by omega) (by omega) rfl hm
        refine J_iinc (q := 4) (z := nI (i + 1)) (lv' := [(4, .int (nI (i + 1))), (0, .ref 1100), (1, .int x1), (2, .int (nI g)), (3, .int x3)]) dX11_years_178 rfl (nI_1 i) (by decide) rfl ?_
        refine J_goto (tgt := 13) dX11_years_181 (by decide) ?_
        refine J_lv [1, 2, 3, 4, 0] rfl ?_
        exact ih (i + 1) _ (by omega) (by omega) (by rw [yr_o_s, ← hz]; unfold yr_o_t; rw [if_pos c2]; exact hz2) hm2
      · refine J_goto (tgt := 178) dX11_years_33 (by decide) ?_
        refine J_iinc (q := 4) (z := nI (i + 1)) (lv' := [(4, .int (nI (i + 1))), (0, .ref 1100), (1, .int x1), (2, .int (nI g)), (3, .int x3)]) dX11_years_178 rfl (nI_1 i) (by decide) rfl ?_
        refine J_goto (tgt := 13) dX11_years_181 (by decide) ?_
        refine J_lv [1, 2, 3, 4, 0] rfl ?_
        exact ih (i + 1) _ (by omega) (by omega) (by rw [yr_o_s, ← hz]; unfold yr_o_t; rw [if_neg c2]) hm
def f_years (v : fr_V) (n g : Nat) (x1 x3 : Int32) : fr_V := yr_o x1 x3 g (up2 (up2 v 1100 49 0) 1100 50 0) n
theorem k_X11_years {l : Launch} {I : List Nat} (hI : fr_I I) (v : fr_V) (u : fr_U) (n g : Nat) (hn : n ≤ 12) (hg : g ≤ 9) (hm : v 1100 4 = nI n) (x1 x3 : Int32) : Con l mX11_years I v u [.ref 1100, .int x1, .int (nI g), .int x3] (QN u (fun a => a = f_years v n g x1 x3)) := by
  refine Con.of (by decide) (Nat.le_of_ble_eq_true rfl) ?_
  show J l mX11_years I v u 0 [(0, .ref 1100), (1, .int x1), (2, .int (nI g)), (3, .int x3)] [] _
  refine J_aload_n dX11_years_0 rfl 0 rfl ?_
  refine J_iconst (x := 0) dX11_years_1 (by decide) ?_
  refine J_puti (ci := 11) (j := 49) dX11_years_2 fl_X11_286 (i1100 hI) rfl rfl (fun q h => by cases h; rfl) rfl ?_
  refine J_aload_n dX11_years_5 rfl 0 rfl ?_
  refine J_iconst (x := 0) dX11_years_6 (by decide) ?_
  refine J_puti (ci := 11) (j := 50) dX11_years_7 fl_X11_289 (i1100 hI) rfl rfl (fun q h => by cases h; rfl) rfl ?_
  refine J_iconst (x := 0) dX11_years_10 (by decide) ?_
  refine J_istore (lv' := [(4, .int 0), (0, .ref 1100), (1, .int x1), (2, .int (nI g)), (3, .int x3)]) dX11_years_11 (by decide) rfl ?_
  refine J_lv [1, 2, 3, 4, 0] rfl ?_
  exact yr_o_L hI u x1 x3 g hg n hn (up2 (up2 v 1100 49 0) 1100 50 0) (n + 1) 0 _ (by omega) (by omega) rfl hm
def sp_bo (Y : Int32 → Int32 → Int32) (f g : Nat → Int32) : Nat → Int32 → Int32
  | 0, w => w
  | s + 1, w => sp_bo Y f g s (Y w (f s * g s / 1000))
theorem sp_bo_s (Y : Int32 → Int32 → Int32) (f g : Nat → Int32) (s : Nat) (w : Int32) : sp_bo Y f g (s + 1) w = sp_bo Y f g s (Y w (f s * g s / 1000)) := rfl
theorem bo_L {l : Launch} {I : List Nat} (hI : fr_I I) (v : fr_V) (u : fr_U) (x1 x2 : Int32) (h1 : vp_in x1 12) (h2 : vp_in x2 12) (i1 i2 : Nat) (hi1 : i1 ≤ 3) (hi2 : i2 ≤ 3) (hc1 : v 1107 x1.toNatClampNeg = nI i1) (hc2 : v 1107 x2.toNatClampNeg = nI i2) (hr : ¬ v 1141 2 + 1 = 0) (P Q0 : Nat) (hP : P < 1000) (hQ : Q0 < 1000) : ∀ (t : Nat) (w : Int32) (ht : t ≤ 100), J l mX11_bothOf I v u 41 [(0, .ref 1100), (1, .int x1), (2, .int x2), (3, .int (nI P)), (4, .int (nI Q0)), (5, .int w), (6, .int (nI t - 1))] [] (QI v u (fun a => a = sp_bo (f_X11_yearBack v) (fun t => f_X11_liveOf v x1 (nI P + nI t)) (fun t => f_X11_liveOf v x2 (nI Q0 + nI t)) t w)) := by
  intro t
  induction t with
  | zero =>
    intro w ht
    refine J_iload dX11_bothOf_41 6 rfl ?_
    refine J_if_lt (tgt := 84) dX11_bothOf_43 (by decide) (fun c1 => ?_) (fun c1 => absurd dn_0 c1)
    refine J_iload dX11_bothOf_84 5 rfl ?_
    exact J_iret dX11_bothOf_86 rfl ⟨_, rfl, rfl, rfl, rfl⟩
  | succ s ih =>
    intro w ht
    rw [nI_pred]
    refine J_iload dX11_bothOf_41 6 rfl ?_
    refine J_if_lt (tgt := 84) dX11_bothOf_43 (by decide) (fun c1 => absurd c1 (nI_pos (by omega))) (fun c1 => ?_)
    refine J_aload_n dX11_bothOf_46 rfl 0 rfl ?_
    refine J_iload dX11_bothOf_47 5 rfl ?_
    refine J_aload_n dX11_bothOf_49 rfl 0 rfl ?_
    refine J_iload_n dX11_bothOf_50 rfl 1 rfl ?_
    refine J_iload_n dX11_bothOf_51 rfl 3 rfl ?_
    refine J_iload dX11_bothOf_52 6 rfl ?_
    refine J_iadd dX11_bothOf_54 ?_
    refine J_eVI (z := mX11_liveOf) (As := [.int x1, .int ((nI P) + (nI s))]) (rest := [.int w, .ref 1100]) (ci := 11) (x := f_X11_liveOf v  x1 ((nI P) + (nI s))) dX11_bothOf_55 ml_X11_302 ok_X11_liveOf iv_X11_liveOf (by decide) (i1100 hI) rfl rfl rfl rfl (Nat.le_of_ble_eq_true rfl) (k_X11_liveOf hI v u _ _ h1 (lo_in (v := v) hi1 hc1 (grp_in (s := P + s) (by omega) (nI_add P s)))) ?_
    refine J_aload_n dX11_bothOf_58 rfl 0 rfl ?_
    refine J_iload_n dX11_bothOf_59 rfl 2 rfl ?_
    refine J_iload dX11_bothOf_60 4 rfl ?_
    refine J_iload dX11_bothOf_62 6 rfl ?_
    refine J_iadd dX11_bothOf_64 ?_
    refine J_eVI (z := mX11_liveOf) (As := [.int x2, .int ((nI Q0) + (nI s))]) (rest := [.int (f_X11_liveOf v  x1 ((nI P) + (nI s))), .int w, .ref 1100]) (ci := 11) (x := f_X11_liveOf v  x2 ((nI Q0) + (nI s))) dX11_bothOf_65 ml_X11_302 ok_X11_liveOf iv_X11_liveOf (by decide) (i1100 hI) rfl rfl rfl rfl (Nat.le_of_ble_eq_true rfl) (k_X11_liveOf hI v u _ _ h2 (lo_in (v := v) hi2 hc2 (grp_in (s := Q0 + s) (by omega) (nI_add Q0 s)))) ?_
    refine J_imul dX11_bothOf_68 ?_
    refine J_sipush (x := 1000) dX11_bothOf_69 (by decide) ?_
    refine J_idiv dX11_bothOf_72 (by decide) ?_
    refine J_eVI (z := mX11_yearBack) (As := [.int w, .int (((f_X11_liveOf v  x1 ((nI P) + (nI s))) * (f_X11_liveOf v  x2 ((nI Q0) + (nI s)))) / 1000)]) (rest := []) (ci := 11) (x := f_X11_yearBack v  w (((f_X11_liveOf v  x1 ((nI P) + (nI s))) * (f_X11_liveOf v  x2 ((nI Q0) + (nI s)))) / 1000)) dX11_bothOf_73 ml_X11_305 ok_X11_yearBack iv_X11_yearBack (by decide) (i1100 hI) rfl rfl rfl rfl (Nat.le_of_ble_eq_true rfl) (k_X11_yearBack hI v u _ _ hr) ?_
    refine J_istore (lv' := [(5, .int (f_X11_yearBack v  w (((f_X11_liveOf v  x1 ((nI P) + (nI s))) * (f_X11_liveOf v  x2 ((nI Q0) + (nI s)))) / 1000))), (0, .ref 1100), (1, .int x1), (2, .int x2), (3, .int (nI P)), (4, .int (nI Q0)), (6, .int (nI s))]) dX11_bothOf_76 (by decide) rfl ?_
    refine J_iinc (q := 6) (z := nI s - 1) (lv' := [(6, .int (nI s - 1)), (5, .int (f_X11_yearBack v  w (((f_X11_liveOf v  x1 ((nI P) + (nI s))) * (f_X11_liveOf v  x2 ((nI Q0) + (nI s)))) / 1000))), (0, .ref 1100), (1, .int x1), (2, .int x2), (3, .int (nI P)), (4, .int (nI Q0))]) dX11_bothOf_78 rfl (dn_1 s) (by decide) rfl ?_
    refine J_goto (tgt := 41) dX11_bothOf_81 (by decide) ?_
    refine J_lv [2, 3, 4, 5, 6, 1, 0] rfl ?_
    rw [sp_bo_s]
    exact ih _ (by omega)
theorem dn_99 {m : Nat} (h : m < 2 ^ 30) : ∃ t, t ≤ 100 ∧ t = 100 - m ∧ (nI (99 - m + 1) - 1 = (99 : Int32) - nI m ∨ ((99 : Int32) - nI m < 0)) := by
  refine ⟨100 - m, by omega, rfl, ?_⟩
  by_cases hm : m ≤ 99
  · left
    rw [nI_pred]
    exact (pk_sub (a := 99) hm).symm
  · right
    exact pk_sneg (a := 99) (by omega) (by omega)
end
section
/-- a life that stands: its place, its kind, its age now -/
def lfOK (v : fr_V) (x : Int32) (P : Nat) : Prop := vp_in x 12 ∧ (∃ i, i ≤ 3 ∧ v 1107 x.toNatClampNeg = nI i) ∧ f_X11_ageIn v x (v 1100 3) = nI P ∧ P < 1000
def f_worthOf (v : fr_V) (x : Int32) : Int32 := sp_wo (f_X11_yearBack v) (fun a => f_X11_liveOf v x (nI a)) (f_X11_ageIn v x (v 1100 3)) 100 0
def f_bothOf (v : fr_V) (P Q0 : Nat) (x1 x2 : Int32) : Int32 := sp_bo (f_X11_yearBack v) (fun t => f_X11_liveOf v x1 (nI P + nI t)) (fun t => f_X11_liveOf v x2 (nI Q0 + nI t)) (99 - max P Q0 + 1) 0
theorem k2_worthOf {l : Launch} {I : List Nat} (hI : fr_I I) (v : fr_V) (u : fr_U) (x1 : Int32) (P : Nat) (h : lfOK v x1 P) (hr : ¬ v 1141 2 + 1 = 0) : Con l mX11_worthOf I v u [.ref 1100, .int x1] (QI v u (fun a => a = f_worthOf v x1)) := by
  obtain ⟨h1, ⟨i, hi, hc⟩, hp, hP⟩ := h
  exact k_X11_worthOf hI v u x1 h1 i hi hc hr (by rw [hp]; exact nI_pos (by omega))
theorem k_X11_bothOf {l : Launch} {I : List Nat} (hI : fr_I I) (v : fr_V) (u : fr_U) (x1 x2 : Int32) (P Q0 : Nat) (hA : lfOK v x1 P) (hB : lfOK v x2 Q0) (hP9 : P ≤ 99) (hQ9 : Q0 ≤ 99) (hr : ¬ v 1141 2 + 1 = 0) : Con l mX11_bothOf I v u [.ref 1100, .int x1, .int x2] (QI v u (fun a => a = f_bothOf v P Q0 x1 x2)) := by
  refine Con.of (by decide) (Nat.le_of_ble_eq_true rfl) ?_
  show J l mX11_bothOf I v u 0 [(0, .ref 1100), (1, .int x1), (2, .int x2)] [] _
  obtain ⟨h1, ⟨i1, hi1, hc1⟩, hp, hP⟩ := hA
  obtain ⟨h2, ⟨i2, hi2, hc2⟩, hq, hQ⟩ := hB
  refine J_aload_n dX11_bothOf_0 rfl 0 rfl ?_
  refine J_iload_n dX11_bothOf_1 rfl 1 rfl ?_
  refine J_aload_n dX11_bothOf_2 rfl 0 rfl ?_
  refine J_gete (ci := 11) (j := 3) (x := v 1100 3) dX11_bothOf_3 fl_X11_208 (i1100 hI) rfl rfl rfl ?_
  refine J_eVI (z := mX11_ageIn) (As := [.int x1, .int (v 1100 3)]) (rest := []) (ci := 11) (x := nI P) dX11_bothOf_6 ml_X11_214 ok_X11_ageIn iv_X11_ageIn (by decide) (i1100 hI) rfl rfl rfl rfl (Nat.le_of_ble_eq_true rfl) ((by rw [← hp]; exact k_X11_ageIn hI _ _ _ _ h1)) ?_
  refine J_istore_n (lv' := [(3, .int (nI P)), (0, .ref 1100), (1, .int x1), (2, .int x2)]) dX11_bothOf_9 rfl (by decide) rfl ?_
  refine J_aload_n dX11_bothOf_10 rfl 1 rfl ?_
  refine J_iload_n dX11_bothOf_11 rfl 3 rfl ?_
  refine J_aload_n dX11_bothOf_12 rfl 1 rfl ?_
  refine J_gete (ci := 11) (j := 3) (x := v 1100 3) dX11_bothOf_13 fl_X11_208 (i1100 hI) rfl rfl rfl ?_
  refine J_eVI (z := mX11_ageIn) (As := [.int x2, .int (v 1100 3)]) (rest := []) (ci := 11) (x := nI Q0) dX11_bothOf_16 ml_X11_214 ok_X11_ageIn iv_X11_ageIn (by decide) (i1100 hI) rfl rfl rfl rfl (Nat.le_of_ble_eq_true rfl) ((by rw [← hq]; exact k_X11_ageIn hI _ _ _ _ h2)) ?_
  refine J_istore (lv' := [(4, .int (nI Q0)), (3, .int (nI P)), (0, .ref 1100), (1, .int x1), (2, .int x2)]) dX11_bothOf_19 (by decide) rfl ?_
  refine J_iconst (x := 0) dX11_bothOf_21 (by decide) ?_
  refine J_istore (lv' := [(5, .int 0), (4, .int (nI Q0)), (3, .int (nI P)), (0, .ref 1100), (1, .int x1), (2, .int x2)]) dX11_bothOf_22 (by decide) rfl ?_
  refine J_bipush (x := 99) dX11_bothOf_24 (by decide) ?_
  refine J_iload_n dX11_bothOf_26 rfl 2 rfl ?_
  refine J_iload dX11_bothOf_27 1 rfl ?_
  refine J_icmp_le (tgt := 36) dX11_bothOf_29 (by decide) (fun c1 => ?_) (fun c1 => ?_)
  · refine J_iload dX11_bothOf_36 1 rfl ?_
    refine J_isub dX11_bothOf_38 ?_
    refine J_istore (lv' := [(6, .int (99 - (nI Q0))), (5, .int 0), (4, .int (nI Q0)), (3, .int (nI P)), (0, .ref 1100), (1, .int x1), (2, .int x2)]) dX11_bothOf_39 (by decide) rfl ?_
    refine J_lv [4, 5, 6, 3, 2, 1, 0] rfl ?_
    have e : (99 : Int32) - nI Q0 = nI (99 - Q0 + 1) - 1 := by rw [nI_pred]; exact pk_sub (a := 99) (by omega)
    rw [e]
    unfold f_bothOf
    rw [show max P Q0 = Q0 from Nat.max_eq_right (nz_le (by omega) (by omega) c1)]
    exact bo_L hI v u x1 x2 h1 h2 i1 i2 hi1 hi2 hc1 hc2 hr P Q0 (by omega) (by omega) _ 0 (by omega)
  · refine J_iload_n dX11_bothOf_32 rfl 2 rfl ?_
    refine J_goto (tgt := 38) dX11_bothOf_33 (by decide) ?_
    refine J_isub dX11_bothOf_38 ?_
    refine J_istore (lv' := [(6, .int (99 - (nI P))), (5, .int 0), (4, .int (nI Q0)), (3, .int (nI P)), (0, .ref 1100), (1, .int x1), (2, .int x2)]) dX11_bothOf_39 (by decide) rfl ?_
    refine J_lv [4, 5, 6, 3, 2, 1, 0] rfl ?_
    have e : (99 : Int32) - nI P = nI (99 - P + 1) - 1 := by rw [nI_pred]; exact pk_sub (a := 99) (by omega)
    rw [e]
    unfold f_bothOf
    rw [show max P Q0 = P from Nat.max_eq_left (by have := nz_nle (by omega) (by omega) c1; omega)]
    exact bo_L hI v u x1 x2 h1 h2 i1 i2 hi1 hi2 hc1 hc2 hr P Q0 (by omega) (by omega) _ 0 (by omega)
def f_X11_worthOn (v : fr_V) (P : Nat) (Q0 : Nat) (x1 x2 : Int32) : Int32 := if x1 = (-1) then (if x2 = (-1) then 0 else f_worthOf v x2) else if x2 = (-1) then f_worthOf v x1 else ((f_worthOf v x1) + (f_worthOf v x2)) - (f_bothOf v P Q0 x1 x2)
theorem k_X11_worthOn {l : Launch} {I : List Nat} (hI : fr_I I) (v : fr_V) (u : fr_U) (P : Nat) (Q0 : Nat) (x1 x2 : Int32) (hA : ¬ x1 = (-1) → lfOK v x1 P) (hB : ¬ x2 = (-1) → lfOK v x2 Q0) (hP9 : ¬ x1 = (-1) → P ≤ 99) (hQ9 : ¬ x2 = (-1) → Q0 ≤ 99) (hr : ¬ v 1141 2 + 1 = 0) : Con l mX11_worthOn I v u [.ref 1100, .int x1, .int x2] (QI v u (fun a => a = f_X11_worthOn v P Q0 x1 x2)) := by
  refine Con.of (by decide) (Nat.le_of_ble_eq_true rfl) ?_
  show J l mX11_worthOn I v u 0 [(0, .ref 1100), (1, .int x1), (2, .int x2)] [] _
  refine J_iload_n dX11_worthOn_0 rfl 1 rfl ?_
  refine J_iconst (x := (-1)) dX11_worthOn_1 (by decide) ?_
  refine J_icmp_ne (tgt := 20) dX11_worthOn_2 (by decide) (fun c1 => ?_) (fun c1 => ?_)
  · refine J_iload_n dX11_worthOn_20 rfl 2 rfl ?_
    refine J_iconst (x := (-1)) dX11_worthOn_21 (by decide) ?_
    refine J_icmp_ne (tgt := 33) dX11_worthOn_22 (by decide) (fun c2 => ?_) (fun c2 => ?_)
    · refine J_aload_n dX11_worthOn_33 rfl 0 rfl ?_
      refine J_iload_n dX11_worthOn_34 rfl 1 rfl ?_
      refine J_eVI (z := mX11_worthOf) (As := [.int x1]) (rest := []) (ci := 11) (x := f_worthOf v x1) dX11_worthOn_35 ml_X11_308 ok_X11_worthOf iv_X11_worthOf (by decide) (i1100 hI) rfl rfl rfl rfl (Nat.le_of_ble_eq_true rfl) (k2_worthOf hI _ _ _ P (hA (by assumption)) hr) ?_
      refine J_aload_n dX11_worthOn_38 rfl 0 rfl ?_
      refine J_iload_n dX11_worthOn_39 rfl 2 rfl ?_
      refine J_eVI (z := mX11_worthOf) (As := [.int x2]) (rest := [.int (f_worthOf v x1)]) (ci := 11) (x := f_worthOf v x2) dX11_worthOn_40 ml_X11_308 ok_X11_worthOf iv_X11_worthOf (by decide) (i1100 hI) rfl rfl rfl rfl (Nat.le_of_ble_eq_true rfl) (k2_worthOf hI _ _ _ Q0 (hB (by assumption)) hr) ?_
      refine J_iadd dX11_worthOn_43 ?_
      refine J_aload_n dX11_worthOn_44 rfl 0 rfl ?_
      refine J_iload_n dX11_worthOn_45 rfl 1 rfl ?_
      refine J_iload_n dX11_worthOn_46 rfl 2 rfl ?_
      refine J_eVI (z := mX11_bothOf) (As := [.int x1, .int x2]) (rest := [.int ((f_worthOf v x1) + (f_worthOf v x2))]) (ci := 11) (x := f_bothOf v P Q0 x1 x2) dX11_worthOn_47 ml_X11_311 ok_X11_bothOf iv_X11_bothOf (by decide) (i1100 hI) rfl rfl rfl rfl (Nat.le_of_ble_eq_true rfl) (k_X11_bothOf hI _ _ _ _ P Q0 (hA (by assumption)) (hB (by assumption)) (hP9 (by assumption)) (hQ9 (by assumption)) hr) ?_
      refine J_isub dX11_worthOn_50 ?_
      exact J_iret dX11_worthOn_51 rfl ⟨_, rfl, rfl, rfl, by unfold f_X11_worthOn; rw [if_neg c1, if_neg c2]⟩
    · refine J_aload_n dX11_worthOn_25 rfl 0 rfl ?_
      refine J_iload_n dX11_worthOn_26 rfl 1 rfl ?_
      refine J_eVI (z := mX11_worthOf) (As := [.int x1]) (rest := []) (ci := 11) (x := f_worthOf v x1) dX11_worthOn_27 ml_X11_308 ok_X11_worthOf iv_X11_worthOf (by decide) (i1100 hI) rfl rfl rfl rfl (Nat.le_of_ble_eq_true rfl) (k2_worthOf hI _ _ _ P (hA (by assumption)) hr) ?_
      refine J_goto (tgt := 51) dX11_worthOn_30 (by decide) ?_
      exact J_iret dX11_worthOn_51 rfl ⟨_, rfl, rfl, rfl, by unfold f_X11_worthOn; rw [if_neg c1, if_pos c2]⟩
  · refine J_iload_n dX11_worthOn_5 rfl 2 rfl ?_
    refine J_iconst (x := (-1)) dX11_worthOn_6 (by decide) ?_
    refine J_icmp_ne (tgt := 14) dX11_worthOn_7 (by decide) (fun c3 => ?_) (fun c3 => ?_)
    · refine J_aload_n dX11_worthOn_14 rfl 0 rfl ?_
      refine J_iload_n dX11_worthOn_15 rfl 2 rfl ?_
      refine J_eVI (z := mX11_worthOf) (As := [.int x2]) (rest := []) (ci := 11) (x := f_worthOf v x2) dX11_worthOn_16 ml_X11_308 ok_X11_worthOf iv_X11_worthOf (by decide) (i1100 hI) rfl rfl rfl rfl (Nat.le_of_ble_eq_true rfl) (k2_worthOf hI _ _ _ Q0 (hB (by assumption)) hr) ?_
      exact J_iret dX11_worthOn_19 rfl ⟨_, rfl, rfl, rfl, by unfold f_X11_worthOn; rw [if_pos c1, if_neg c3]⟩
    · refine J_iconst (x := 0) dX11_worthOn_10 (by decide) ?_
      refine J_goto (tgt := 19) dX11_worthOn_11 (by decide) ?_
      exact J_iret dX11_worthOn_19 rfl ⟨_, rfl, rfl, rfl, by unfold f_X11_worthOn; rw [if_pos c1, if_pos c3]⟩
theorem yr_i_m {x3 : Int32} {g i : Nat} {w0 : fr_V} {k j : Nat} (h : ¬ (k = 1100 ∧ (j = 49 ∨ j = 50))) : ∀ s, yr_i x3 g i w0 s k j = w0 k j := by
  intro s
  induction s with
  | zero => rfl
  | succ s ih =>
    have key : ∀ (z : fr_V) (a b : Int32), up2 (up2 z 1100 49 a) 1100 50 b k j = z k j := by
      intro z a b
      by_cases hk : k = 1100
      · subst hk
        have h1 : ¬ j = 49 := fun e => h ⟨rfl, Or.inl e⟩
        have h2 : ¬ j = 50 := fun e => h ⟨rfl, Or.inr e⟩
        simp [up2, upd, h1, h2]
      · simp [up2, hk]
    rw [yr_i_s, ← ih]
    unfold yr_i_t
    repeat' split
    all_goals first | rfl | exact key _ _ _
theorem yr_o_m {x1 x3 : Int32} {g : Nat} {w0 : fr_V} {k j : Nat} (h : ¬ (k = 1100 ∧ (j = 49 ∨ j = 50))) : ∀ n, yr_o x1 x3 g w0 n k j = w0 k j := by
  intro n
  induction n with
  | zero => rfl
  | succ n ih =>
    rw [yr_o_s, ← ih]
    unfold yr_o_t
    split
    · exact yr_i_m h _
    · rfl
theorem f_years_m {v : fr_V} {n g : Nat} {x1 x3 : Int32} {k j : Nat} (h : ¬ (k = 1100 ∧ (j = 49 ∨ j = 50))) : f_years v n g x1 x3 k j = v k j := by
  unfold f_years
  rw [yr_o_m h]
  by_cases hk : k = 1100
  · subst hk
    have h1 : ¬ j = 49 := fun e => h ⟨rfl, Or.inl e⟩
    have h2 : ¬ j = 50 := fun e => h ⟨rfl, Or.inr e⟩
    simp [up2, upd, h1, h2]
  · simp [up2, hk]
end
section
theorem f_know_m {v : fr_V} {N : Nat} {x : Int32} {k : Nat} (h1 : k ≠ 1145) (h2 : k ≠ 1146) : f_know v N x k = v k := by
  unfold f_know; rw [upA_ne h2, upA_ne h1]
def ly_i_t (n : Nat) (c : Nat) (x1 : Int32) (g : Nat) (z : fr_V) : fr_V := if x1 ≤ 0 then (if x1 = 0 then up2 z 1152 ((10 * c) + g) (z 1122 ((10 * c) + g)) else if x1 = 1 then up2 z 1152 ((10 * c) + g) (f_X11_lived z (nI c) (nI g) 0) else if x1 = 2 then up2 z 1152 ((10 * c) + g) (f_X11_lived z (nI c) (nI g) 1) else up2 z 1152 ((10 * c) + g) (f_X11_lived z (nI c) (nI g) (-1))) else if x1 = 0 then up2 (f_years z n g (nI c) (z 1100 3)) 1152 ((10 * c) + g) ((f_years z n g (nI c) (z 1100 3)) 1122 ((10 * c) + g)) else if x1 = 1 then up2 (f_years z n g (nI c) (z 1100 3)) 1152 ((10 * c) + g) (f_X11_lived (f_years z n g (nI c) (z 1100 3)) (nI c) (nI g) 0) else if x1 = 2 then up2 (f_years z n g (nI c) (z 1100 3)) 1152 ((10 * c) + g) (f_X11_lived (f_years z n g (nI c) (z 1100 3)) (nI c) (nI g) 1) else up2 (f_years z n g (nI c) (z 1100 3)) 1152 ((10 * c) + g) (f_X11_lived (f_years z n g (nI c) (z 1100 3)) (nI c) (nI g) (-1))
def ly_i (n : Nat) (c : Nat) (x1 : Int32) (w0 : fr_V) : Nat → fr_V
  | 0 => w0
  | j + 1 => ly_i_t n c x1 j (ly_i n c x1 w0 j)
theorem ly_i_s (n : Nat) (c : Nat) (x1 : Int32) (w0 : fr_V) (j : Nat) : ly_i n c x1 w0 (j + 1) = ly_i_t n c x1 j (ly_i n c x1 w0 j) := rfl
theorem ly_i_L {l : Launch} {I : List Nat} (hI : fr_I I) (u : fr_U) (n : Nat) (c : Nat) (x1 : Int32) (w0 : fr_V) (hn : n ≤ 12) (hc : c < 4) {Q : Option Value → fr_V → fr_U → Prop} (hk : ∀ z : fr_V, z = ly_i n c x1 w0 10 → z 1100 4 = nI n → J l mX11_lay I z u 101 [(0, .ref 1100), (1, .int x1), (2, .int (nI c)), (3, .int (nI 10))] [] Q) : ∀ (d g : Nat) (z : fr_V) (hd : 10 - g < d) (hj : g ≤ 10) (hz : z = ly_i n c x1 w0 g) (hm : z 1100 4 = nI n), J l mX11_lay I z u 21 [(0, .ref 1100), (1, .int x1), (2, .int (nI c)), (3, .int (nI g))] [] Q := by
  intro d
  induction d with
  | zero => intros; omega
  | succ d ih =>
    intro g z hd hj hz hm
    refine J_iload_n dX11_lay_21 rfl 3 rfl ?_
    refine J_bipush (x := 10) dX11_lay_22 (by decide) ?_
    refine J_icmp_ge (tgt := 101) dX11_lay_24 (by decide) (fun c1 => ?_) (fun c1 => ?_)
    · have e : g = 10 := by have := nz_le (a := 10) (by omega) (by omega) c1; omega
      refine J_lv [0, 1, 2, 3] rfl ?_
      subst e
      exact hk z hz hm
    · have hg : g < 10 := nz_nle (a := 10) (by omega) (by omega) c1
      refine J_iload_n dX11_lay_27 rfl 1 rfl ?_
      refine J_if_le (tgt := 41) dX11_lay_28 (by decide) (fun c2 => ?_) (fun c2 => ?_)
      · refine J_aload_n dX11_lay_41 rfl 0 rfl ?_
        refine J_getr (ci := 11) (j := 51) (t := 1152) dX11_lay_42 fl_X11_105 (i1100 hI) rfl rfl rfl ?_
        refine J_bipush (x := 10) dX11_lay_45 (by decide) ?_
        refine J_iload_n dX11_lay_47 rfl 2 rfl ?_
        refine J_imul dX11_lay_48 ?_
        refine J_iload_n dX11_lay_49 rfl 3 rfl ?_
        refine J_iadd dX11_lay_50 ?_
        refine J_iload_n dX11_lay_51 rfl 1 rfl ?_
        refine J_if_ne (tgt := 69) dX11_lay_52 (by decide) (fun c3 => ?_) (fun c3 => ?_)
        · refine J_aload_n dX11_lay_69 rfl 0 rfl ?_
          refine J_iload_n dX11_lay_70 rfl 2 rfl ?_
          refine J_iload_n dX11_lay_71 rfl 3 rfl ?_
          refine J_iload_n dX11_lay_72 rfl 1 rfl ?_
          refine J_iconst (x := 1) dX11_lay_73 (by decide) ?_
          refine J_icmp_ne (tgt := 81) dX11_lay_74 (by decide) (fun c4 => ?_) (fun c4 => ?_)
          · refine J_iload_n dX11_lay_81 rfl 1 rfl ?_
            refine J_iconst (x := 2) dX11_lay_82 (by decide) ?_
            refine J_icmp_ne (tgt := 90) dX11_lay_83 (by decide) (fun c5 => ?_) (fun c5 => ?_)
            · refine J_iconst (x := (-1)) dX11_lay_90 (by decide) ?_
              refine J_eVI (z := mX11_lived) (As := [.int (nI c), .int (nI g), .int (-1)]) (rest := [.int ((10 * (nI c)) + (nI g)), .ref 1152]) (ci := 11) (x := f_X11_lived z (nI c) (nI g) (-1)) dX11_lay_91 ml_X11_296 ok_X11_lived iv_X11_lived (by decide) (i1100 hI) rfl rfl rfl rfl (Nat.le_of_ble_eq_true rfl) (k_X11_lived hI _ _ _ _ _ (ix_in (j := 10 * c + g) (by show nI 10 * nI c + nI g = _; simp only [nI_add, pk_mul]) (by omega) (by omega))) ?_
              refine J_iase (j := (10 * c) + g) dX11_lay_94 (i1152 hI) rfl (ix_in (j := (10 * c) + g) (by show ((nI 10) * (nI c)) + (nI g) = _; simp only [nI_add, pk_mul]) (by omega) (by omega)) (ix_cl (j := (10 * c) + g) (by show ((nI 10) * (nI c)) + (nI g) = _; simp only [nI_add, pk_mul]) (by omega)) ?_
              refine J_iinc (q := 3) (z := nI (g + 1)) (lv' := [(3, .int (nI (g + 1))), (0, .ref 1100), (1, .int x1), (2, .int (nI c))]) dX11_lay_95 rfl (nI_1 g) (by decide) rfl ?_
              refine J_goto (tgt := 21) dX11_lay_98 (by decide) ?_
              refine J_lv [1, 2, 3, 0] rfl ?_
              exact ih (g + 1) _ (by omega) (by omega) (by rw [ly_i_s, ← hz]; unfold ly_i_t; rw [if_pos c2, if_neg c3, if_neg c4, if_neg c5]) (hm)
            · refine J_iconst (x := 1) dX11_lay_86 (by decide) ?_
              refine J_goto (tgt := 91) dX11_lay_87 (by decide) ?_
              refine J_eVI (z := mX11_lived) (As := [.int (nI c), .int (nI g), .int 1]) (rest := [.int ((10 * (nI c)) + (nI g)), .ref 1152]) (ci := 11) (x := f_X11_lived z (nI c) (nI g) 1) dX11_lay_91 ml_X11_296 ok_X11_lived iv_X11_lived (by decide) (i1100 hI) rfl rfl rfl rfl (Nat.le_of_ble_eq_true rfl) (k_X11_lived hI _ _ _ _ _ (ix_in (j := 10 * c + g) (by show nI 10 * nI c + nI g = _; simp only [nI_add, pk_mul]) (by omega) (by omega))) ?_
              refine J_iase (j := (10 * c) + g) dX11_lay_94 (i1152 hI) rfl (ix_in (j := (10 * c) + g) (by show ((nI 10) * (nI c)) + (nI g) = _; simp only [nI_add, pk_mul]) (by omega) (by omega)) (ix_cl (j := (10 * c) + g) (by show ((nI 10) * (nI c)) + (nI g) = _; simp only [nI_add, pk_mul]) (by omega)) ?_
              refine J_iinc (q := 3) (z := nI (g + 1)) (lv' := [(3, .int (nI (g + 1))), (0, .ref 1100), (1, .int x1), (2, .int (nI c))]) dX11_lay_95 rfl (nI_1 g) (by decide) rfl ?_
              refine J_goto (tgt := 21) dX11_lay_98 (by decide) ?_
              refine J_lv [1, 2, 3, 0] rfl ?_
              exact ih (g + 1) _ (by omega) (by omega) (by rw [ly_i_s, ← hz]; unfold ly_i_t; rw [if_pos c2, if_neg c3, if_neg c4, if_pos c5]) (hm)
          · refine J_iconst (x := 0) dX11_lay_77 (by decide) ?_
            refine J_goto (tgt := 91) dX11_lay_78 (by decide) ?_
            refine J_eVI (z := mX11_lived) (As := [.int (nI c), .int (nI g), .int 0]) (rest := [.int ((10 * (nI c)) + (nI g)), .ref 1152]) (ci := 11) (x := f_X11_lived z (nI c) (nI g) 0) dX11_lay_91 ml_X11_296 ok_X11_lived iv_X11_lived (by decide) (i1100 hI) rfl rfl rfl rfl (Nat.le_of_ble_eq_true rfl) (k_X11_lived hI _ _ _ _ _ (ix_in (j := 10 * c + g) (by show nI 10 * nI c + nI g = _; simp only [nI_add, pk_mul]) (by omega) (by omega))) ?_
            refine J_iase (j := (10 * c) + g) dX11_lay_94 (i1152 hI) rfl (ix_in (j := (10 * c) + g) (by show ((nI 10) * (nI c)) + (nI g) = _; simp only [nI_add, pk_mul]) (by omega) (by omega)) (ix_cl (j := (10 * c) + g) (by show ((nI 10) * (nI c)) + (nI g) = _; simp only [nI_add, pk_mul]) (by omega)) ?_
            refine J_iinc (q := 3) (z := nI (g + 1)) (lv' := [(3, .int (nI (g + 1))), (0, .ref 1100), (1, .int x1), (2, .int (nI c))]) dX11_lay_95 rfl (nI_1 g) (by decide) rfl ?_
            refine J_goto (tgt := 21) dX11_lay_98 (by decide) ?_
            refine J_lv [1, 2, 3, 0] rfl ?_
            exact ih (g + 1) _ (by omega) (by omega) (by rw [ly_i_s, ← hz]; unfold ly_i_t; rw [if_pos c2, if_neg c3, if_pos c4]) (hm)
        · refine J_aload_n dX11_lay_55 rfl 0 rfl ?_
          refine J_getr (ci := 11) (j := 21) (t := 1122) dX11_lay_56 fl_X11_52 (i1100 hI) rfl rfl rfl ?_
          refine J_bipush (x := 10) dX11_lay_59 (by decide) ?_
          refine J_iload_n dX11_lay_61 rfl 2 rfl ?_
          refine J_imul dX11_lay_62 ?_
          refine J_iload_n dX11_lay_63 rfl 3 rfl ?_
          refine J_iadd dX11_lay_64 ?_
          refine J_iale (x := z 1122 ((10 * c) + g)) dX11_lay_65 (i1122 hI) rfl (ix_in (j := (10 * c) + g) (by show ((nI 10) * (nI c)) + (nI g) = _; simp only [nI_add, pk_mul]) (by omega) (by omega)) ((congrArg _ (ix_cl (j := (10 * c) + g) (by show ((nI 10) * (nI c)) + (nI g) = _; simp only [nI_add, pk_mul]) (by omega))).trans rfl) ?_
          refine J_goto (tgt := 94) dX11_lay_66 (by decide) ?_
          refine J_iase (j := (10 * c) + g) dX11_lay_94 (i1152 hI) rfl (ix_in (j := (10 * c) + g) (by show ((nI 10) * (nI c)) + (nI g) = _; simp only [nI_add, pk_mul]) (by omega) (by omega)) (ix_cl (j := (10 * c) + g) (by show ((nI 10) * (nI c)) + (nI g) = _; simp only [nI_add, pk_mul]) (by omega)) ?_
          refine J_iinc (q := 3) (z := nI (g + 1)) (lv' := [(3, .int (nI (g + 1))), (0, .ref 1100), (1, .int x1), (2, .int (nI c))]) dX11_lay_95 rfl (nI_1 g) (by decide) rfl ?_
          refine J_goto (tgt := 21) dX11_lay_98 (by decide) ?_
          refine J_lv [1, 2, 3, 0] rfl ?_
          exact ih (g + 1) _ (by omega) (by omega) (by rw [ly_i_s, ← hz]; unfold ly_i_t; rw [if_pos c2, if_pos c3]) (hm)
      · refine J_aload_n dX11_lay_31 rfl 0 rfl ?_
        refine J_iload_n dX11_lay_32 rfl 2 rfl ?_
        refine J_iload_n dX11_lay_33 rfl 3 rfl ?_
        refine J_aload_n dX11_lay_34 rfl 0 rfl ?_
        refine J_gete (ci := 11) (j := 3) (x := z 1100 3) dX11_lay_35 fl_X11_208 (i1100 hI) rfl rfl rfl ?_
        refine J_eVN (z := mX11_years) (As := [.int (nI c), .int (nI g), .int (z 1100 3)]) (rest := []) (ci := 11) (w := f_years z n g (nI c) (z 1100 3)) dX11_lay_38 ml_X11_292 ok_X11_years iv_X11_years (by decide) (i1100 hI) rfl rfl rfl rfl (Nat.le_of_ble_eq_true rfl) (k_X11_years hI _ _ n g hn (by omega) hm _ _) ?_
        refine J_aload_n dX11_lay_41 rfl 0 rfl ?_
        refine J_getr (ci := 11) (j := 51) (t := 1152) dX11_lay_42 fl_X11_105 (i1100 hI) rfl rfl rfl ?_
        refine J_bipush (x := 10) dX11_lay_45 (by decide) ?_
        refine J_iload_n dX11_lay_47 rfl 2 rfl ?_
        refine J_imul dX11_lay_48 ?_
        refine J_iload_n dX11_lay_49 rfl 3 rfl ?_
        refine J_iadd dX11_lay_50 ?_
        refine J_iload_n dX11_lay_51 rfl 1 rfl ?_
        refine J_if_ne (tgt := 69) dX11_lay_52 (by decide) (fun c6 => ?_) (fun c6 => ?_)
        · refine J_aload_n dX11_lay_69 rfl 0 rfl ?_
          refine J_iload_n dX11_lay_70 rfl 2 rfl ?_
          refine J_iload_n dX11_lay_71 rfl 3 rfl ?_
          refine J_iload_n dX11_lay_72 rfl 1 rfl ?_
          refine J_iconst (x := 1) dX11_lay_73 (by decide) ?_
          refine J_icmp_ne (tgt := 81) dX11_lay_74 (by decide) (fun c7 => ?_) (fun c7 => ?_)
          · refine J_iload_n dX11_lay_81 rfl 1 rfl ?_
            refine J_iconst (x := 2) dX11_lay_82 (by decide) ?_
            refine J_icmp_ne (tgt := 90) dX11_lay_83 (by decide) (fun c8 => ?_) (fun c8 => ?_)
            · refine J_iconst (x := (-1)) dX11_lay_90 (by decide) ?_
              refine J_eVI (z := mX11_lived) (As := [.int (nI c), .int (nI g), .int (-1)]) (rest := [.int ((10 * (nI c)) + (nI g)), .ref 1152]) (ci := 11) (x := f_X11_lived (f_years z n g (nI c) (z 1100 3)) (nI c) (nI g) (-1)) dX11_lay_91 ml_X11_296 ok_X11_lived iv_X11_lived (by decide) (i1100 hI) rfl rfl rfl rfl (Nat.le_of_ble_eq_true rfl) (k_X11_lived hI _ _ _ _ _ (ix_in (j := 10 * c + g) (by show nI 10 * nI c + nI g = _; simp only [nI_add, pk_mul]) (by omega) (by omega))) ?_
              refine J_iase (j := (10 * c) + g) dX11_lay_94 (i1152 hI) rfl (ix_in (j := (10 * c) + g) (by show ((nI 10) * (nI c)) + (nI g) = _; simp only [nI_add, pk_mul]) (by omega) (by omega)) (ix_cl (j := (10 * c) + g) (by show ((nI 10) * (nI c)) + (nI g) = _; simp only [nI_add, pk_mul]) (by omega)) ?_
              refine J_iinc (q := 3) (z := nI (g + 1)) (lv' := [(3, .int (nI (g + 1))), (0, .ref 1100), (1, .int x1), (2, .int (nI c))]) dX11_lay_95 rfl (nI_1 g) (by decide) rfl ?_
              refine J_goto (tgt := 21) dX11_lay_98 (by decide) ?_
              refine J_lv [1, 2, 3, 0] rfl ?_
              exact ih (g + 1) _ (by omega) (by omega) (by rw [ly_i_s, ← hz]; unfold ly_i_t; rw [if_neg c2, if_neg c6, if_neg c7, if_neg c8]) (by show f_years _ _ _ _ _ 1100 4 = _; rw [f_years_m (by decide)]; exact hm)
            · refine J_iconst (x := 1) dX11_lay_86 (by decide) ?_
              refine J_goto (tgt := 91) dX11_lay_87 (by decide) ?_
              refine J_eVI (z := mX11_lived) (As := [.int (nI c), .int (nI g), .int 1]) (rest := [.int ((10 * (nI c)) + (nI g)), .ref 1152]) (ci := 11) (x := f_X11_lived (f_years z n g (nI c) (z 1100 3)) (nI c) (nI g) 1) dX11_lay_91 ml_X11_296 ok_X11_lived iv_X11_lived (by decide) (i1100 hI) rfl rfl rfl rfl (Nat.le_of_ble_eq_true rfl) (k_X11_lived hI _ _ _ _ _ (ix_in (j := 10 * c + g) (by show nI 10 * nI c + nI g = _; simp only [nI_add, pk_mul]) (by omega) (by omega))) ?_
              refine J_iase (j := (10 * c) + g) dX11_lay_94 (i1152 hI) rfl (ix_in (j := (10 * c) + g) (by show ((nI 10) * (nI c)) + (nI g) = _; simp only [nI_add, pk_mul]) (by omega) (by omega)) (ix_cl (j := (10 * c) + g) (by show ((nI 10) * (nI c)) + (nI g) = _; simp only [nI_add, pk_mul]) (by omega)) ?_
              refine J_iinc (q := 3) (z := nI (g + 1)) (lv' := [(3, .int (nI (g + 1))), (0, .ref 1100), (1, .int x1), (2, .int (nI c))]) dX11_lay_95 rfl (nI_1 g) (by decide) rfl ?_
              refine J_goto (tgt := 21) dX11_lay_98 (by decide) ?_
              refine J_lv [1, 2, 3, 0] rfl ?_
              exact ih (g + 1) _ (by omega) (by omega) (by rw [ly_i_s, ← hz]; unfold ly_i_t; rw [if_neg c2, if_neg c6, if_neg c7, if_pos c8]) (by show f_years _ _ _ _ _ 1100 4 = _; rw [f_years_m (by decide)]; exact hm)
          · refine J_iconst (x := 0) dX11_lay_77 (by decide) ?_
            refine J_goto (tgt := 91) dX11_lay_78 (by decide) ?_
            refine J_eVI (z := mX11_lived) (As := [.int (nI c), .int (nI g), .int 0]) (rest := [.int ((10 * (nI c)) + (nI g)), .ref 1152]) (ci := 11) (x := f_X11_lived (f_years z n g (nI c) (z 1100 3)) (nI c) (nI g) 0) dX11_lay_91 ml_X11_296 ok_X11_lived iv_X11_lived (by decide) (i1100 hI) rfl rfl rfl rfl (Nat.le_of_ble_eq_true rfl) (k_X11_lived hI _ _ _ _ _ (ix_in (j := 10 * c + g) (by show nI 10 * nI c + nI g = _; simp only [nI_add, pk_mul]) (by omega) (by omega))) ?_
            refine J_iase (j := (10 * c) + g) dX11_lay_94 (i1152 hI) rfl (ix_in (j := (10 * c) + g) (by show ((nI 10) * (nI c)) + (nI g) = _; simp only [nI_add, pk_mul]) (by omega) (by omega)) (ix_cl (j := (10 * c) + g) (by show ((nI 10) * (nI c)) + (nI g) = _; simp only [nI_add, pk_mul]) (by omega)) ?_
            refine J_iinc (q := 3) (z := nI (g + 1)) (lv' := [(3, .int (nI (g + 1))), (0, .ref 1100), (1, .int x1), (2, .int (nI c))]) dX11_lay_95 rfl (nI_1 g) (by decide) rfl ?_
            refine J_goto (tgt := 21) dX11_lay_98 (by decide) ?_
            refine J_lv [1, 2, 3, 0] rfl ?_
            exact ih (g + 1) _ (by omega) (by omega) (by rw [ly_i_s, ← hz]; unfold ly_i_t; rw [if_neg c2, if_neg c6, if_pos c7]) (by show f_years _ _ _ _ _ 1100 4 = _; rw [f_years_m (by decide)]; exact hm)
        · refine J_aload_n dX11_lay_55 rfl 0 rfl ?_
          refine J_getr (ci := 11) (j := 21) (t := 1122) dX11_lay_56 fl_X11_52 (i1100 hI) rfl rfl rfl ?_
          refine J_bipush (x := 10) dX11_lay_59 (by decide) ?_
          refine J_iload_n dX11_lay_61 rfl 2 rfl ?_
          refine J_imul dX11_lay_62 ?_
          refine J_iload_n dX11_lay_63 rfl 3 rfl ?_
          refine J_iadd dX11_lay_64 ?_
          refine J_iale (x := (f_years z n g (nI c) (z 1100 3)) 1122 ((10 * c) + g)) dX11_lay_65 (i1122 hI) rfl (ix_in (j := (10 * c) + g) (by show ((nI 10) * (nI c)) + (nI g) = _; simp only [nI_add, pk_mul]) (by omega) (by omega)) ((congrArg _ (ix_cl (j := (10 * c) + g) (by show ((nI 10) * (nI c)) + (nI g) = _; simp only [nI_add, pk_mul]) (by omega))).trans rfl) ?_
          refine J_goto (tgt := 94) dX11_lay_66 (by decide) ?_
          refine J_iase (j := (10 * c) + g) dX11_lay_94 (i1152 hI) rfl (ix_in (j := (10 * c) + g) (by show ((nI 10) * (nI c)) + (nI g) = _; simp only [nI_add, pk_mul]) (by omega) (by omega)) (ix_cl (j := (10 * c) + g) (by show ((nI 10) * (nI c)) + (nI g) = _; simp only [nI_add, pk_mul]) (by omega)) ?_
          refine J_iinc (q := 3) (z := nI (g + 1)) (lv' := [(3, .int (nI (g + 1))), (0, .ref 1100), (1, .int x1), (2, .int (nI c))]) dX11_lay_95 rfl (nI_1 g) (by decide) rfl ?_
          refine J_goto (tgt := 21) dX11_lay_98 (by decide) ?_
          refine J_lv [1, 2, 3, 0] rfl ?_
          exact ih (g + 1) _ (by omega) (by omega) (by rw [ly_i_s, ← hz]; unfold ly_i_t; rw [if_neg c2, if_pos c6]) (by show f_years _ _ _ _ _ 1100 4 = _; rw [f_years_m (by decide)]; exact hm)
def ly_o_t (n : Nat) (x1 : Int32) (c : Nat) (z : fr_V) : fr_V := ly_i n c x1 z 10
def ly_o (n : Nat) (x1 : Int32) (w0 : fr_V) : Nat → fr_V
  | 0 => w0
  | c + 1 => ly_o_t n x1 c (ly_o n x1 w0 c)
theorem ly_o_s (n : Nat) (x1 : Int32) (w0 : fr_V) (c : Nat) : ly_o n x1 w0 (c + 1) = ly_o_t n x1 c (ly_o n x1 w0 c) := rfl
theorem ly_o_L {l : Launch} {I : List Nat} (hI : fr_I I) (u : fr_U) (n : Nat) (x1 : Int32) (w0 : fr_V) (hn : n ≤ 12) : ∀ (d c : Nat) (z : fr_V) (hd : 4 - c < d) (hc : c ≤ 4) (hz : z = ly_o n x1 w0 c) (hm : z 1100 4 = nI n), J l mX11_lay I z u 14 [(0, .ref 1100), (1, .int x1), (2, .int (nI c))] [] (QN u (fun a => a = ly_o n x1 w0 4)) := by
  intro d
  induction d with
  | zero => intros; omega
  | succ d ih =>
    intro c z hd hc hz hm
    refine J_iload_n dX11_lay_14 rfl 2 rfl ?_
    refine J_iconst (x := 4) dX11_lay_15 (by decide) ?_
    refine J_icmp_ge (tgt := 107) dX11_lay_16 (by decide) (fun c1 => ?_) (fun c1 => ?_)
    · exact J_vret dX11_lay_107 rfl ⟨rfl, rfl, by have e : c = 4 := by {have := nz_le (a := 4) (by omega) (by omega) c1; omega}; rw [hz, e]⟩
    · have hcb : c < 4 := nz_nle (a := 4) (by omega) (by omega) c1
      refine J_iconst (x := 0) dX11_lay_19 (by decide) ?_
      refine J_istore_n (lv' := [(3, .int 0), (0, .ref 1100), (1, .int x1), (2, .int (nI c))]) dX11_lay_20 rfl (by decide) rfl ?_
      refine J_lv [1, 2, 3, 0] rfl ?_
      refine ly_i_L hI u n c x1 z hn hcb (fun z2 hz2 hm2 => ?_) 11 0 _ (by omega) (by omega) rfl hm
      refine J_iinc (q := 2) (z := nI (c + 1)) (lv' := [(2, .int (nI (c + 1))), (0, .ref 1100), (1, .int x1), (3, .int (nI 10))]) dX11_lay_101 rfl (nI_1 c) (by decide) rfl ?_
      refine J_goto (tgt := 14) dX11_lay_104 (by decide) ?_
      refine J_lv [1, 2, 0] rfl ?_
      exact ih (c + 1) _ (by omega) (by omega) (by rw [ly_o_s, ← hz]; exact hz2) hm2
def f_lay (v : fr_V) (n N : Nat) (x1 : Int32) : fr_V := ly_o n x1 (if x1 ≤ 0 then v else f_know v N (v 1100 3)) 4
theorem k_X11_lay {l : Launch} {I : List Nat} (hI : fr_I I) (v : fr_V) (u : fr_U) (n N : Nat) (hn : n ≤ 12) (hm : v 1100 4 = nI n) (hN : v 1100 16 = nI N) (hW : nt_ok (v 1118) (v 1119) N) (x1 : Int32) : Con l mX11_lay I v u [.ref 1100, .int x1] (QN u (fun a => a = f_lay v n N x1)) := by
  refine Con.of (by decide) (Nat.le_of_ble_eq_true rfl) ?_
  show J l mX11_lay I v u 0 [(0, .ref 1100), (1, .int x1)] [] _
  refine J_iload_n dX11_lay_0 rfl 1 rfl ?_
  refine J_if_le (tgt := 12) dX11_lay_1 (by decide) (fun c1 => ?_) (fun c1 => ?_)
  · refine J_iconst (x := 0) dX11_lay_12 (by decide) ?_
    refine J_istore_n (lv' := [(2, .int 0), (0, .ref 1100), (1, .int x1)]) dX11_lay_13 rfl (by decide) rfl ?_
    refine J_lv [1, 2, 0] rfl ?_
    unfold f_lay
    rw [if_pos c1]
    exact ly_o_L hI u n x1 _ hn 5 0 _ (by omega) (by omega) rfl hm
  · refine J_aload_n dX11_lay_4 rfl 0 rfl ?_
    refine J_aload_n dX11_lay_5 rfl 0 rfl ?_
    refine J_gete (ci := 11) (j := 3) (x := v 1100 3) dX11_lay_6 fl_X11_208 (i1100 hI) rfl rfl rfl ?_
    refine J_eVN (z := mX11_know) (As := [.int (v 1100 3)]) (rest := []) (ci := 11) (w := (f_know v N (v 1100 3))) dX11_lay_9 ml_X11_257 ok_X11_know iv_X11_know (by decide) (i1100 hI) rfl rfl rfl rfl (Nat.le_of_ble_eq_true rfl) (k_X11_know hI v u _ N hN hW) ?_
    refine J_iconst (x := 0) dX11_lay_12 (by decide) ?_
    refine J_istore_n (lv' := [(2, .int 0), (0, .ref 1100), (1, .int x1)]) dX11_lay_13 rfl (by decide) rfl ?_
    refine J_lv [1, 2, 0] rfl ?_
    unfold f_lay
    rw [if_neg c1]
    exact ly_o_L hI u n x1 _ hn 5 0 _ (by omega) (by omega) rfl (by rw [f_know_m (by decide) (by decide)]; exact hm)
/-- what lay leaves as it was -/
def ly_off (k j : Nat) : Prop := ¬ (k = 1100 ∧ (j = 49 ∨ j = 50)) ∧ k ≠ 1145 ∧ k ≠ 1146 ∧ k ≠ 1152
theorem ly_i_m {n c : Nat} {x1 : Int32} {w0 : fr_V} {k j : Nat} (h : ly_off k j) : ∀ g, ly_i n c x1 w0 g k j = w0 k j := by
  intro g
  induction g with
  | zero => rfl
  | succ g ih =>
    have key : ∀ (z : fr_V) (a : Nat) (b : Int32), up2 z 1152 a b k j = z k j := fun z a b => by rw [up2_ne h.2.2.2]
    rw [ly_i_s, ← ih]
    unfold ly_i_t
    repeat' split
    all_goals first | exact key _ _ _ | (rw [key]; exact f_years_m h.1)
theorem ly_o_m {n : Nat} {x1 : Int32} {w0 : fr_V} {k j : Nat} (h : ly_off k j) : ∀ c, ly_o n x1 w0 c k j = w0 k j := by
  intro c
  induction c with
  | zero => rfl
  | succ c ih => rw [ly_o_s, ← ih]; exact ly_i_m h _
theorem f_lay_m {v : fr_V} {n N : Nat} {x1 : Int32} {k j : Nat} (h : ly_off k j) : f_lay v n N x1 k j = v k j := by
  unfold f_lay
  rw [ly_o_m h]
  split
  · rfl
  · rw [f_know_m h.2.1 h.2.2.1]
theorem k2_years {l : Launch} {I : List Nat} (hI : fr_I I) (v : fr_V) (u : fr_U) (n : Nat) (hn : n ≤ 12) (hm : v 1100 4 = nI n) (x1 x2 x3 : Int32) (h2 : ∃ g, g ≤ 9 ∧ x2 = nI g) : Con l mX11_years I v u [.ref 1100, .int x1, .int x2, .int x3] (QN u (fun a => a = f_years v n x2.toNatClampNeg x1 x3)) := by
  obtain ⟨g, hg, rfl⟩ := h2
  rw [nI_clamp (by omega)]
  exact k_X11_years hI v u n g hn hg hm x1 x3
def f_X11_own (v : fr_V) (N : Nat) (n : Nat) (x1 x2 x3 x4 : Int32) : Int32 × fr_V := if (f_X11_isIn (up2 v 1100 2 0)  x1 0 3) = 0 then ((-1), up2 v 1100 2 0) else if (f_X11_isIn (up2 v 1100 2 0)  x2 0 9) = 0 then ((-1), up2 v 1100 2 0) else if (f_X11_isHalf (up2 v 1100 2 0)  x3) = 0 then ((-1), up2 v 1100 2 0) else if (f_X11_isIn (up2 v 1100 2 0)  x4 0 4) = 0 then ((-1), up2 v 1100 2 0) else if x4 = 0 then ((f_years (f_know (up2 v 1100 2 0) N x3) n x2.toNatClampNeg x1 x3) 1100 49, f_years (f_know (up2 v 1100 2 0) N x3) n x2.toNatClampNeg x1 x3) else if x4 = 1 then ((f_years (f_know (up2 v 1100 2 0) N x3) n x2.toNatClampNeg x1 x3) 1100 50, f_years (f_know (up2 v 1100 2 0) N x3) n x2.toNatClampNeg x1 x3) else if x4 = 2 then (f_X11_lived (f_years (f_know (up2 v 1100 2 0) N x3) n x2.toNatClampNeg x1 x3) x1 x2 0, f_years (f_know (up2 v 1100 2 0) N x3) n x2.toNatClampNeg x1 x3) else if x4 = 3 then (f_X11_lived (f_years (f_know (up2 v 1100 2 0) N x3) n x2.toNatClampNeg x1 x3) x1 x2 1, f_years (f_know (up2 v 1100 2 0) N x3) n x2.toNatClampNeg x1 x3) else (f_X11_lived (f_years (f_know (up2 v 1100 2 0) N x3) n x2.toNatClampNeg x1 x3) x1 x2 (-1), f_years (f_know (up2 v 1100 2 0) N x3) n x2.toNatClampNeg x1 x3)
theorem k_X11_own {l : Launch} {I : List Nat} (hI : fr_I I) (v : fr_V) (u : fr_U) (N : Nat) (n : Nat) (x1 x2 x3 x4 : Int32) (hN : v 1100 16 = nI N) (hW : nt_ok (v 1118) (v 1119) N) (hL : v 1100 4 = nI n) (hL2 : n ≤ 12) : Con l mX11_own I v u [.ref 1100, .int x1, .int x2, .int x3, .int x4] (QX u (fun a b => a = (f_X11_own v N n x1 x2 x3 x4).1 ∧ b = (f_X11_own v N n x1 x2 x3 x4).2)) := by
  refine Con.of (by decide) (Nat.le_of_ble_eq_true rfl) ?_
  show J l mX11_own I v u 0 [(0, .ref 1100), (1, .int x1), (2, .int x2), (3, .int x3), (4, .int x4)] [] _
  refine J_aload_n dX11_own_0 rfl 0 rfl ?_
  refine J_iconst (x := 0) dX11_own_1 (by decide) ?_
  refine J_puti (ci := 11) (j := 2) dX11_own_2 fl_X11_129 (i1100 hI) rfl rfl (fun q h => by cases h; rfl) rfl ?_
  refine J_iload_n dX11_own_5 rfl 1 rfl ?_
  refine J_iconst (x := 0) dX11_own_6 (by decide) ?_
  refine J_iconst (x := 3) dX11_own_7 (by decide) ?_
  refine J_eSI (z := mX11_isIn) (As := [.int x1, .int 0, .int 3]) (rest := []) (x := f_X11_isIn (up2 v 1100 2 0)  x1 0 3) dX11_own_8 ml_X11_204 ok_X11_isIn iv_X11_isIn (by decide) rfl rfl (Nat.le_of_ble_eq_true rfl) (k_X11_isIn hI (up2 v 1100 2 0) u _ _ _ ) ?_
  refine J_if_eq (tgt := 41) dX11_own_11 (by decide) (fun c1 => ?_) (fun c1 => ?_)
  · refine J_iconst (x := (-1)) dX11_own_41 (by decide) ?_
    exact J_iret dX11_own_42 rfl ⟨_, rfl, rfl, by unfold f_X11_own; rw [if_pos c1], by unfold f_X11_own; rw [if_pos c1]⟩
  · refine J_iload_n dX11_own_14 rfl 2 rfl ?_
    refine J_iconst (x := 0) dX11_own_15 (by decide) ?_
    refine J_bipush (x := 9) dX11_own_16 (by decide) ?_
    refine J_eSI (z := mX11_isIn) (As := [.int x2, .int 0, .int 9]) (rest := []) (x := f_X11_isIn (up2 v 1100 2 0)  x2 0 9) dX11_own_18 ml_X11_204 ok_X11_isIn iv_X11_isIn (by decide) rfl rfl (Nat.le_of_ble_eq_true rfl) (k_X11_isIn hI (up2 v 1100 2 0) u _ _ _ ) ?_
    refine J_if_eq (tgt := 41) dX11_own_21 (by decide) (fun c2 => ?_) (fun c2 => ?_)
    · refine J_iconst (x := (-1)) dX11_own_41 (by decide) ?_
      exact J_iret dX11_own_42 rfl ⟨_, rfl, rfl, by unfold f_X11_own; rw [if_neg c1, if_pos c2], by unfold f_X11_own; rw [if_neg c1, if_pos c2]⟩
    · refine J_iload_n dX11_own_24 rfl 3 rfl ?_
      refine J_eSI (z := mX11_isHalf) (As := [.int x3]) (rest := []) (x := f_X11_isHalf (up2 v 1100 2 0)  x3) dX11_own_25 ml_X11_249 ok_X11_isHalf iv_X11_isHalf (by decide) rfl rfl (Nat.le_of_ble_eq_true rfl) (k_X11_isHalf hI (up2 v 1100 2 0) u _ ) ?_
      refine J_if_eq (tgt := 41) dX11_own_28 (by decide) (fun c3 => ?_) (fun c3 => ?_)
      · refine J_iconst (x := (-1)) dX11_own_41 (by decide) ?_
        exact J_iret dX11_own_42 rfl ⟨_, rfl, rfl, by unfold f_X11_own; rw [if_neg c1, if_neg c2, if_pos c3], by unfold f_X11_own; rw [if_neg c1, if_neg c2, if_pos c3]⟩
      · refine J_iload dX11_own_31 4 rfl ?_
        refine J_iconst (x := 0) dX11_own_33 (by decide) ?_
        refine J_iconst (x := 4) dX11_own_34 (by decide) ?_
        refine J_eSI (z := mX11_isIn) (As := [.int x4, .int 0, .int 4]) (rest := []) (x := f_X11_isIn (up2 v 1100 2 0)  x4 0 4) dX11_own_35 ml_X11_204 ok_X11_isIn iv_X11_isIn (by decide) rfl rfl (Nat.le_of_ble_eq_true rfl) (k_X11_isIn hI (up2 v 1100 2 0) u _ _ _ ) ?_
        refine J_if_ne (tgt := 43) dX11_own_38 (by decide) (fun c4 => ?_) (fun c4 => ?_)
        · refine J_aload_n dX11_own_43 rfl 0 rfl ?_
          refine J_iload_n dX11_own_44 rfl 3 rfl ?_
          refine J_eVN (z := mX11_know) (As := [.int x3]) (rest := []) (ci := 11) (w := (f_know (up2 v 1100 2 0) N x3)) dX11_own_45 ml_X11_257 ok_X11_know iv_X11_know (by decide) (i1100 hI) rfl rfl rfl rfl (Nat.le_of_ble_eq_true rfl) (k_X11_know hI (up2 v 1100 2 0) u _ N hN hW) ?_
          refine J_aload_n dX11_own_48 rfl 0 rfl ?_
          refine J_iload_n dX11_own_49 rfl 1 rfl ?_
          refine J_iload_n dX11_own_50 rfl 2 rfl ?_
          refine J_iload_n dX11_own_51 rfl 3 rfl ?_
          refine J_eVN (z := mX11_years) (As := [.int x1, .int x2, .int x3]) (rest := []) (ci := 11) (w := f_years (f_know (up2 v 1100 2 0) N x3) n x2.toNatClampNeg x1 x3) dX11_own_52 ml_X11_292 ok_X11_years iv_X11_years (by decide) (i1100 hI) rfl rfl rfl rfl (Nat.le_of_ble_eq_true rfl) (k2_years hI (f_know (up2 v 1100 2 0) N x3) u n hL2 (by rw [f_know_m (by decide) (by decide)]; exact hL) _ _ _ (rng_of (m := 9) (by omega) (isIn_ne c2).1 (isIn_ne c2).2)) ?_
          refine J_iload dX11_own_55 4 rfl ?_
          refine J_if_ne (tgt := 67) dX11_own_57 (by decide) (fun c5 => ?_) (fun c5 => ?_)
          · refine J_iload dX11_own_67 4 rfl ?_
            refine J_iconst (x := 1) dX11_own_69 (by decide) ?_
            refine J_icmp_ne (tgt := 80) dX11_own_70 (by decide) (fun c6 => ?_) (fun c6 => ?_)
            · refine J_aload_n dX11_own_80 rfl 0 rfl ?_
              refine J_iload_n dX11_own_81 rfl 1 rfl ?_
              refine J_iload_n dX11_own_82 rfl 2 rfl ?_
              refine J_iload dX11_own_83 4 rfl ?_
              refine J_iconst (x := 2) dX11_own_85 (by decide) ?_
              refine J_icmp_ne (tgt := 93) dX11_own_86 (by decide) (fun c7 => ?_) (fun c7 => ?_)
              · refine J_iload dX11_own_93 4 rfl ?_
                refine J_iconst (x := 3) dX11_own_95 (by decide) ?_
                refine J_icmp_ne (tgt := 103) dX11_own_96 (by decide) (fun c8 => ?_) (fun c8 => ?_)
                · refine J_iconst (x := (-1)) dX11_own_103 (by decide) ?_
                  refine J_eVI (z := mX11_lived) (As := [.int x1, .int x2, .int (-1)]) (rest := []) (ci := 11) (x := f_X11_lived (f_years (f_know (up2 v 1100 2 0) N x3) n x2.toNatClampNeg x1 x3) x1 x2 (-1)) dX11_own_104 ml_X11_296 ok_X11_lived iv_X11_lived (by decide) (i1100 hI) rfl rfl rfl rfl (Nat.le_of_ble_eq_true rfl) (k_X11_lived hI _ _ _ _ _ (tb_in c1 c2)) ?_
                  exact J_iret dX11_own_107 rfl ⟨_, rfl, rfl, by unfold f_X11_own; rw [if_neg c1, if_neg c2, if_neg c3, if_neg c4, if_neg c5, if_neg c6, if_neg c7, if_neg c8], by unfold f_X11_own; rw [if_neg c1, if_neg c2, if_neg c3, if_neg c4, if_neg c5, if_neg c6, if_neg c7, if_neg c8]⟩
                · refine J_iconst (x := 1) dX11_own_99 (by decide) ?_
                  refine J_goto (tgt := 104) dX11_own_100 (by decide) ?_
                  refine J_eVI (z := mX11_lived) (As := [.int x1, .int x2, .int 1]) (rest := []) (ci := 11) (x := f_X11_lived (f_years (f_know (up2 v 1100 2 0) N x3) n x2.toNatClampNeg x1 x3) x1 x2 1) dX11_own_104 ml_X11_296 ok_X11_lived iv_X11_lived (by decide) (i1100 hI) rfl rfl rfl rfl (Nat.le_of_ble_eq_true rfl) (k_X11_lived hI _ _ _ _ _ (tb_in c1 c2)) ?_
                  exact J_iret dX11_own_107 rfl ⟨_, rfl, rfl, by unfold f_X11_own; rw [if_neg c1, if_neg c2, if_neg c3, if_neg c4, if_neg c5, if_neg c6, if_neg c7, if_pos c8], by unfold f_X11_own; rw [if_neg c1, if_neg c2, if_neg c3, if_neg c4, if_neg c5, if_neg c6, if_neg c7, if_pos c8]⟩
              · refine J_iconst (x := 0) dX11_own_89 (by decide) ?_
                refine J_goto (tgt := 104) dX11_own_90 (by decide) ?_
                refine J_eVI (z := mX11_lived) (As := [.int x1, .int x2, .int 0]) (rest := []) (ci := 11) (x := f_X11_lived (f_years (f_know (up2 v 1100 2 0) N x3) n x2.toNatClampNeg x1 x3) x1 x2 0) dX11_own_104 ml_X11_296 ok_X11_lived iv_X11_lived (by decide) (i1100 hI) rfl rfl rfl rfl (Nat.le_of_ble_eq_true rfl) (k_X11_lived hI _ _ _ _ _ (tb_in c1 c2)) ?_
                exact J_iret dX11_own_107 rfl ⟨_, rfl, rfl, by unfold f_X11_own; rw [if_neg c1, if_neg c2, if_neg c3, if_neg c4, if_neg c5, if_neg c6, if_pos c7], by unfold f_X11_own; rw [if_neg c1, if_neg c2, if_neg c3, if_neg c4, if_neg c5, if_neg c6, if_pos c7]⟩
            · refine J_aload_n dX11_own_73 rfl 0 rfl ?_
              refine J_gete (ci := 11) (j := 50) (x := (f_years (f_know (up2 v 1100 2 0) N x3) n x2.toNatClampNeg x1 x3) 1100 50) dX11_own_74 fl_X11_289 (i1100 hI) rfl rfl rfl ?_
              refine J_goto (tgt := 107) dX11_own_77 (by decide) ?_
              exact J_iret dX11_own_107 rfl ⟨_, rfl, rfl, by unfold f_X11_own; rw [if_neg c1, if_neg c2, if_neg c3, if_neg c4, if_neg c5, if_pos c6], by unfold f_X11_own; rw [if_neg c1, if_neg c2, if_neg c3, if_neg c4, if_neg c5, if_pos c6]⟩
          · refine J_aload_n dX11_own_60 rfl 0 rfl ?_
            refine J_gete (ci := 11) (j := 49) (x := (f_years (f_know (up2 v 1100 2 0) N x3) n x2.toNatClampNeg x1 x3) 1100 49) dX11_own_61 fl_X11_286 (i1100 hI) rfl rfl rfl ?_
            refine J_goto (tgt := 107) dX11_own_64 (by decide) ?_
            exact J_iret dX11_own_107 rfl ⟨_, rfl, rfl, by unfold f_X11_own; rw [if_neg c1, if_neg c2, if_neg c3, if_neg c4, if_pos c5], by unfold f_X11_own; rw [if_neg c1, if_neg c2, if_neg c3, if_neg c4, if_pos c5]⟩
        · refine J_iconst (x := (-1)) dX11_own_41 (by decide) ?_
          exact J_iret dX11_own_42 rfl ⟨_, rfl, rfl, by unfold f_X11_own; rw [if_neg c1, if_neg c2, if_neg c3, if_pos c4], by unfold f_X11_own; rw [if_neg c1, if_neg c2, if_neg c3, if_pos c4]⟩
theorem nt_sub {S O : Nat → Int32} {N : Nat} {x a : Int32} (hW : nt_ok S O N) (hN : a = nI N) (h1 : ¬ x < 0) (h2 : ¬ a ≤ x) (h3 : S x.toNatClampNeg = 0) : vp_in (O x.toNatClampNeg) 12 := by
  obtain ⟨j, hj, rfl⟩ := nI_of h1
  rw [hN] at h2
  have h4 : j < N := nz_nle (by have := hW.1; omega) hj h2
  rw [nI_clamp hj] at h3 ⊢
  exact (hW.2 j h4).2 (by rw [h3]; decide)
def f_X11_holds (v : fr_V) (N : Nat) (x1 x2 : Int32) : Int32 × fr_V := if x1 < 0 then ((-1), up2 v 1100 2 0) else if (v 1100 16) ≤ x1 then ((-1), up2 v 1100 2 0) else if (f_X11_isHalf (up2 v 1100 2 0)  x2) = 0 then ((-1), up2 v 1100 2 0) else if ((f_know (up2 v 1100 2 0) N x2) 1145 x1.toNatClampNeg) = 0 then (0, (f_know (up2 v 1100 2 0) N x2)) else if ((f_know (up2 v 1100 2 0) N x2) 1118 x1.toNatClampNeg) = 0 then (if (f_X11_isFalse (f_know (up2 v 1100 2 0) N x2)  x1) = 0 then (1, (f_know (up2 v 1100 2 0) N x2)) else (2, (f_know (up2 v 1100 2 0) N x2))) else (1, (f_know (up2 v 1100 2 0) N x2))
theorem k_X11_holds {l : Launch} {I : List Nat} (hI : fr_I I) (v : fr_V) (u : fr_U) (N : Nat) (x1 x2 : Int32) (hN : v 1100 16 = nI N) (hW : nt_ok (v 1118) (v 1119) N) : Con l mX11_holds I v u [.ref 1100, .int x1, .int x2] (QX u (fun a b => a = (f_X11_holds v N x1 x2).1 ∧ b = (f_X11_holds v N x1 x2).2)) := by
  refine Con.of (by decide) (Nat.le_of_ble_eq_true rfl) ?_
  show J l mX11_holds I v u 0 [(0, .ref 1100), (1, .int x1), (2, .int x2)] [] _
  refine J_aload_n dX11_holds_0 rfl 0 rfl ?_
  refine J_iconst (x := 0) dX11_holds_1 (by decide) ?_
  refine J_puti (ci := 11) (j := 2) dX11_holds_2 fl_X11_129 (i1100 hI) rfl rfl (fun q h => by cases h; rfl) rfl ?_
  refine J_iload_n dX11_holds_5 rfl 1 rfl ?_
  refine J_if_lt (tgt := 24) dX11_holds_6 (by decide) (fun c1 => ?_) (fun c1 => ?_)
  · refine J_iconst (x := (-1)) dX11_holds_24 (by decide) ?_
    exact J_iret dX11_holds_25 rfl ⟨_, rfl, rfl, by unfold f_X11_holds; rw [if_pos c1], by unfold f_X11_holds; rw [if_pos c1]⟩
  · refine J_iload_n dX11_holds_9 rfl 1 rfl ?_
    refine J_aload_n dX11_holds_10 rfl 0 rfl ?_
    refine J_gete (ci := 11) (j := 16) (x := v 1100 16) dX11_holds_11 fl_X11_252 (i1100 hI) rfl rfl rfl ?_
    refine J_icmp_ge (tgt := 24) dX11_holds_14 (by decide) (fun c2 => ?_) (fun c2 => ?_)
    · refine J_iconst (x := (-1)) dX11_holds_24 (by decide) ?_
      exact J_iret dX11_holds_25 rfl ⟨_, rfl, rfl, by unfold f_X11_holds; rw [if_neg c1, if_pos c2], by unfold f_X11_holds; rw [if_neg c1, if_pos c2]⟩
    · refine J_iload_n dX11_holds_17 rfl 2 rfl ?_
      refine J_eSI (z := mX11_isHalf) (As := [.int x2]) (rest := []) (x := f_X11_isHalf (up2 v 1100 2 0)  x2) dX11_holds_18 ml_X11_249 ok_X11_isHalf iv_X11_isHalf (by decide) rfl rfl (Nat.le_of_ble_eq_true rfl) (k_X11_isHalf hI (up2 v 1100 2 0) u _ ) ?_
      refine J_if_ne (tgt := 26) dX11_holds_21 (by decide) (fun c3 => ?_) (fun c3 => ?_)
      · refine J_aload_n dX11_holds_26 rfl 0 rfl ?_
        refine J_iload_n dX11_holds_27 rfl 2 rfl ?_
        refine J_eVN (z := mX11_know) (As := [.int x2]) (rest := []) (ci := 11) (w := (f_know (up2 v 1100 2 0) N x2)) dX11_holds_28 ml_X11_257 ok_X11_know iv_X11_know (by decide) (i1100 hI) rfl rfl rfl rfl (Nat.le_of_ble_eq_true rfl) (k_X11_know hI (up2 v 1100 2 0) u _ N hN hW) ?_
        refine J_aload_n dX11_holds_31 rfl 0 rfl ?_
        refine J_getr (ci := 11) (j := 44) (t := 1145) dX11_holds_32 fl_X11_93 (i1100 hI) rfl rfl rfl ?_
        refine J_iload_n dX11_holds_35 rfl 1 rfl ?_
        refine J_zale (x := (f_know (up2 v 1100 2 0) N x2) 1145 x1.toNatClampNeg) dX11_holds_36 (i1145 hI) rfl (lim_in hN hW.1 (by omega) (by assumption) (by assumption)) rfl ?_
        refine J_if_ne (tgt := 44) dX11_holds_37 (by decide) (fun c4 => ?_) (fun c4 => ?_)
        · refine J_aload_n dX11_holds_44 rfl 0 rfl ?_
          refine J_getr (ci := 11) (j := 17) (t := 1118) dX11_holds_45 fl_X11_40 (i1100 hI) rfl rfl rfl ?_
          refine J_iload_n dX11_holds_48 rfl 1 rfl ?_
          refine J_iale (x := (f_know (up2 v 1100 2 0) N x2) 1118 x1.toNatClampNeg) dX11_holds_49 (i1118 hI) rfl (lim_in hN hW.1 (by omega) (by assumption) (by assumption)) rfl ?_
          refine J_if_ne (tgt := 65) dX11_holds_50 (by decide) (fun c5 => ?_) (fun c5 => ?_)
          · refine J_iconst (x := 1) dX11_holds_65 (by decide) ?_
            exact J_iret dX11_holds_66 rfl ⟨_, rfl, rfl, by unfold f_X11_holds; rw [if_neg c1, if_neg c2, if_neg c3, if_neg c4, if_neg c5], by unfold f_X11_holds; rw [if_neg c1, if_neg c2, if_neg c3, if_neg c4, if_neg c5]⟩
          · refine J_aload_n dX11_holds_53 rfl 0 rfl ?_
            refine J_iload_n dX11_holds_54 rfl 1 rfl ?_
            refine J_eVI (z := mX11_isFalse) (As := [.int x1]) (rest := []) (ci := 11) (x := f_X11_isFalse (f_know (up2 v 1100 2 0) N x2)  x1) dX11_holds_55 ml_X11_261 ok_X11_isFalse iv_X11_isFalse (by decide) (i1100 hI) rfl rfl rfl rfl (Nat.le_of_ble_eq_true rfl) (k_X11_isFalse hI (f_know (up2 v 1100 2 0) N x2) u _ (lim_in hN hW.1 (by omega) (by first | assumption | exact lf_in hL hL2 (by assumption) | exact rt_in hR hR2 (by assumption) | exact nt_in hN hW.1 (by assumption) | exact (fun h => absurd rfl h) | exact (fun _ => lf_in hL hL2 (by assumption)) | exact (fun h => absurd (by assumption) h)) (by first | assumption | exact lf_in hL hL2 (by assumption) | exact rt_in hR hR2 (by assumption) | exact nt_in hN hW.1 (by assumption) | exact (fun h => absurd rfl h) | exact (fun _ => lf_in hL hL2 (by assumption)) | exact (fun h => absurd (by assumption) h))) (nt_sub hW hN (by first | assumption | exact lf_in hL hL2 (by assumption) | exact rt_in hR hR2 (by assumption) | exact nt_in hN hW.1 (by assumption) | exact (fun h => absurd rfl h) | exact (fun _ => lf_in hL hL2 (by assumption)) | exact (fun h => absurd (by assumption) h)) (by first | assumption | exact lf_in hL hL2 (by assumption) | exact rt_in hR hR2 (by assumption) | exact nt_in hN hW.1 (by assumption) | exact (fun h => absurd rfl h) | exact (fun _ => lf_in hL hL2 (by assumption)) | exact (fun h => absurd (by assumption) h)) (by first | assumption | exact lf_in hL hL2 (by assumption) | exact rt_in hR hR2 (by assumption) | exact nt_in hN hW.1 (by assumption) | exact (fun h => absurd rfl h) | exact (fun _ => lf_in hL hL2 (by assumption)) | exact (fun h => absurd (by assumption) h)))) ?_
            refine J_if_eq (tgt := 65) dX11_holds_58 (by decide) (fun c6 => ?_) (fun c6 => ?_)
            · refine J_iconst (x := 1) dX11_holds_65 (by decide) ?_
              exact J_iret dX11_holds_66 rfl ⟨_, rfl, rfl, by unfold f_X11_holds; rw [if_neg c1, if_neg c2, if_neg c3, if_neg c4, if_pos c5, if_pos c6], by unfold f_X11_holds; rw [if_neg c1, if_neg c2, if_neg c3, if_neg c4, if_pos c5, if_pos c6]⟩
            · refine J_iconst (x := 2) dX11_holds_61 (by decide) ?_
              refine J_goto (tgt := 66) dX11_holds_62 (by decide) ?_
              exact J_iret dX11_holds_66 rfl ⟨_, rfl, rfl, by unfold f_X11_holds; rw [if_neg c1, if_neg c2, if_neg c3, if_neg c4, if_pos c5, if_neg c6], by unfold f_X11_holds; rw [if_neg c1, if_neg c2, if_neg c3, if_neg c4, if_pos c5, if_neg c6]⟩
        · refine J_iconst (x := 0) dX11_holds_40 (by decide) ?_
          refine J_goto (tgt := 66) dX11_holds_41 (by decide) ?_
          exact J_iret dX11_holds_66 rfl ⟨_, rfl, rfl, by unfold f_X11_holds; rw [if_neg c1, if_neg c2, if_neg c3, if_pos c4], by unfold f_X11_holds; rw [if_neg c1, if_neg c2, if_neg c3, if_pos c4]⟩
      · refine J_iconst (x := (-1)) dX11_holds_24 (by decide) ?_
        exact J_iret dX11_holds_25 rfl ⟨_, rfl, rfl, by unfold f_X11_holds; rw [if_neg c1, if_neg c2, if_pos c3], by unfold f_X11_holds; rw [if_neg c1, if_neg c2, if_pos c3]⟩
theorem lf_lay {v : fr_V} {n N P : Nat} {x1 x : Int32} (h : lfOK v x P) : lfOK (f_lay v n N x1) x P := by
  obtain ⟨h1, ⟨i, hi, hc⟩, hp, hP⟩ := h
  have e : f_X11_ageIn (f_lay v n N x1) x (f_lay v n N x1 1100 3) = f_X11_ageIn v x (v 1100 3) := by
    unfold f_X11_ageIn
    rw [f_lay_m (by unfold ly_off; decide), f_lay_m (by unfold ly_off; exact ⟨by omega, by decide, by decide, by decide⟩)]
  refine ⟨h1, ⟨i, hi, ?_⟩, by rw [e]; exact hp, hP⟩
  rw [f_lay_m (by unfold ly_off; exact ⟨by omega, by decide, by decide, by decide⟩)]
  exact hc
theorem nz_99 {P : Nat} {x : Int32} (hx : x = nI P) (hP : P < 1000) (h : ¬ 99 < x) : P ≤ 99 := by
  rw [hx] at h
  exact Nat.le_of_not_lt (fun q => h (nI_lt (a := 99) q (by omega)))
theorem nz_99' {P : Nat} {x : Int32} (hx : x = nI P) (hP : P < 1000) (h : x ≤ 99) : P ≤ 99 := by
  rw [hx] at h
  exact nz_le (b := 99) (by omega) (by omega) h
def f_X11_worth (v : fr_V) (N : Nat) (n : Nat) (P : Nat) (Q0 : Nat) (x1 x2 x3 : Int32) : Int32 × fr_V := if (f_X11_isLife (up2 v 1100 2 0)  x1) = 0 then ((-1), up2 v 1100 2 0) else if x2 = (-1) then (if (f_X11_isIn (up2 v 1100 2 0)  x3 0 3) = 0 then ((-1), up2 v 1100 2 0) else if 99 < (f_X11_ageIn (up2 v 1100 2 0)  x1 (v 1100 3)) then ((-1), up2 v 1100 2 0) else if x2 = (-1) then (f_X11_worthOn (f_lay (up2 v 1100 2 0) n N x3) P Q0 x1 x2, f_lay (up2 v 1100 2 0) n N x3) else if (f_X11_ageIn (up2 v 1100 2 0) x2 (v 1100 3)) ≤ 99 then (f_X11_worthOn (f_lay (up2 v 1100 2 0) n N x3) P Q0 x1 x2, f_lay (up2 v 1100 2 0) n N x3) else ((-1), up2 v 1100 2 0)) else if (f_X11_isLife (up2 v 1100 2 0)  x2) = 0 then ((-1), up2 v 1100 2 0) else if x1 = x2 then ((-1), up2 v 1100 2 0) else if (f_X11_isIn (up2 v 1100 2 0)  x3 0 3) = 0 then ((-1), up2 v 1100 2 0) else if 99 < (f_X11_ageIn (up2 v 1100 2 0)  x1 (v 1100 3)) then ((-1), up2 v 1100 2 0) else if x2 = (-1) then (f_X11_worthOn (f_lay (up2 v 1100 2 0) n N x3) P Q0 x1 x2, f_lay (up2 v 1100 2 0) n N x3) else if (f_X11_ageIn (up2 v 1100 2 0)  x2 (v 1100 3)) ≤ 99 then (f_X11_worthOn (f_lay (up2 v 1100 2 0) n N x3) P Q0 x1 x2, f_lay (up2 v 1100 2 0) n N x3) else ((-1), up2 v 1100 2 0)
theorem k_X11_worth {l : Launch} {I : List Nat} (hI : fr_I I) (v : fr_V) (u : fr_U) (N : Nat) (n : Nat) (P : Nat) (Q0 : Nat) (x1 x2 x3 : Int32) (hN : v 1100 16 = nI N) (hW : nt_ok (v 1118) (v 1119) N) (hL : v 1100 4 = nI n) (hL2 : n ≤ 12) (hA : ¬ f_X11_isLife (up2 v 1100 2 0) x1 = 0 → lfOK (up2 v 1100 2 0) x1 P) (hB : ¬ x2 = (-1) → ¬ f_X11_isLife (up2 v 1100 2 0) x2 = 0 → lfOK (up2 v 1100 2 0) x2 Q0) (hr : ¬ v 1141 2 + 1 = 0) : Con l mX11_worth I v u [.ref 1100, .int x1, .int x2, .int x3] (QX u (fun a b => a = (f_X11_worth v N n P Q0 x1 x2 x3).1 ∧ b = (f_X11_worth v N n P Q0 x1 x2 x3).2)) := by
  refine Con.of (by decide) (Nat.le_of_ble_eq_true rfl) ?_
  show J l mX11_worth I v u 0 [(0, .ref 1100), (1, .int x1), (2, .int x2), (3, .int x3)] [] _
  refine J_aload_n dX11_worth_0 rfl 0 rfl ?_
  refine J_iconst (x := 0) dX11_worth_1 (by decide) ?_
  refine J_puti (ci := 11) (j := 2) dX11_worth_2 fl_X11_129 (i1100 hI) rfl rfl (fun q h => by cases h; rfl) rfl ?_
  refine J_aload_n dX11_worth_5 rfl 0 rfl ?_
  refine J_iload_n dX11_worth_6 rfl 1 rfl ?_
  refine J_eVI (z := mX11_isLife) (As := [.int x1]) (rest := []) (ci := 11) (x := f_X11_isLife (up2 v 1100 2 0)  x1) dX11_worth_7 ml_X11_221 ok_X11_isLife iv_X11_isLife (by decide) (i1100 hI) rfl rfl rfl rfl (Nat.le_of_ble_eq_true rfl) (k_X11_isLife hI (up2 v 1100 2 0) u _ ) ?_
  refine J_if_eq (tgt := 73) dX11_worth_10 (by decide) (fun c1 => ?_) (fun c1 => ?_)
  · refine J_iconst (x := (-1)) dX11_worth_73 (by decide) ?_
    exact J_iret dX11_worth_74 rfl ⟨_, rfl, rfl, by unfold f_X11_worth; rw [if_pos c1], by unfold f_X11_worth; rw [if_pos c1]⟩
  · refine J_iload_n dX11_worth_13 rfl 2 rfl ?_
    refine J_iconst (x := (-1)) dX11_worth_14 (by decide) ?_
    refine J_icmp_eq (tgt := 31) dX11_worth_15 (by decide) (fun c2 => ?_) (fun c2 => ?_)
    · refine J_iload_n dX11_worth_31 rfl 3 rfl ?_
      refine J_iconst (x := 0) dX11_worth_32 (by decide) ?_
      refine J_iconst (x := 3) dX11_worth_33 (by decide) ?_
      refine J_eSI (z := mX11_isIn) (As := [.int x3, .int 0, .int 3]) (rest := []) (x := f_X11_isIn (up2 v 1100 2 0)  x3 0 3) dX11_worth_34 ml_X11_204 ok_X11_isIn iv_X11_isIn (by decide) rfl rfl (Nat.le_of_ble_eq_true rfl) (k_X11_isIn hI (up2 v 1100 2 0) u _ _ _ ) ?_
      refine J_if_eq (tgt := 73) dX11_worth_37 (by decide) (fun c3 => ?_) (fun c3 => ?_)
      · refine J_iconst (x := (-1)) dX11_worth_73 (by decide) ?_
        exact J_iret dX11_worth_74 rfl ⟨_, rfl, rfl, by unfold f_X11_worth; rw [if_neg c1, if_pos c2, if_pos c3], by unfold f_X11_worth; rw [if_neg c1, if_pos c2, if_pos c3]⟩
      · refine J_aload_n dX11_worth_40 rfl 0 rfl ?_
        refine J_iload_n dX11_worth_41 rfl 1 rfl ?_
        refine J_aload_n dX11_worth_42 rfl 0 rfl ?_
        refine J_gete (ci := 11) (j := 3) (x := v 1100 3) dX11_worth_43 fl_X11_208 (i1100 hI) rfl rfl rfl ?_
        refine J_eVI (z := mX11_ageIn) (As := [.int x1, .int (v 1100 3)]) (rest := []) (ci := 11) (x := f_X11_ageIn (up2 v 1100 2 0)  x1 (v 1100 3)) dX11_worth_46 ml_X11_214 ok_X11_ageIn iv_X11_ageIn (by decide) (i1100 hI) rfl rfl rfl rfl (Nat.le_of_ble_eq_true rfl) (k_X11_ageIn hI (up2 v 1100 2 0) u _ _ (by first | assumption | exact lf_in hL hL2 (by assumption) | exact rt_in hR hR2 (by assumption) | exact nt_in hN hW.1 (by assumption) | exact (fun h => absurd rfl h) | exact (fun _ => lf_in hL hL2 (by assumption)) | exact (fun h => absurd (by assumption) h))) ?_
        refine J_bipush (x := 99) dX11_worth_49 (by decide) ?_
        refine J_icmp_gt (tgt := 73) dX11_worth_51 (by decide) (fun c4 => ?_) (fun c4 => ?_)
        · refine J_iconst (x := (-1)) dX11_worth_73 (by decide) ?_
          exact J_iret dX11_worth_74 rfl ⟨_, rfl, rfl, by unfold f_X11_worth; rw [if_neg c1, if_pos c2, if_neg c3, if_pos c4], by unfold f_X11_worth; rw [if_neg c1, if_pos c2, if_neg c3, if_pos c4]⟩
        · refine J_iload_n dX11_worth_54 rfl 2 rfl ?_
          refine J_iconst (x := (-1)) dX11_worth_55 (by decide) ?_
          refine J_icmp_eq (tgt := 75) dX11_worth_56 (by decide) (fun c5 => ?_) (fun c5 => ?_)
          · refine J_aload_n dX11_worth_75 rfl 0 rfl ?_
            refine J_iload_n dX11_worth_76 rfl 3 rfl ?_
            refine J_eVN (z := mX11_lay) (As := [.int x3]) (rest := []) (ci := 11) (w := f_lay (up2 v 1100 2 0) n N x3) dX11_worth_77 ml_X11_314 ok_X11_lay iv_X11_lay (by decide) (i1100 hI) rfl rfl rfl rfl (Nat.le_of_ble_eq_true rfl) (k_X11_lay hI (up2 v 1100 2 0) u n N hL2 hL hN hW _) ?_
            refine J_aload_n dX11_worth_80 rfl 0 rfl ?_
            refine J_iload_n dX11_worth_81 rfl 1 rfl ?_
            refine J_iload_n dX11_worth_82 rfl 2 rfl ?_
            refine J_eVI (z := mX11_worthOn) (As := [.int x1, .int x2]) (rest := []) (ci := 11) (x := f_X11_worthOn (f_lay (up2 v 1100 2 0) n N x3) P Q0 x1 x2) dX11_worth_83 ml_X11_317 ok_X11_worthOn iv_X11_worthOn (by decide) (i1100 hI) rfl rfl rfl rfl (Nat.le_of_ble_eq_true rfl) (k_X11_worthOn hI (f_lay (up2 v 1100 2 0) n N x3) u P Q0 _ _ (fun _ => lf_lay (v := up2 v 1100 2 0) (hA (by assumption))) (fun h => absurd c2 h) (fun _ => nz_99 (hA (by assumption)).2.2.1 (hA (by assumption)).2.2.2 (by assumption)) (fun h => absurd (by assumption) h) (by rw [f_lay_m (by unfold ly_off; decide)]; exact hr)) ?_
            exact J_iret dX11_worth_86 rfl ⟨_, rfl, rfl, by unfold f_X11_worth; rw [if_neg c1, if_pos c2, if_neg c3, if_neg c4, if_pos c5], by unfold f_X11_worth; rw [if_neg c1, if_pos c2, if_neg c3, if_neg c4, if_pos c5]⟩
          · refine J_aload_n dX11_worth_59 rfl 0 rfl ?_
            refine J_iload_n dX11_worth_60 rfl 2 rfl ?_
            refine J_aload_n dX11_worth_61 rfl 0 rfl ?_
            refine J_gete (ci := 11) (j := 3) (x := v 1100 3) dX11_worth_62 fl_X11_208 (i1100 hI) rfl rfl rfl ?_
            refine J_eVI (z := mX11_ageIn) (As := [.int x2, .int (v 1100 3)]) (rest := []) (ci := 11) (x := f_X11_ageIn (up2 v 1100 2 0) x2 (v 1100 3)) dX11_worth_65 ml_X11_214 ok_X11_ageIn iv_X11_ageIn (by decide) (i1100 hI) rfl rfl rfl rfl (Nat.le_of_ble_eq_true rfl) (k_X11_ageIn hI (up2 v 1100 2 0) u _ _ (absurd c2 c5)) ?_
            refine J_bipush (x := 99) dX11_worth_68 (by decide) ?_
            refine J_icmp_le (tgt := 75) dX11_worth_70 (by decide) (fun c6 => ?_) (fun c6 => ?_)
            · refine J_aload_n dX11_worth_75 rfl 0 rfl ?_
              refine J_iload_n dX11_worth_76 rfl 3 rfl ?_
              refine J_eVN (z := mX11_lay) (As := [.int x3]) (rest := []) (ci := 11) (w := f_lay (up2 v 1100 2 0) n N x3) dX11_worth_77 ml_X11_314 ok_X11_lay iv_X11_lay (by decide) (i1100 hI) rfl rfl rfl rfl (Nat.le_of_ble_eq_true rfl) (k_X11_lay hI (up2 v 1100 2 0) u n N hL2 hL hN hW _) ?_
              refine J_aload_n dX11_worth_80 rfl 0 rfl ?_
              refine J_iload_n dX11_worth_81 rfl 1 rfl ?_
              refine J_iload_n dX11_worth_82 rfl 2 rfl ?_
              refine J_eVI (z := mX11_worthOn) (As := [.int x1, .int x2]) (rest := []) (ci := 11) (x := f_X11_worthOn (f_lay (up2 v 1100 2 0) n N x3) P Q0 x1 x2) dX11_worth_83 ml_X11_317 ok_X11_worthOn iv_X11_worthOn (by decide) (i1100 hI) rfl rfl rfl rfl (Nat.le_of_ble_eq_true rfl) (k_X11_worthOn hI (f_lay (up2 v 1100 2 0) n N x3) u P Q0 _ _ (fun _ => lf_lay (v := up2 v 1100 2 0) (hA (by assumption))) (fun h => absurd c2 h) (fun _ => nz_99 (hA (by assumption)).2.2.1 (hA (by assumption)).2.2.2 (by assumption)) (fun h => absurd (by assumption) h) (by rw [f_lay_m (by unfold ly_off; decide)]; exact hr)) ?_
              exact J_iret dX11_worth_86 rfl ⟨_, rfl, rfl, by unfold f_X11_worth; rw [if_neg c1, if_pos c2, if_neg c3, if_neg c4, if_neg c5, if_pos c6], by unfold f_X11_worth; rw [if_neg c1, if_pos c2, if_neg c3, if_neg c4, if_neg c5, if_pos c6]⟩
            · refine J_iconst (x := (-1)) dX11_worth_73 (by decide) ?_
              exact J_iret dX11_worth_74 rfl ⟨_, rfl, rfl, by unfold f_X11_worth; rw [if_neg c1, if_pos c2, if_neg c3, if_neg c4, if_neg c5, if_neg c6], by unfold f_X11_worth; rw [if_neg c1, if_pos c2, if_neg c3, if_neg c4, if_neg c5, if_neg c6]⟩
    · refine J_aload_n dX11_worth_18 rfl 0 rfl ?_
      refine J_iload_n dX11_worth_19 rfl 2 rfl ?_
      refine J_eVI (z := mX11_isLife) (As := [.int x2]) (rest := []) (ci := 11) (x := f_X11_isLife (up2 v 1100 2 0)  x2) dX11_worth_20 ml_X11_221 ok_X11_isLife iv_X11_isLife (by decide) (i1100 hI) rfl rfl rfl rfl (Nat.le_of_ble_eq_true rfl) (k_X11_isLife hI (up2 v 1100 2 0) u _ ) ?_
      refine J_if_eq (tgt := 73) dX11_worth_23 (by decide) (fun c7 => ?_) (fun c7 => ?_)
      · refine J_iconst (x := (-1)) dX11_worth_73 (by decide) ?_
        exact J_iret dX11_worth_74 rfl ⟨_, rfl, rfl, by unfold f_X11_worth; rw [if_neg c1, if_neg c2, if_pos c7], by unfold f_X11_worth; rw [if_neg c1, if_neg c2, if_pos c7]⟩
      · refine J_iload_n dX11_worth_26 rfl 1 rfl ?_
        refine J_iload_n dX11_worth_27 rfl 2 rfl ?_
        refine J_icmp_eq (tgt := 73) dX11_worth_28 (by decide) (fun c8 => ?_) (fun c8 => ?_)
        · refine J_iconst (x := (-1)) dX11_worth_73 (by decide) ?_
          exact J_iret dX11_worth_74 rfl ⟨_, rfl, rfl, by unfold f_X11_worth; rw [if_neg c1, if_neg c2, if_neg c7, if_pos c8], by unfold f_X11_worth; rw [if_neg c1, if_neg c2, if_neg c7, if_pos c8]⟩
        · refine J_iload_n dX11_worth_31 rfl 3 rfl ?_
          refine J_iconst (x := 0) dX11_worth_32 (by decide) ?_
          refine J_iconst (x := 3) dX11_worth_33 (by decide) ?_
          refine J_eSI (z := mX11_isIn) (As := [.int x3, .int 0, .int 3]) (rest := []) (x := f_X11_isIn (up2 v 1100 2 0)  x3 0 3) dX11_worth_34 ml_X11_204 ok_X11_isIn iv_X11_isIn (by decide) rfl rfl (Nat.le_of_ble_eq_true rfl) (k_X11_isIn hI (up2 v 1100 2 0) u _ _ _ ) ?_
          refine J_if_eq (tgt := 73) dX11_worth_37 (by decide) (fun c9 => ?_) (fun c9 => ?_)
          · refine J_iconst (x := (-1)) dX11_worth_73 (by decide) ?_
            exact J_iret dX11_worth_74 rfl ⟨_, rfl, rfl, by unfold f_X11_worth; rw [if_neg c1, if_neg c2, if_neg c7, if_neg c8, if_pos c9], by unfold f_X11_worth; rw [if_neg c1, if_neg c2, if_neg c7, if_neg c8, if_pos c9]⟩
          · refine J_aload_n dX11_worth_40 rfl 0 rfl ?_
            refine J_iload_n dX11_worth_41 rfl 1 rfl ?_
            refine J_aload_n dX11_worth_42 rfl 0 rfl ?_
            refine J_gete (ci := 11) (j := 3) (x := v 1100 3) dX11_worth_43 fl_X11_208 (i1100 hI) rfl rfl rfl ?_
            refine J_eVI (z := mX11_ageIn) (As := [.int x1, .int (v 1100 3)]) (rest := []) (ci := 11) (x := f_X11_ageIn (up2 v 1100 2 0)  x1 (v 1100 3)) dX11_worth_46 ml_X11_214 ok_X11_ageIn iv_X11_ageIn (by decide) (i1100 hI) rfl rfl rfl rfl (Nat.le_of_ble_eq_true rfl) (k_X11_ageIn hI (up2 v 1100 2 0) u _ _ (by first | assumption | exact lf_in hL hL2 (by assumption) | exact rt_in hR hR2 (by assumption) | exact nt_in hN hW.1 (by assumption) | exact (fun h => absurd rfl h) | exact (fun _ => lf_in hL hL2 (by assumption)) | exact (fun h => absurd (by assumption) h))) ?_
            refine J_bipush (x := 99) dX11_worth_49 (by decide) ?_
            refine J_icmp_gt (tgt := 73) dX11_worth_51 (by decide) (fun c10 => ?_) (fun c10 => ?_)
            · refine J_iconst (x := (-1)) dX11_worth_73 (by decide) ?_
              exact J_iret dX11_worth_74 rfl ⟨_, rfl, rfl, by unfold f_X11_worth; rw [if_neg c1, if_neg c2, if_neg c7, if_neg c8, if_neg c9, if_pos c10], by unfold f_X11_worth; rw [if_neg c1, if_neg c2, if_neg c7, if_neg c8, if_neg c9, if_pos c10]⟩
            · refine J_iload_n dX11_worth_54 rfl 2 rfl ?_
              refine J_iconst (x := (-1)) dX11_worth_55 (by decide) ?_
              refine J_icmp_eq (tgt := 75) dX11_worth_56 (by decide) (fun c11 => ?_) (fun c11 => ?_)
              · refine J_aload_n dX11_worth_75 rfl 0 rfl ?_
                refine J_iload_n dX11_worth_76 rfl 3 rfl ?_
                refine J_eVN (z := mX11_lay) (As := [.int x3]) (rest := []) (ci := 11) (w := f_lay (up2 v 1100 2 0) n N x3) dX11_worth_77 ml_X11_314 ok_X11_lay iv_X11_lay (by decide) (i1100 hI) rfl rfl rfl rfl (Nat.le_of_ble_eq_true rfl) (k_X11_lay hI (up2 v 1100 2 0) u n N hL2 hL hN hW _) ?_
                refine J_aload_n dX11_worth_80 rfl 0 rfl ?_
                refine J_iload_n dX11_worth_81 rfl 1 rfl ?_
                refine J_iload_n dX11_worth_82 rfl 2 rfl ?_
                refine J_eVI (z := mX11_worthOn) (As := [.int x1, .int x2]) (rest := []) (ci := 11) (x := f_X11_worthOn (f_lay (up2 v 1100 2 0) n N x3) P Q0 x1 x2) dX11_worth_83 ml_X11_317 ok_X11_worthOn iv_X11_worthOn (by decide) (i1100 hI) rfl rfl rfl rfl (Nat.le_of_ble_eq_true rfl) (k_X11_worthOn hI (f_lay (up2 v 1100 2 0) n N x3) u P Q0 _ _ (fun _ => lf_lay (v := up2 v 1100 2 0) (hA (by assumption))) (fun h => lf_lay (v := up2 v 1100 2 0) (hB h (by assumption))) (fun _ => nz_99 (hA (by assumption)).2.2.1 (hA (by assumption)).2.2.2 (by assumption)) (fun h => absurd c11 h) (by rw [f_lay_m (by unfold ly_off; decide)]; exact hr)) ?_
                exact J_iret dX11_worth_86 rfl ⟨_, rfl, rfl, by unfold f_X11_worth; rw [if_neg c1, if_neg c2, if_neg c7, if_neg c8, if_neg c9, if_neg c10, if_pos c11], by unfold f_X11_worth; rw [if_neg c1, if_neg c2, if_neg c7, if_neg c8, if_neg c9, if_neg c10, if_pos c11]⟩
              · refine J_aload_n dX11_worth_59 rfl 0 rfl ?_
                refine J_iload_n dX11_worth_60 rfl 2 rfl ?_
                refine J_aload_n dX11_worth_61 rfl 0 rfl ?_
                refine J_gete (ci := 11) (j := 3) (x := v 1100 3) dX11_worth_62 fl_X11_208 (i1100 hI) rfl rfl rfl ?_
                refine J_eVI (z := mX11_ageIn) (As := [.int x2, .int (v 1100 3)]) (rest := []) (ci := 11) (x := f_X11_ageIn (up2 v 1100 2 0)  x2 (v 1100 3)) dX11_worth_65 ml_X11_214 ok_X11_ageIn iv_X11_ageIn (by decide) (i1100 hI) rfl rfl rfl rfl (Nat.le_of_ble_eq_true rfl) (k_X11_ageIn hI (up2 v 1100 2 0) u _ _ (by first | assumption | exact lf_in hL hL2 (by assumption) | exact rt_in hR hR2 (by assumption) | exact nt_in hN hW.1 (by assumption) | exact (fun h => absurd rfl h) | exact (fun _ => lf_in hL hL2 (by assumption)) | exact (fun h => absurd (by assumption) h))) ?_
                refine J_bipush (x := 99) dX11_worth_68 (by decide) ?_
                refine J_icmp_le (tgt := 75) dX11_worth_70 (by decide) (fun c12 => ?_) (fun c12 => ?_)
                · refine J_aload_n dX11_worth_75 rfl 0 rfl ?_
                  refine J_iload_n dX11_worth_76 rfl 3 rfl ?_
                  refine J_eVN (z := mX11_lay) (As := [.int x3]) (rest := []) (ci := 11) (w := f_lay (up2 v 1100 2 0) n N x3) dX11_worth_77 ml_X11_314 ok_X11_lay iv_X11_lay (by decide) (i1100 hI) rfl rfl rfl rfl (Nat.le_of_ble_eq_true rfl) (k_X11_lay hI (up2 v 1100 2 0) u n N hL2 hL hN hW _) ?_
                  refine J_aload_n dX11_worth_80 rfl 0 rfl ?_
                  refine J_iload_n dX11_worth_81 rfl 1 rfl ?_
                  refine J_iload_n dX11_worth_82 rfl 2 rfl ?_
                  refine J_eVI (z := mX11_worthOn) (As := [.int x1, .int x2]) (rest := []) (ci := 11) (x := f_X11_worthOn (f_lay (up2 v 1100 2 0) n N x3) P Q0 x1 x2) dX11_worth_83 ml_X11_317 ok_X11_worthOn iv_X11_worthOn (by decide) (i1100 hI) rfl rfl rfl rfl (Nat.le_of_ble_eq_true rfl) (k_X11_worthOn hI (f_lay (up2 v 1100 2 0) n N x3) u P Q0 _ _ (fun _ => lf_lay (v := up2 v 1100 2 0) (hA (by assumption))) (fun h => lf_lay (v := up2 v 1100 2 0) (hB h (by assumption))) (fun _ => nz_99 (hA (by assumption)).2.2.1 (hA (by assumption)).2.2.2 (by assumption)) (fun h => nz_99' (hB h (by assumption)).2.2.1 (hB h (by assumption)).2.2.2 (by assumption)) (by rw [f_lay_m (by unfold ly_off; decide)]; exact hr)) ?_
                  exact J_iret dX11_worth_86 rfl ⟨_, rfl, rfl, by unfold f_X11_worth; rw [if_neg c1, if_neg c2, if_neg c7, if_neg c8, if_neg c9, if_neg c10, if_neg c11, if_pos c12], by unfold f_X11_worth; rw [if_neg c1, if_neg c2, if_neg c7, if_neg c8, if_neg c9, if_neg c10, if_neg c11, if_pos c12]⟩
                · refine J_iconst (x := (-1)) dX11_worth_73 (by decide) ?_
                  exact J_iret dX11_worth_74 rfl ⟨_, rfl, rfl, by unfold f_X11_worth; rw [if_neg c1, if_neg c2, if_neg c7, if_neg c8, if_neg c9, if_neg c10, if_neg c11, if_neg c12], by unfold f_X11_worth; rw [if_neg c1, if_neg c2, if_neg c7, if_neg c8, if_neg c9, if_neg c10, if_neg c11, if_neg c12]⟩
end
section
theorem J_eVY {l : Launch} {y : fr_M} {I : List Nat} {v : fr_V} {u : fr_U} {Q : Option Value → fr_V → fr_U → Prop} {pc : Nat} {lv : List (Nat × Value)} {st : List Value} {z : fr_M} {idx o ci n : Nat} {As rest : List Value} {x : Int64} {w : fr_V} (d : decode y.2.1 pc = .ok (.invokevirtual idx, 3)) (hw : Cond.methodLink y.1.cls idx z.1 ∈ gt) (hz : MOK z n) (hv : Cond.instanceMethod z.1 ∈ gt ∧ Cond.selects z.1.cls z.1 z.1 ∈ gt) (hR : z.2.2.2.2.1 + 1 ≤ y.2.2.2.2.1 ∧ 8 + (z.2.2.1 + 11) + z.2.2.2.2.2 ≤ y.2.2.2.2.2) (ho : o ∈ I) (hs : (sh o).1 = ci) (hc : (fr_cls[ci]?).map (fun q => q.1) = some z.1.cls) (hst : st = As.reverse ++ .ref o :: rest) (hn : As.length = n) (hsum : (rest.map fun x => x.category).sum ≤ 8) (hC : Con l z I v u (.ref o :: As) (QY u (fun a b => a = x ∧ b = w))) (k : J l y I w u (pc + 3) lv (.long x :: rest) Q) : J l y I v u pc lv st Q := by
  refine J_callV d hw hz hv hR ho hs hc hst hn hsum hC (fun r v' u' hq => ?_)
  obtain ⟨x', rfl, rfl, rfl, rfl⟩ := hq
  exact k
theorem k_X11_fails {l : Launch} {I : List Nat} (hI : fr_I I) (v : fr_V) (u : fr_U) (x1 : Int32) : Con l mX11_fails I v u [.ref 1100, .int x1] (QY u (fun a b => a = 0 ∧ b = up2 v 1100 2 x1)) := by
  refine Con.of (by decide) (Nat.le_of_ble_eq_true rfl) ?_
  show J l mX11_fails I v u 0 [(0, .ref 1100), (1, .int x1)] [] _
  refine J_aload_n dX11_fails_0 rfl 0 rfl ?_
  refine J_iload_n dX11_fails_1 rfl 1 rfl ?_
  refine J_puti (ci := 11) (j := 2) dX11_fails_2 fl_X11_129 (i1100 hI) rfl rfl (fun q h => by cases h; rfl) rfl ?_
  refine J_lconst (x := 0) dX11_fails_5 (by decide) ?_
  exact J_lret dX11_fails_6 rfl ⟨_, rfl, rfl, rfl, rfl⟩
def rkc (F S C : Nat → Int32) (l : Int32) : Nat → Int32
  | 0 => 0
  | j + 1 => if F j = l then (if S j = (-1) then rkc F S C l j + C j else rkc F S C l j) else rkc F S C l j
theorem rkc_s (F S C : Nat → Int32) (l : Int32) (j : Nat) : rkc F S C l (j + 1) = if F j = l then (if S j = (-1) then rkc F S C l j + C j else rkc F S C l j) else rkc F S C l j := rfl
def rks (F S B : Nat → Int32) (l : Int32) : Nat → Int32
  | 0 => (-1)
  | j + 1 => if F j = l then (if S j = (-1) then (if rks F S B l j = (-1) then B j else rks F S B l j) else rks F S B l j) else rks F S B l j
theorem rks_s (F S B : Nat → Int32) (l : Int32) (j : Nat) : rks F S B l (j + 1) = if F j = l then (if S j = (-1) then (if rks F S B l j = (-1) then B j else rks F S B l j) else rks F S B l j) else rks F S B l j := rfl
def rkl (S C O H : Nat → Int32) (X : Nat → Int32) (l : Int32) : Nat → Int32
  | 0 => (-1)
  | j + 1 => if S j = 0 then (if C j = 0 then rkl S C O H X l j else if O j = l then (if X j = 0 then (if H j ≤ rkl S C O H X l j then rkl S C O H X l j else H j) else rkl S C O H X l j) else rkl S C O H X l j) else rkl S C O H X l j
theorem rkl_s (S C O H : Nat → Int32) (X : Nat → Int32) (l : Int32) (j : Nat) : rkl S C O H X l (j + 1) = if S j = 0 then (if C j = 0 then rkl S C O H X l j else if O j = l then (if X j = 0 then (if H j ≤ rkl S C O H X l j then rkl S C O H X l j else H j) else rkl S C O H X l j) else rkl S C O H X l j) else rkl S C O H X l j := rfl
def rk_lat (v : fr_V) (N : Nat) (l : Int32) : Int32 := rkl (v 1118) (v 1145) (v 1119) (v 1120) (fun j => f_X11_isFalse v (nI j)) l N
def rk_end (v : fr_V) (N : Nat) (l a b : Int32) : Int64 := a.toInt64 * (1000 - v 1122 (10 * v 1107 l.toNatClampNeg + f_X11_groupOf v (f_X11_ageIn v l (v 1100 3))).toNatClampNeg).toInt64 * (v 1100 3 - (if rk_lat v N l = (-1) then b else rk_lat v N l)).toInt64
def f_riskOf (v : fr_V) (nr N : Nat) (l : Int32) : Int64 := if rkc (v 1111) (v 1112) (v 1113) l nr = 0 then 0 else rk_end v N l (rkc (v 1111) (v 1112) (v 1113) l nr) (rks (v 1111) (v 1112) (v 1109) l nr)
theorem rk_in {v : fr_V} {x : Int32} {P : Nat} (h : lfOK v x P) : vp_in (10 * v 1107 x.toNatClampNeg + f_X11_groupOf v (f_X11_ageIn v x (v 1100 3))) 40 := by
  obtain ⟨h1, ⟨i, hi, hc⟩, hp, hP⟩ := h
  exact lo_in (v := v) hi hc (grp_in (by omega) hp)
theorem rk_L2 {l : Launch} {I : List Nat} (hI : fr_I I) (v : fr_V) (u : fr_U) (x1 : Int32) (P : Nat) (hA : lfOK v x1 P) (N : Nat) (hN : v 1100 16 = nI N) (hW : nt_ok (v 1118) (v 1119) N) (a b : Int32) : ∀ (d j : Nat) (c : Int32) (hd : N - j < d) (hj : j ≤ N) (hc : c = rkl (v 1118) (v 1145) (v 1119) (v 1120) (fun j => f_X11_isFalse v (nI j)) x1 j), J l mX11_riskOf I v u 82 [(0, .ref 1100), (1, .int x1), (2, .int a), (3, .int b), (4, .int c), (5, .int (nI j))] [] (QL v u (fun z => z = rk_end v N x1 a b)) := by
  have hN60 : N ≤ 60 := hW.1
  intro d
  induction d with
  | zero => intros; omega
  | succ d ih =>
    intro j c hd hj hc
    refine J_iload dX11_riskOf_82 5 rfl ?_
    refine J_aload_n dX11_riskOf_84 rfl 0 rfl ?_
    refine J_gete (ci := 11) (j := 16) (x := nI N) dX11_riskOf_85 fl_X11_252 (i1100 hI) rfl rfl hN ?_
    refine J_icmp_ge (tgt := 158) dX11_riskOf_88 (by decide) (fun c1 => ?_) (fun c1 => ?_)
    · refine J_iload dX11_riskOf_158 4 rfl ?_
      refine J_iconst (x := (-1)) dX11_riskOf_160 (by decide) ?_
      refine J_icmp_eq (tgt := 167) dX11_riskOf_161 (by decide) (fun c2 => ?_) (fun c2 => ?_)
      · refine J_iload_n dX11_riskOf_167 rfl 2 rfl ?_
        refine J_i2l dX11_riskOf_168 ?_
        refine J_sipush (x := 1000) dX11_riskOf_169 (by decide) ?_
        refine J_aload_n dX11_riskOf_172 rfl 0 rfl ?_
        refine J_getr (ci := 11) (j := 21) (t := 1122) dX11_riskOf_173 fl_X11_52 (i1100 hI) rfl rfl rfl ?_
        refine J_bipush (x := 10) dX11_riskOf_176 (by decide) ?_
        refine J_aload_n dX11_riskOf_178 rfl 0 rfl ?_
        refine J_getr (ci := 11) (j := 6) (t := 1107) dX11_riskOf_179 fl_X11_16 (i1100 hI) rfl rfl rfl ?_
        refine J_iload_n dX11_riskOf_182 rfl 1 rfl ?_
        refine J_iale (x := v 1107 x1.toNatClampNeg) dX11_riskOf_183 (i1107 hI) rfl hA.1 rfl ?_
        refine J_imul dX11_riskOf_184 ?_
        refine J_aload_n dX11_riskOf_185 rfl 0 rfl ?_
        refine J_iload_n dX11_riskOf_186 rfl 1 rfl ?_
        refine J_aload_n dX11_riskOf_187 rfl 0 rfl ?_
        refine J_gete (ci := 11) (j := 3) (x := v 1100 3) dX11_riskOf_188 fl_X11_208 (i1100 hI) rfl rfl rfl ?_
        refine J_eVI (z := mX11_ageIn) (As := [.int x1, .int (v 1100 3)]) (rest := [.int (10 * (v 1107 x1.toNatClampNeg)), .ref 1122, .int 1000, .long a.toInt64]) (ci := 11) (x := f_X11_ageIn v x1 (v 1100 3)) dX11_riskOf_191 ml_X11_214 ok_X11_ageIn iv_X11_ageIn (by decide) (i1100 hI) rfl rfl rfl rfl (Nat.le_of_ble_eq_true rfl) (k_X11_ageIn hI v u _ _ hA.1) ?_
        refine J_eSI (z := mX11_groupOf) (As := [.int (f_X11_ageIn v x1 (v 1100 3))]) (rest := [.int (10 * (v 1107 x1.toNatClampNeg)), .ref 1122, .int 1000, .long a.toInt64]) (x := f_X11_groupOf v  (f_X11_ageIn v x1 (v 1100 3))) dX11_riskOf_194 ml_X11_299 ok_X11_groupOf iv_X11_groupOf (by decide) rfl rfl (Nat.le_of_ble_eq_true rfl) (k_X11_groupOf hI v u _ ) ?_
        refine J_iadd dX11_riskOf_197 ?_
        refine J_iale (x := v 1122 (((10 * (v 1107 x1.toNatClampNeg)) + (f_X11_groupOf v  (f_X11_ageIn v x1 (v 1100 3)))).toNatClampNeg)) dX11_riskOf_198 (i1122 hI) rfl (rk_in hA) rfl ?_
        refine J_isub dX11_riskOf_199 ?_
        refine J_i2l dX11_riskOf_200 ?_
        refine J_lmul dX11_riskOf_201 ?_
        refine J_aload_n dX11_riskOf_202 rfl 0 rfl ?_
        refine J_gete (ci := 11) (j := 3) (x := v 1100 3) dX11_riskOf_203 fl_X11_208 (i1100 hI) rfl rfl rfl ?_
        refine J_iload_n dX11_riskOf_206 rfl 3 rfl ?_
        refine J_isub dX11_riskOf_207 ?_
        refine J_i2l dX11_riskOf_208 ?_
        refine J_lmul dX11_riskOf_209 ?_
        exact J_lret dX11_riskOf_210 rfl ⟨_, rfl, rfl, rfl, by have e : j = N := by {have := nz_le (by omega) (by omega) c1; omega}; unfold rk_end; rw [show rk_lat v N x1 = c from by unfold rk_lat; rw [hc, e], if_pos c2]⟩
      · refine J_iload dX11_riskOf_164 4 rfl ?_
        refine J_istore_n (lv' := [(3, .int c), (0, .ref 1100), (1, .int x1), (2, .int a), (4, .int c), (5, .int (nI j))]) dX11_riskOf_166 rfl (by decide) rfl ?_
        refine J_iload_n dX11_riskOf_167 rfl 3 rfl ?_
        refine J_i2l dX11_riskOf_168 ?_
        refine J_sipush (x := 1000) dX11_riskOf_169 (by decide) ?_
        refine J_aload_n dX11_riskOf_172 rfl 1 rfl ?_
        refine J_getr (ci := 11) (j := 21) (t := 1122) dX11_riskOf_173 fl_X11_52 (i1100 hI) rfl rfl rfl ?_
        refine J_bipush (x := 10) dX11_riskOf_176 (by decide) ?_
        refine J_aload_n dX11_riskOf_178 rfl 1 rfl ?_
        refine J_getr (ci := 11) (j := 6) (t := 1107) dX11_riskOf_179 fl_X11_16 (i1100 hI) rfl rfl rfl ?_
        refine J_iload_n dX11_riskOf_182 rfl 2 rfl ?_
        refine J_iale (x := v 1107 x1.toNatClampNeg) dX11_riskOf_183 (i1107 hI) rfl hA.1 rfl ?_
        refine J_imul dX11_riskOf_184 ?_
        refine J_aload_n dX11_riskOf_185 rfl 1 rfl ?_
        refine J_iload_n dX11_riskOf_186 rfl 2 rfl ?_
        refine J_aload_n dX11_riskOf_187 rfl 1 rfl ?_
        refine J_gete (ci := 11) (j := 3) (x := v 1100 3) dX11_riskOf_188 fl_X11_208 (i1100 hI) rfl rfl rfl ?_
        refine J_eVI (z := mX11_ageIn) (As := [.int x1, .int (v 1100 3)]) (rest := [.int (10 * (v 1107 x1.toNatClampNeg)), .ref 1122, .int 1000, .long a.toInt64]) (ci := 11) (x := f_X11_ageIn v x1 (v 1100 3)) dX11_riskOf_191 ml_X11_214 ok_X11_ageIn iv_X11_ageIn (by decide) (i1100 hI) rfl rfl rfl rfl (Nat.le_of_ble_eq_true rfl) (k_X11_ageIn hI v u _ _ hA.1) ?_
        refine J_eSI (z := mX11_groupOf) (As := [.int (f_X11_ageIn v x1 (v 1100 3))]) (rest := [.int (10 * (v 1107 x1.toNatClampNeg)), .ref 1122, .int 1000, .long a.toInt64]) (x := f_X11_groupOf v  (f_X11_ageIn v x1 (v 1100 3))) dX11_riskOf_194 ml_X11_299 ok_X11_groupOf iv_X11_groupOf (by decide) rfl rfl (Nat.le_of_ble_eq_true rfl) (k_X11_groupOf hI v u _ ) ?_
        refine J_iadd dX11_riskOf_197 ?_
        refine J_iale (x := v 1122 (((10 * (v 1107 x1.toNatClampNeg)) + (f_X11_groupOf v  (f_X11_ageIn v x1 (v 1100 3)))).toNatClampNeg)) dX11_riskOf_198 (i1122 hI) rfl (rk_in hA) rfl ?_
        refine J_isub dX11_riskOf_199 ?_
        refine J_i2l dX11_riskOf_200 ?_
        refine J_lmul dX11_riskOf_201 ?_
        refine J_aload_n dX11_riskOf_202 rfl 1 rfl ?_
        refine J_gete (ci := 11) (j := 3) (x := v 1100 3) dX11_riskOf_203 fl_X11_208 (i1100 hI) rfl rfl rfl ?_
        refine J_iload_n dX11_riskOf_206 rfl 0 rfl ?_
        refine J_isub dX11_riskOf_207 ?_
        refine J_i2l dX11_riskOf_208 ?_
        refine J_lmul dX11_riskOf_209 ?_
        exact J_lret dX11_riskOf_210 rfl ⟨_, rfl, rfl, rfl, by have e : j = N := by {have := nz_le (by omega) (by omega) c1; omega}; unfold rk_end; rw [show rk_lat v N x1 = c from by unfold rk_lat; rw [hc, e], if_neg c2]⟩
    · have hjN : j < N := nz_nle (by omega) (by omega) c1
      refine J_aload_n dX11_riskOf_91 rfl 0 rfl ?_
      refine J_getr (ci := 11) (j := 17) (t := 1118) dX11_riskOf_92 fl_X11_40 (i1100 hI) rfl rfl rfl ?_
      refine J_iload dX11_riskOf_95 5 rfl ?_
      refine J_iale (x := v 1118 j) dX11_riskOf_97 (i1118 hI) rfl (ix_in (j := j) rfl (by omega) (by omega)) ((congrArg _ (ix_cl (j := j) rfl (by omega))).trans rfl) ?_
      refine J_if_ne (tgt := 152) dX11_riskOf_98 (by decide) (fun c3 => ?_) (fun c3 => ?_)
      · refine J_iinc (q := 5) (z := nI (j + 1)) (lv' := [(5, .int (nI (j + 1))), (0, .ref 1100), (1, .int x1), (2, .int a), (3, .int b), (4, .int c)]) dX11_riskOf_152 rfl (nI_1 j) (by decide) rfl ?_
        refine J_goto (tgt := 82) dX11_riskOf_155 (by decide) ?_
        refine J_lv [1, 2, 3, 4, 5, 0] rfl ?_
        exact ih (j + 1) _ (by omega) (by omega) (by rw [rkl_s, ← hc, if_neg c3])
      · refine J_aload_n dX11_riskOf_101 rfl 0 rfl ?_
        refine J_getr (ci := 11) (j := 44) (t := 1145) dX11_riskOf_102 fl_X11_93 (i1100 hI) rfl rfl rfl ?_
        refine J_iload dX11_riskOf_105 5 rfl ?_
        refine J_zale (x := v 1145 j) dX11_riskOf_107 (i1145 hI) rfl (ix_in (j := j) rfl (by omega) (by omega)) ((congrArg _ (ix_cl (j := j) rfl (by omega))).trans rfl) ?_
        refine J_if_eq (tgt := 152) dX11_riskOf_108 (by decide) (fun c4 => ?_) (fun c4 => ?_)
        · refine J_iinc (q := 5) (z := nI (j + 1)) (lv' := [(5, .int (nI (j + 1))), (0, .ref 1100), (1, .int x1), (2, .int a), (3, .int b), (4, .int c)]) dX11_riskOf_152 rfl (nI_1 j) (by decide) rfl ?_
          refine J_goto (tgt := 82) dX11_riskOf_155 (by decide) ?_
          refine J_lv [1, 2, 3, 4, 5, 0] rfl ?_
          exact ih (j + 1) _ (by omega) (by omega) (by rw [rkl_s, ← hc, if_pos c3, if_pos c4])
        · refine J_aload_n dX11_riskOf_111 rfl 0 rfl ?_
          refine J_getr (ci := 11) (j := 18) (t := 1119) dX11_riskOf_112 fl_X11_43 (i1100 hI) rfl rfl rfl ?_
          refine J_iload dX11_riskOf_115 5 rfl ?_
          refine J_iale (x := v 1119 j) dX11_riskOf_117 (i1119 hI) rfl (ix_in (j := j) rfl (by omega) (by omega)) ((congrArg _ (ix_cl (j := j) rfl (by omega))).trans rfl) ?_
          refine J_iload_n dX11_riskOf_118 rfl 1 rfl ?_
          refine J_icmp_ne (tgt := 152) dX11_riskOf_119 (by decide) (fun c5 => ?_) (fun c5 => ?_)
          · refine J_iinc (q := 5) (z := nI (j + 1)) (lv' := [(5, .int (nI (j + 1))), (0, .ref 1100), (1, .int x1), (2, .int a), (3, .int b), (4, .int c)]) dX11_riskOf_152 rfl (nI_1 j) (by decide) rfl ?_
            refine J_goto (tgt := 82) dX11_riskOf_155 (by decide) ?_
            refine J_lv [1, 2, 3, 4, 5, 0] rfl ?_
            exact ih (j + 1) _ (by omega) (by omega) (by rw [rkl_s, ← hc, if_pos c3, if_neg c4, if_neg c5])
          · refine J_aload_n dX11_riskOf_122 rfl 0 rfl ?_
            refine J_iload dX11_riskOf_123 5 rfl ?_
            refine J_eVI (z := mX11_isFalse) (As := [.int (nI j)]) (rest := []) (ci := 11) (x := f_X11_isFalse v (nI j)) dX11_riskOf_125 ml_X11_261 ok_X11_isFalse iv_X11_isFalse (by decide) (i1100 hI) rfl rfl rfl rfl (Nat.le_of_ble_eq_true rfl) (k_X11_isFalse hI v u _ (vp_in_nI (by omega) (by omega)) (by rw [nI_clamp (by omega)]; exact (hW.2 j hjN).2 (by rw [c3]; decide))) ?_
            refine J_if_ne (tgt := 152) dX11_riskOf_128 (by decide) (fun c6 => ?_) (fun c6 => ?_)
            · refine J_iinc (q := 5) (z := nI (j + 1)) (lv' := [(5, .int (nI (j + 1))), (0, .ref 1100), (1, .int x1), (2, .int a), (3, .int b), (4, .int c)]) dX11_riskOf_152 rfl (nI_1 j) (by decide) rfl ?_
              refine J_goto (tgt := 82) dX11_riskOf_155 (by decide) ?_
              refine J_lv [1, 2, 3, 4, 5, 0] rfl ?_
              exact ih (j + 1) _ (by omega) (by omega) (by rw [rkl_s, ← hc, if_pos c3, if_neg c4, if_pos c5, if_neg c6])
            · refine J_aload_n dX11_riskOf_131 rfl 0 rfl ?_
              refine J_getr (ci := 11) (j := 19) (t := 1120) dX11_riskOf_132 fl_X11_46 (i1100 hI) rfl rfl rfl ?_
              refine J_iload dX11_riskOf_135 5 rfl ?_
              refine J_iale (x := v 1120 j) dX11_riskOf_137 (i1120 hI) rfl (ix_in (j := j) rfl (by omega) (by omega)) ((congrArg _ (ix_cl (j := j) rfl (by omega))).trans rfl) ?_
              refine J_iload dX11_riskOf_138 4 rfl ?_
              refine J_icmp_le (tgt := 152) dX11_riskOf_140 (by decide) (fun c7 => ?_) (fun c7 => ?_)
              · refine J_iinc (q := 5) (z := nI (j + 1)) (lv' := [(5, .int (nI (j + 1))), (0, .ref 1100), (1, .int x1), (2, .int a), (3, .int b), (4, .int c)]) dX11_riskOf_152 rfl (nI_1 j) (by decide) rfl ?_
                refine J_goto (tgt := 82) dX11_riskOf_155 (by decide) ?_
                refine J_lv [1, 2, 3, 4, 5, 0] rfl ?_
                exact ih (j + 1) _ (by omega) (by omega) (by rw [rkl_s, ← hc, if_pos c3, if_neg c4, if_pos c5, if_pos c6, if_pos c7])
              · refine J_aload_n dX11_riskOf_143 rfl 0 rfl ?_
                refine J_getr (ci := 11) (j := 19) (t := 1120) dX11_riskOf_144 fl_X11_46 (i1100 hI) rfl rfl rfl ?_
                refine J_iload dX11_riskOf_147 5 rfl ?_
                refine J_iale (x := v 1120 j) dX11_riskOf_149 (i1120 hI) rfl (ix_in (j := j) rfl (by omega) (by omega)) ((congrArg _ (ix_cl (j := j) rfl (by omega))).trans rfl) ?_
                refine J_istore (lv' := [(4, .int (v 1120 j)), (0, .ref 1100), (1, .int x1), (2, .int a), (3, .int b), (5, .int (nI j))]) dX11_riskOf_150 (by decide) rfl ?_
                refine J_iinc (q := 5) (z := nI (j + 1)) (lv' := [(5, .int (nI (j + 1))), (4, .int (v 1120 j)), (0, .ref 1100), (1, .int x1), (2, .int a), (3, .int b)]) dX11_riskOf_152 rfl (nI_1 j) (by decide) rfl ?_
                refine J_goto (tgt := 82) dX11_riskOf_155 (by decide) ?_
                refine J_lv [2, 3, 4, 5, 1, 0] rfl ?_
                exact ih (j + 1) _ (by omega) (by omega) (by rw [rkl_s, ← hc, if_pos c3, if_neg c4, if_pos c5, if_pos c6, if_neg c7])
theorem rk_L1 {l : Launch} {I : List Nat} (hI : fr_I I) (v : fr_V) (u : fr_U) (x1 : Int32) (P : Nat) (hA : lfOK v x1 P) (N : Nat) (hN : v 1100 16 = nI N) (hW : nt_ok (v 1118) (v 1119) N) (nr : Nat) (hR : v 1100 7 = nI nr) (hR2 : nr ≤ 16) : ∀ (d j : Nat) (a b : Int32) (hd : nr - j < d) (hj : j ≤ nr) (ha : a = rkc (v 1111) (v 1112) (v 1113) x1 j) (hb : b = rks (v 1111) (v 1112) (v 1109) x1 j), J l mX11_riskOf I v u 7 [(0, .ref 1100), (1, .int x1), (2, .int a), (3, .int b), (4, .int (nI j))] [] (QL v u (fun z => z = f_riskOf v nr N x1)) := by
  intro d
  induction d with
  | zero => intros; omega
  | succ d ih =>
    intro j a b hd hj ha hb
    refine J_iload dX11_riskOf_7 4 rfl ?_
    refine J_aload_n dX11_riskOf_9 rfl 0 rfl ?_
    refine J_gete (ci := 11) (j := 7) (x := nI nr) dX11_riskOf_10 fl_X11_233 (i1100 hI) rfl rfl hR ?_
    refine J_icmp_ge (tgt := 70) dX11_riskOf_13 (by decide) (fun c1 => ?_) (fun c1 => ?_)
    · refine J_iload_n dX11_riskOf_70 rfl 2 rfl ?_
      refine J_if_ne (tgt := 76) dX11_riskOf_71 (by decide) (fun c2 => ?_) (fun c2 => ?_)
      · refine J_iconst (x := (-1)) dX11_riskOf_76 (by decide) ?_
        refine J_istore (lv' := [(4, .int (-1)), (0, .ref 1100), (1, .int x1), (2, .int a), (3, .int b)]) dX11_riskOf_77 (by decide) rfl ?_
        refine J_iconst (x := 0) dX11_riskOf_79 (by decide) ?_
        refine J_istore (lv' := [(5, .int 0), (4, .int (-1)), (0, .ref 1100), (1, .int x1), (2, .int a), (3, .int b)]) dX11_riskOf_80 (by decide) rfl ?_
        have e : j = nr := by {have := nz_le (by omega) (by omega) c1; omega}
        refine J_lv [2, 3, 4, 5, 1, 0] rfl ?_
        unfold f_riskOf
        rw [← e, ← ha, ← hb, if_neg c2]
        exact rk_L2 hI v u x1 P hA N hN hW a b (N + 1) 0 _ (by omega) (by omega) rfl
      · refine J_lconst (x := 0) dX11_riskOf_74 (by decide) ?_
        exact J_lret dX11_riskOf_75 rfl ⟨_, rfl, rfl, rfl, by have e : j = nr := by {have := nz_le (by omega) (by omega) c1; omega}; unfold f_riskOf; rw [← e, ← ha, if_pos c2]⟩
    · have hjn : j < nr := nz_nle (by omega) (by omega) c1
      refine J_aload_n dX11_riskOf_16 rfl 0 rfl ?_
      refine J_getr (ci := 11) (j := 10) (t := 1111) dX11_riskOf_17 fl_X11_25 (i1100 hI) rfl rfl rfl ?_
      refine J_iload dX11_riskOf_20 4 rfl ?_
      refine J_iale (x := v 1111 j) dX11_riskOf_22 (i1111 hI) rfl (ix_in (j := j) rfl (by omega) (by omega)) ((congrArg _ (ix_cl (j := j) rfl (by omega))).trans rfl) ?_
      refine J_iload_n dX11_riskOf_23 rfl 1 rfl ?_
      refine J_icmp_ne (tgt := 64) dX11_riskOf_24 (by decide) (fun c3 => ?_) (fun c3 => ?_)
      · refine J_iinc (q := 4) (z := nI (j + 1)) (lv' := [(4, .int (nI (j + 1))), (0, .ref 1100), (1, .int x1), (2, .int a), (3, .int b)]) dX11_riskOf_64 rfl (nI_1 j) (by decide) rfl ?_
        refine J_goto (tgt := 7) dX11_riskOf_67 (by decide) ?_
        refine J_lv [1, 2, 3, 4, 0] rfl ?_
        exact ih (j + 1) _ _ (by omega) (by omega) (by rw [rkc_s, ← ha, if_neg c3]) (by rw [rks_s, ← hb, if_neg c3])
      · refine J_aload_n dX11_riskOf_27 rfl 0 rfl ?_
        refine J_getr (ci := 11) (j := 11) (t := 1112) dX11_riskOf_28 fl_X11_28 (i1100 hI) rfl rfl rfl ?_
        refine J_iload dX11_riskOf_31 4 rfl ?_
        refine J_iale (x := v 1112 j) dX11_riskOf_33 (i1112 hI) rfl (ix_in (j := j) rfl (by omega) (by omega)) ((congrArg _ (ix_cl (j := j) rfl (by omega))).trans rfl) ?_
        refine J_iconst (x := (-1)) dX11_riskOf_34 (by decide) ?_
        refine J_icmp_eq (tgt := 41) dX11_riskOf_35 (by decide) (fun c4 => ?_) (fun c4 => ?_)
        · refine J_iload_n dX11_riskOf_41 rfl 2 rfl ?_
          refine J_aload_n dX11_riskOf_42 rfl 0 rfl ?_
          refine J_getr (ci := 11) (j := 12) (t := 1113) dX11_riskOf_43 fl_X11_31 (i1100 hI) rfl rfl rfl ?_
          refine J_iload dX11_riskOf_46 4 rfl ?_
          refine J_iale (x := v 1113 j) dX11_riskOf_48 (i1113 hI) rfl (ix_in (j := j) rfl (by omega) (by omega)) ((congrArg _ (ix_cl (j := j) rfl (by omega))).trans rfl) ?_
          refine J_iadd dX11_riskOf_49 ?_
          refine J_istore_n (lv' := [(2, .int (a + (v 1113 j))), (0, .ref 1100), (1, .int x1), (3, .int b), (4, .int (nI j))]) dX11_riskOf_50 rfl (by decide) rfl ?_
          refine J_iload_n dX11_riskOf_51 rfl 3 rfl ?_
          refine J_iconst (x := (-1)) dX11_riskOf_52 (by decide) ?_
          refine J_icmp_ne (tgt := 64) dX11_riskOf_53 (by decide) (fun c5 => ?_) (fun c5 => ?_)
          · refine J_iinc (q := 4) (z := nI (j + 1)) (lv' := [(4, .int (nI (j + 1))), (2, .int (a + (v 1113 j))), (0, .ref 1100), (1, .int x1), (3, .int b)]) dX11_riskOf_64 rfl (nI_1 j) (by decide) rfl ?_
            refine J_goto (tgt := 7) dX11_riskOf_67 (by decide) ?_
            refine J_lv [2, 3, 1, 4, 0] rfl ?_
            exact ih (j + 1) _ _ (by omega) (by omega) (by rw [rkc_s, ← ha, if_pos c3, if_pos c4]) (by rw [rks_s, ← hb, if_pos c3, if_pos c4, if_neg c5])
          · refine J_aload_n dX11_riskOf_56 rfl 1 rfl ?_
            refine J_getr (ci := 11) (j := 8) (t := 1109) dX11_riskOf_57 fl_X11_19 (i1100 hI) rfl rfl rfl ?_
            refine J_iload dX11_riskOf_60 4 rfl ?_
            refine J_iale (x := v 1109 j) dX11_riskOf_62 (i1109 hI) rfl (ix_in (j := j) rfl (by omega) (by omega)) ((congrArg _ (ix_cl (j := j) rfl (by omega))).trans rfl) ?_
            refine J_istore_n (lv' := [(3, .int (v 1109 j)), (2, .int (a + (v 1113 j))), (0, .ref 1100), (1, .int x1), (4, .int (nI j))]) dX11_riskOf_63 rfl (by decide) rfl ?_
            refine J_iinc (q := 4) (z := nI (j + 1)) (lv' := [(4, .int (nI (j + 1))), (3, .int (v 1109 j)), (2, .int (a + (v 1113 j))), (0, .ref 1100), (1, .int x1)]) dX11_riskOf_64 rfl (nI_1 j) (by decide) rfl ?_
            refine J_goto (tgt := 7) dX11_riskOf_67 (by decide) ?_
            refine J_lv [3, 4, 2, 1, 0] rfl ?_
            exact ih (j + 1) _ _ (by omega) (by omega) (by rw [rkc_s, ← ha, if_pos c3, if_pos c4]) (by rw [rks_s, ← hb, if_pos c3, if_pos c4, if_pos c5])
        · refine J_goto (tgt := 64) dX11_riskOf_38 (by decide) ?_
          refine J_iinc (q := 4) (z := nI (j + 1)) (lv' := [(4, .int (nI (j + 1))), (0, .ref 1100), (1, .int x1), (2, .int a), (3, .int b)]) dX11_riskOf_64 rfl (nI_1 j) (by decide) rfl ?_
          refine J_goto (tgt := 7) dX11_riskOf_67 (by decide) ?_
          refine J_lv [1, 2, 3, 4, 0] rfl ?_
          exact ih (j + 1) _ _ (by omega) (by omega) (by rw [rkc_s, ← ha, if_pos c3, if_neg c4]) (by rw [rks_s, ← hb, if_pos c3, if_neg c4])
theorem k_X11_riskOf {l : Launch} {I : List Nat} (hI : fr_I I) (v : fr_V) (u : fr_U) (x1 : Int32) (P : Nat) (hA : lfOK v x1 P) (N : Nat) (hN : v 1100 16 = nI N) (hW : nt_ok (v 1118) (v 1119) N) (nr : Nat) (hR : v 1100 7 = nI nr) (hR2 : nr ≤ 16) : Con l mX11_riskOf I v u [.ref 1100, .int x1] (QL v u (fun z => z = f_riskOf v nr N x1)) := by
  refine Con.of (by decide) (Nat.le_of_ble_eq_true rfl) ?_
  show J l mX11_riskOf I v u 0 [(0, .ref 1100), (1, .int x1)] [] _
  refine J_iconst (x := 0) dX11_riskOf_0 (by decide) ?_
  refine J_istore_n (lv' := [(2, .int 0), (0, .ref 1100), (1, .int x1)]) dX11_riskOf_1 rfl (by decide) rfl ?_
  refine J_iconst (x := (-1)) dX11_riskOf_2 (by decide) ?_
  refine J_istore_n (lv' := [(3, .int (-1)), (2, .int 0), (0, .ref 1100), (1, .int x1)]) dX11_riskOf_3 rfl (by decide) rfl ?_
  refine J_iconst (x := 0) dX11_riskOf_4 (by decide) ?_
  refine J_istore (lv' := [(4, .int 0), (3, .int (-1)), (2, .int 0), (0, .ref 1100), (1, .int x1)]) dX11_riskOf_5 (by decide) rfl ?_
  refine J_lv [3, 4, 2, 1, 0] rfl ?_
  exact rk_L1 hI v u x1 P hA N hN hW nr hR hR2 (nr + 1) 0 _ _ (by omega) (by omega) rfl rfl
theorem sw_cases (x : Int32) (n : Nat) (hn : n < 2 ^ 31) : (∃ k, k ≤ n ∧ x = nI k) ∨ (x.toInt < 0 ∨ (n : Int) < x.toInt) := by
  by_cases h : x < 0
  · right; left
    exact Int32.lt_iff_toInt_lt.mp h
  · obtain ⟨j, hj, rfl⟩ := nI_of h
    by_cases h2 : j ≤ n
    · exact Or.inl ⟨j, h2, rfl⟩
    · right; right
      rw [nI_toInt hj]; omega
def f_count (v : fr_V) (x : Int32) : Int32 := if x = 0 then v 1100 3 else if x = 1 then v 1100 4 else if x = 2 then v 1100 7 else if x = 3 then v 1100 16 else if x = 4 then v 1141 0 else if x = 5 then v 1141 1 else if x = 6 then v 1141 2 else if x = 7 then v 1141 3 else if x = 8 then v 1100 38 else (-1)
theorem f_count_o {v : fr_V} {x : Int32} (h : x.toInt < 0 ∨ (8 : Int) < x.toInt) : f_count v x = (-1) := by
  have ne : ∀ k : Int32, 0 ≤ k.toInt → k.toInt ≤ 8 → ¬ x = k := fun k h1 h2 e => by subst e; omega
  unfold f_count
  rw [if_neg (ne 0 (by decide) (by decide)), if_neg (ne 1 (by decide) (by decide)), if_neg (ne 2 (by decide) (by decide)), if_neg (ne 3 (by decide) (by decide)), if_neg (ne 4 (by decide) (by decide)), if_neg (ne 5 (by decide) (by decide)), if_neg (ne 6 (by decide) (by decide)), if_neg (ne 7 (by decide) (by decide)), if_neg (ne 8 (by decide) (by decide))]
theorem k_X11_count {l : Launch} {I : List Nat} (hI : fr_I I) (v : fr_V) (u : fr_U) (x1 : Int32) : Con l mX11_count I v u [.ref 1100, .int x1] (QX u (fun a b => a = f_count v x1 ∧ b = up2 v 1100 2 0)) := by
  refine Con.of (by decide) (Nat.le_of_ble_eq_true rfl) ?_
  show J l mX11_count I v u 0 [(0, .ref 1100), (1, .int x1)] [] _
  refine J_aload_n dX11_count_0 rfl 0 rfl ?_
  refine J_iconst (x := 0) dX11_count_1 (by decide) ?_
  refine J_puti (ci := 11) (j := 2) dX11_count_2 fl_X11_129 (i1100 hI) rfl rfl (fun q h => by cases h; rfl) rfl ?_
  refine J_iload_n dX11_count_5 rfl 1 rfl ?_
  rcases sw_cases x1 8 (by omega) with ⟨k, hk, rfl⟩ | ho
  · match k, hk with
    | 0, _ =>
      refine J_tableIn (off := 50) (tgt := 56) dX11_count_6 (by decide) (by decide) (by decide) (by decide) ?_
      refine J_aload_n dX11_count_56 rfl 0 rfl ?_
      refine J_gete (ci := 11) (j := 3) (x := v 1100 3) dX11_count_57 fl_X11_208 (i1100 hI) rfl rfl rfl ?_
      exact J_iret dX11_count_60 rfl ⟨_, rfl, rfl, rfl, rfl⟩
    | 1, _ =>
      refine J_tableIn (off := 55) (tgt := 61) dX11_count_6 (by decide) (by decide) (by decide) (by decide) ?_
      refine J_aload_n dX11_count_61 rfl 0 rfl ?_
      refine J_gete (ci := 11) (j := 4) (x := v 1100 4) dX11_count_62 fl_X11_211 (i1100 hI) rfl rfl rfl ?_
      exact J_iret dX11_count_65 rfl ⟨_, rfl, rfl, rfl, rfl⟩
    | 2, _ =>
      refine J_tableIn (off := 60) (tgt := 66) dX11_count_6 (by decide) (by decide) (by decide) (by decide) ?_
      refine J_aload_n dX11_count_66 rfl 0 rfl ?_
      refine J_gete (ci := 11) (j := 7) (x := v 1100 7) dX11_count_67 fl_X11_233 (i1100 hI) rfl rfl rfl ?_
      exact J_iret dX11_count_70 rfl ⟨_, rfl, rfl, rfl, rfl⟩
    | 3, _ =>
      refine J_tableIn (off := 65) (tgt := 71) dX11_count_6 (by decide) (by decide) (by decide) (by decide) ?_
      refine J_aload_n dX11_count_71 rfl 0 rfl ?_
      refine J_gete (ci := 11) (j := 16) (x := v 1100 16) dX11_count_72 fl_X11_252 (i1100 hI) rfl rfl rfl ?_
      exact J_iret dX11_count_75 rfl ⟨_, rfl, rfl, rfl, rfl⟩
    | 4, _ =>
      refine J_tableIn (off := 70) (tgt := 76) dX11_count_6 (by decide) (by decide) (by decide) (by decide) ?_
      refine J_aload_n dX11_count_76 rfl 0 rfl ?_
      refine J_getr (ci := 11) (j := 40) (t := 1141) dX11_count_77 fl_X11_86 (i1100 hI) rfl rfl rfl ?_
      refine J_iload_n dX11_count_80 rfl 1 rfl ?_
      refine J_iconst (x := 4) dX11_count_81 (by decide) ?_
      refine J_isub dX11_count_82 ?_
      refine J_iale (x := v 1141 (((nI 4) - 4).toNatClampNeg)) dX11_count_83 (i1141 hI) rfl (by unfold vp_in; decide) rfl ?_
      exact J_iret dX11_count_84 rfl ⟨_, rfl, rfl, rfl, rfl⟩
    | 5, _ =>
      refine J_tableIn (off := 70) (tgt := 76) dX11_count_6 (by decide) (by decide) (by decide) (by decide) ?_
      refine J_aload_n dX11_count_76 rfl 0 rfl ?_
      refine J_getr (ci := 11) (j := 40) (t := 1141) dX11_count_77 fl_X11_86 (i1100 hI) rfl rfl rfl ?_
      refine J_iload_n dX11_count_80 rfl 1 rfl ?_
      refine J_iconst (x := 4) dX11_count_81 (by decide) ?_
      refine J_isub dX11_count_82 ?_
      refine J_iale (x := v 1141 (((nI 5) - 4).toNatClampNeg)) dX11_count_83 (i1141 hI) rfl (by unfold vp_in; decide) rfl ?_
      exact J_iret dX11_count_84 rfl ⟨_, rfl, rfl, rfl, rfl⟩
    | 6, _ =>
      refine J_tableIn (off := 70) (tgt := 76) dX11_count_6 (by decide) (by decide) (by decide) (by decide) ?_
      refine J_aload_n dX11_count_76 rfl 0 rfl ?_
      refine J_getr (ci := 11) (j := 40) (t := 1141) dX11_count_77 fl_X11_86 (i1100 hI) rfl rfl rfl ?_
      refine J_iload_n dX11_count_80 rfl 1 rfl ?_
      refine J_iconst (x := 4) dX11_count_81 (by decide) ?_
      refine J_isub dX11_count_82 ?_
      refine J_iale (x := v 1141 (((nI 6) - 4).toNatClampNeg)) dX11_count_83 (i1141 hI) rfl (by unfold vp_in; decide) rfl ?_
      exact J_iret dX11_count_84 rfl ⟨_, rfl, rfl, rfl, rfl⟩
    | 7, _ =>
      refine J_tableIn (off := 70) (tgt := 76) dX11_count_6 (by decide) (by decide) (by decide) (by decide) ?_
      refine J_aload_n dX11_count_76 rfl 0 rfl ?_
      refine J_getr (ci := 11) (j := 40) (t := 1141) dX11_count_77 fl_X11_86 (i1100 hI) rfl rfl rfl ?_
      refine J_iload_n dX11_count_80 rfl 1 rfl ?_
      refine J_iconst (x := 4) dX11_count_81 (by decide) ?_
      refine J_isub dX11_count_82 ?_
      refine J_iale (x := v 1141 (((nI 7) - 4).toNatClampNeg)) dX11_count_83 (i1141 hI) rfl (by unfold vp_in; decide) rfl ?_
      exact J_iret dX11_count_84 rfl ⟨_, rfl, rfl, rfl, rfl⟩
    | 8, _ =>
      refine J_tableIn (off := 79) (tgt := 85) dX11_count_6 (by decide) (by decide) (by decide) (by decide) ?_
      refine J_aload_n dX11_count_85 rfl 0 rfl ?_
      refine J_gete (ci := 11) (j := 38) (x := v 1100 38) dX11_count_86 fl_X11_170 (i1100 hI) rfl rfl rfl ?_
      exact J_iret dX11_count_89 rfl ⟨_, rfl, rfl, rfl, rfl⟩
    | k + 9, hk => omega
  · refine J_tableOut (tgt := 90) dX11_count_6 ho (by decide) ?_
    refine J_iconst (x := (-1)) dX11_count_90 (by decide) ?_
    exact J_iret dX11_count_91 rfl ⟨_, rfl, rfl, (f_count_o ho).symm, rfl⟩
end
section
theorem lf_know {v : fr_V} {N P : Nat} {x k : Int32} (h : lfOK v x P) : lfOK (f_know v N k) x P := by
  obtain ⟨h1, h2, hp, hP⟩ := h
  refine ⟨h1, ?_, ?_, hP⟩
  · rw [f_know_m (by decide) (by decide)]; exact h2
  · unfold f_X11_ageIn
    rw [f_know_m (by decide) (by decide), f_know_m (by decide) (by decide)]
    exact hp
def f_risk (v : fr_V) (N nr : Nat) (x1 : Int32) : Int64 × fr_V := if (f_X11_isLife (up2 v 1100 2 0)  x1) = 0 then (0, up2 (up2 v 1100 2 0) 1100 2 1) else if ((f_know (up2 v 1100 2 0) N (v 1100 3)) 1146 x1.toNatClampNeg) = (-1) then (f_riskOf (f_know (up2 v 1100 2 0) N (v 1100 3)) nr N x1, (f_know (up2 v 1100 2 0) N (v 1100 3))) else (0, up2 (f_know (up2 v 1100 2 0) N (v 1100 3)) 1100 2 2)
theorem k_X11_risk {l : Launch} {I : List Nat} (hI : fr_I I) (v : fr_V) (u : fr_U) (N nr P n : Nat) (hN : v 1100 16 = nI N) (hW : nt_ok (v 1118) (v 1119) N) (hR : v 1100 7 = nI nr) (hR2 : nr ≤ 16) (hL : v 1100 4 = nI n) (hL2 : n ≤ 12) (x1 : Int32) (hA : ¬ f_X11_isLife (up2 v 1100 2 0) x1 = 0 → lfOK (up2 v 1100 2 0) x1 P) : Con l mX11_risk I v u [.ref 1100, .int x1] (QY u (fun a b => a = (f_risk v N nr x1).1 ∧ b = (f_risk v N nr x1).2)) := by
  refine Con.of (by decide) (Nat.le_of_ble_eq_true rfl) ?_
  show J l mX11_risk I v u 0 [(0, .ref 1100), (1, .int x1)] [] _
  refine J_aload_n dX11_risk_0 rfl 0 rfl ?_
  refine J_iconst (x := 0) dX11_risk_1 (by decide) ?_
  refine J_puti (ci := 11) (j := 2) dX11_risk_2 fl_X11_129 (i1100 hI) rfl rfl (fun q h => by cases h; rfl) rfl ?_
  refine J_aload_n dX11_risk_5 rfl 0 rfl ?_
  refine J_iload_n dX11_risk_6 rfl 1 rfl ?_
  refine J_eVI (z := mX11_isLife) (As := [.int x1]) (rest := []) (ci := 11) (x := f_X11_isLife (up2 v 1100 2 0)  x1) dX11_risk_7 ml_X11_221 ok_X11_isLife iv_X11_isLife (by decide) (i1100 hI) rfl rfl rfl rfl (Nat.le_of_ble_eq_true rfl) (k_X11_isLife hI (up2 v 1100 2 0) u _ ) ?_
  refine J_if_ne (tgt := 19) dX11_risk_10 (by decide) (fun c1 => ?_) (fun c1 => ?_)
  · refine J_aload_n dX11_risk_19 rfl 0 rfl ?_
    refine J_aload_n dX11_risk_20 rfl 0 rfl ?_
    refine J_gete (ci := 11) (j := 3) (x := v 1100 3) dX11_risk_21 fl_X11_208 (i1100 hI) rfl rfl rfl ?_
    refine J_eVN (z := mX11_know) (As := [.int (v 1100 3)]) (rest := []) (ci := 11) (w := (f_know (up2 v 1100 2 0) N (v 1100 3))) dX11_risk_24 ml_X11_257 ok_X11_know iv_X11_know (by decide) (i1100 hI) rfl rfl rfl rfl (Nat.le_of_ble_eq_true rfl) (k_X11_know hI (up2 v 1100 2 0) u _ N hN hW) ?_
    refine J_aload_n dX11_risk_27 rfl 0 rfl ?_
    refine J_getr (ci := 11) (j := 45) (t := 1146) dX11_risk_28 fl_X11_96 (i1100 hI) rfl rfl rfl ?_
    refine J_iload_n dX11_risk_31 rfl 1 rfl ?_
    refine J_iale (x := (f_know (up2 v 1100 2 0) N (v 1100 3)) 1146 x1.toNatClampNeg) dX11_risk_32 (i1146 hI) rfl (lf_in hL hL2 (by assumption)) rfl ?_
    refine J_iconst (x := (-1)) dX11_risk_33 (by decide) ?_
    refine J_icmp_eq (tgt := 45) dX11_risk_34 (by decide) (fun c2 => ?_) (fun c2 => ?_)
    · refine J_aload_n dX11_risk_45 rfl 0 rfl ?_
      refine J_iload_n dX11_risk_46 rfl 1 rfl ?_
      refine J_eVL (z := mX11_riskOf) (As := [.int x1]) (rest := []) (ci := 11) (x := f_riskOf (f_know (up2 v 1100 2 0) N (v 1100 3)) nr N x1) dX11_risk_47 ml_X11_326 ok_X11_riskOf iv_X11_riskOf (by decide) (i1100 hI) rfl rfl rfl rfl (Nat.le_of_ble_eq_true rfl) (k_X11_riskOf hI (f_know (up2 v 1100 2 0) N (v 1100 3)) u _ P (lf_know (hA (by assumption))) N (by rw [f_know_m (by decide) (by decide)]; exact hN) (by rw [f_know_m (by decide) (by decide), f_know_m (by decide) (by decide)]; exact hW) nr (by rw [f_know_m (by decide) (by decide)]; exact hR) hR2) ?_
      exact J_lret dX11_risk_50 rfl ⟨_, rfl, rfl, by unfold f_risk; rw [if_neg c1, if_pos c2], by unfold f_risk; rw [if_neg c1, if_pos c2]⟩
    · refine J_aload_n dX11_risk_37 rfl 0 rfl ?_
      refine J_iconst (x := 2) dX11_risk_38 (by decide) ?_
      refine J_eVY (z := mX11_fails) (As := [.int 2]) (rest := []) (ci := 11) (x := 0) (w := up2 (f_know (up2 v 1100 2 0) N (v 1100 3)) 1100 2 2) dX11_risk_39 ml_X11_330 ok_X11_fails iv_X11_fails (by decide) (i1100 hI) rfl rfl rfl rfl (Nat.le_of_ble_eq_true rfl) (k_X11_fails hI (f_know (up2 v 1100 2 0) N (v 1100 3)) u _) ?_
      refine J_goto (tgt := 50) dX11_risk_42 (by decide) ?_
      exact J_lret dX11_risk_50 rfl ⟨_, rfl, rfl, by unfold f_risk; rw [if_neg c1, if_neg c2], by unfold f_risk; rw [if_neg c1, if_neg c2]⟩
  · refine J_aload_n dX11_risk_13 rfl 0 rfl ?_
    refine J_iconst (x := 1) dX11_risk_14 (by decide) ?_
    refine J_eVY (z := mX11_fails) (As := [.int 1]) (rest := []) (ci := 11) (x := 0) (w := up2 (up2 v 1100 2 0) 1100 2 1) dX11_risk_15 ml_X11_330 ok_X11_fails iv_X11_fails (by decide) (i1100 hI) rfl rfl rfl rfl (Nat.le_of_ble_eq_true rfl) (k_X11_fails hI (up2 v 1100 2 0) u _) ?_
    exact J_lret dX11_risk_18 rfl ⟨_, rfl, rfl, by unfold f_risk; rw [if_pos c1], by unfold f_risk; rw [if_pos c1]⟩
def sh_l (P : Nat → Int32) (c : Int32) : Nat → Int32
  | 0 => c
  | j + 1 => sh_l P c j - c * P j / 60
theorem sh_l_s (P : Nat → Int32) (c : Int32) (j : Nat) : sh_l P c (j + 1) = sh_l P c j - c * P j / 60 := rfl
def sh_m (P : Nat → Int32) : Nat → Int32
  | 0 => 0
  | j + 1 => if P j ≤ sh_m P j then sh_m P j else P j
theorem sh_m_s (P : Nat → Int32) (j : Nat) : sh_m P (j + 1) = if P j ≤ sh_m P j then sh_m P j else P j := rfl
def sh_b (P : Nat → Int32) : Nat → Nat
  | 0 => 0
  | j + 1 => if P j ≤ sh_m P j then sh_b P j else j
theorem sh_b_s (P : Nat → Int32) (j : Nat) : sh_b P (j + 1) = if P j ≤ sh_m P j then sh_b P j else j := rfl
theorem sh_b_le (P : Nat → Int32) : ∀ j, sh_b P j ≤ j := by
  intro j
  induction j with
  | zero => exact Nat.le_refl _
  | succ j ih => rw [sh_b_s]; split <;> omega
theorem sh_b_lt (P : Nat → Int32) : ∀ j, 0 < j → sh_b P j < j := by
  intro j
  induction j with
  | zero => intro h; omega
  | succ j ih =>
    intro _
    rw [sh_b_s]; split
    · have := sh_b_le P j; omega
    · omega
def sh_g (P : Nat → Int32) (c : Int32) (g0 : Nat → Int32) : Nat → Nat → Int32
  | 0 => g0
  | j + 1 => upd (sh_g P c g0 j) j (sh_g P c g0 j j + c * P j / 60)
theorem sh_g_s (P : Nat → Int32) (c : Int32) (g0 : Nat → Int32) (j : Nat) : sh_g P c g0 (j + 1) = upd (sh_g P c g0 j) j (sh_g P c g0 j j + c * P j / 60) := rfl
/-- the row of what each got, behind one payment -/
def sh_row (P : Nat → Int32) (c : Int32) (g0 : Nat → Int32) : Nat → Int32 := upd (sh_g P c g0 8) (sh_b P 8) (sh_g P c g0 8 (sh_b P 8) + sh_l P c 8)
def f_shares (v : fr_V) (NS r : Nat) (k : Int32) : fr_V := up2 (upA v 1148 (sh_row (fun j => f_parts v NS (nI r) (nI j) k) (v 1113 r) (v 1148))) 1100 48 (v 1100 48 + v 1113 r)
theorem sh_L {l : Launch} {I : List Nat} (hI : fr_I I) (v : fr_V) (u : fr_U) (NS r : Nat) (hr : r < 16) (hS : v 1100 14 = nI NS) (hS2 : NS ≤ 40) (x2 : Int32) : ∀ (d j : Nat) (a b : Int32) (q : Nat) (G : Nat → Int32) (hd : 8 - j < d) (hj : j ≤ 8) (ha : a = sh_l (fun j => f_parts v NS (nI r) (nI j) x2) (v 1113 r) j) (hb : b = sh_m (fun j => f_parts v NS (nI r) (nI j) x2) j) (hq : q = sh_b (fun j => f_parts v NS (nI r) (nI j) x2) j) (hG : G = sh_g (fun j => f_parts v NS (nI r) (nI j) x2) (v 1113 r) (v 1148) j), J l mX11_shares I (upA v 1148 G) u 16 [(0, .ref 1100), (1, .int (nI r)), (2, .int x2), (3, .int a), (4, .int b), (5, .int (nI q)), (6, .int (nI j))] [] (QN u (fun z => z = f_shares v NS r x2)) := by
  intro d
  induction d with
  | zero => intros; omega
  | succ d ih =>
    intro j a b q G hd hj ha hb hq hG
    refine J_iload dX11_shares_16 6 rfl ?_
    refine J_bipush (x := 8) dX11_shares_18 (by decide) ?_
    refine J_icmp_ge (tgt := 85) dX11_shares_20 (by decide) (fun c1 => ?_) (fun c1 => ?_)
    · have e : j = 8 := by have := nz_le (a := 8) (by omega) (by omega) c1; omega
      have hq8 : q < 8 := by rw [hq, e]; exact sh_b_lt _ 8 (by omega)
      refine J_aload_n dX11_shares_85 rfl 0 rfl ?_
      refine J_getr (ci := 11) (j := 47) (t := 1148) dX11_shares_86 fl_X11_102 (i1100 hI) rfl rfl rfl ?_
      refine J_iload dX11_shares_89 5 rfl ?_
      refine J_dup2 dX11_shares_91 rfl rfl ?_
      refine J_iale (x := G q) dX11_shares_92 (i1148 hI) rfl (ix_in (j := q) rfl (by omega) (by omega)) ((congrArg _ (ix_cl (j := q) rfl (by omega))).trans rfl) ?_
      refine J_iload_n dX11_shares_93 rfl 3 rfl ?_
      refine J_iadd dX11_shares_94 ?_
      refine J_iase (j := q) dX11_shares_95 (i1148 hI) rfl (ix_in (j := q) rfl (by omega) (by omega)) (ix_cl (j := q) rfl (by omega)) ?_
      refine J_aload_n dX11_shares_96 rfl 0 rfl ?_
      refine J_dup dX11_shares_97 rfl ?_
      refine J_gete (ci := 11) (j := 48) (x := v 1100 48) dX11_shares_98 fl_X11_266 (i1100 hI) rfl rfl rfl ?_
      refine J_aload_n dX11_shares_101 rfl 0 rfl ?_
      refine J_getr (ci := 11) (j := 12) (t := 1113) dX11_shares_102 fl_X11_31 (i1100 hI) rfl rfl rfl ?_
      refine J_iload_n dX11_shares_105 rfl 1 rfl ?_
      refine J_iale (x := v 1113 r) dX11_shares_106 (i1113 hI) rfl (ix_in (j := r) rfl (by omega) (by omega)) ((congrArg _ (ix_cl (j := r) rfl (by omega))).trans rfl) ?_
      refine J_iadd dX11_shares_107 ?_
      refine J_puti (ci := 11) (j := 48) dX11_shares_108 fl_X11_266 (i1100 hI) rfl rfl (fun q h => by cases h; rfl) rfl ?_
      exact J_vret dX11_shares_111 rfl ⟨rfl, rfl, by unfold f_shares sh_row; rw [up2_upA, hG, ha, hq, e]⟩
    · have hj8 : j < 8 := nz_nle (a := 8) (by omega) (by omega) c1
      refine J_aload_n dX11_shares_23 rfl 0 rfl ?_
      refine J_iload_n dX11_shares_24 rfl 1 rfl ?_
      refine J_iload dX11_shares_25 6 rfl ?_
      refine J_iload_n dX11_shares_27 rfl 2 rfl ?_
      refine J_eVI (z := mX11_partsOf) (As := [.int (nI r), .int (nI j), .int x2]) (rest := []) (ci := 11) (x := f_parts v NS (nI r) (nI j) x2) dX11_shares_28 ml_X11_245 ok_X11_partsOf iv_X11_partsOf (by decide) (i1100 hI) rfl rfl rfl rfl (Nat.le_of_ble_eq_true rfl) (k_X11_partsOf hI (upA v 1148 G) u _ _ _ NS hS hS2 (vp_in_nI hr (by omega))) ?_
      refine J_istore (lv' := [(7, .int (f_parts v NS (nI r) (nI j) x2)), (0, .ref 1100), (1, .int (nI r)), (2, .int x2), (3, .int a), (4, .int b), (5, .int (nI q)), (6, .int (nI j))]) dX11_shares_31 (by decide) rfl ?_
      refine J_aload_n dX11_shares_33 rfl 1 rfl ?_
      refine J_getr (ci := 11) (j := 12) (t := 1113) dX11_shares_34 fl_X11_31 (i1100 hI) rfl rfl rfl ?_
      refine J_iload_n dX11_shares_37 rfl 2 rfl ?_
      refine J_iale (x := v 1113 r) dX11_shares_38 (i1113 hI) rfl (ix_in (j := r) rfl (by omega) (by omega)) ((congrArg _ (ix_cl (j := r) rfl (by omega))).trans rfl) ?_
      refine J_iload dX11_shares_39 0 rfl ?_
      refine J_imul dX11_shares_41 ?_
      refine J_bipush (x := 60) dX11_shares_42 (by decide) ?_
      refine J_idiv dX11_shares_44 (by decide) ?_
      refine J_istore (lv' := [(8, .int (((v 1113 r) * (f_parts v NS (nI r) (nI j) x2)) / 60)), (7, .int (f_parts v NS (nI r) (nI j) x2)), (0, .ref 1100), (1, .int (nI r)), (2, .int x2), (3, .int a), (4, .int b), (5, .int (nI q)), (6, .int (nI j))]) dX11_shares_45 (by decide) rfl ?_
      refine J_aload_n dX11_shares_47 rfl 2 rfl ?_
      refine J_getr (ci := 11) (j := 47) (t := 1148) dX11_shares_48 fl_X11_102 (i1100 hI) rfl rfl rfl ?_
      refine J_iload dX11_shares_51 8 rfl ?_
      refine J_dup2 dX11_shares_53 rfl rfl ?_
      refine J_iale (x := G j) dX11_shares_54 (i1148 hI) rfl (ix_in (j := j) rfl (by omega) (by omega)) ((congrArg _ (ix_cl (j := j) rfl (by omega))).trans rfl) ?_
      refine J_iload dX11_shares_55 0 rfl ?_
      refine J_iadd dX11_shares_57 ?_
      refine J_iase (j := j) dX11_shares_58 (i1148 hI) rfl (ix_in (j := j) rfl (by omega) (by omega)) (ix_cl (j := j) rfl (by omega)) ?_
      refine J_iload_n dX11_shares_59 rfl 5 rfl ?_
      refine J_iload dX11_shares_60 0 rfl ?_
      refine J_isub dX11_shares_62 ?_
      refine J_istore_n (lv' := [(3, .int (a - (((v 1113 r) * (f_parts v NS (nI r) (nI j) x2)) / 60))), (8, .int (((v 1113 r) * (f_parts v NS (nI r) (nI j) x2)) / 60)), (7, .int (f_parts v NS (nI r) (nI j) x2)), (0, .ref 1100), (1, .int (nI r)), (2, .int x2), (4, .int b), (5, .int (nI q)), (6, .int (nI j))]) dX11_shares_63 rfl (by decide) rfl ?_
      refine J_iload dX11_shares_64 2 rfl ?_
      refine J_iload dX11_shares_66 6 rfl ?_
      refine J_icmp_le (tgt := 79) dX11_shares_68 (by decide) (fun c2 => ?_) (fun c2 => ?_)
      · refine J_iinc (q := 8) (z := nI (j + 1)) (lv' := [(6, .int (nI (j + 1))), (3, .int (a - (((v 1113 r) * (f_parts v NS (nI r) (nI j) x2)) / 60))), (8, .int (((v 1113 r) * (f_parts v NS (nI r) (nI j) x2)) / 60)), (7, .int (f_parts v NS (nI r) (nI j) x2)), (0, .ref 1100), (1, .int (nI r)), (2, .int x2), (4, .int b), (5, .int (nI q))]) dX11_shares_79 rfl (nI_1 j) (by decide) rfl ?_
        refine J_goto (tgt := 16) dX11_shares_82 (by decide) ?_
        rw [up2_upA]
        refine J_lv [4, 5, 6, 1, 7, 8, 0] rfl ?_
        exact ih (j + 1) _ _ _ _ (by omega) (by omega) (by rw [sh_l_s, ha]) (by rw [sh_m_s, ← hb, if_pos c2]) (by rw [sh_b_s, ← hb, if_pos c2, hq]) (by rw [sh_g_s, hG])
      · refine J_iload dX11_shares_71 2 rfl ?_
        refine J_istore (lv' := [(4, .int (f_parts v NS (nI r) (nI j) x2)), (3, .int (a - (((v 1113 r) * (f_parts v NS (nI r) (nI j) x2)) / 60))), (8, .int (((v 1113 r) * (f_parts v NS (nI r) (nI j) x2)) / 60)), (7, .int (f_parts v NS (nI r) (nI j) x2)), (0, .ref 1100), (1, .int (nI r)), (2, .int x2), (5, .int (nI q)), (6, .int (nI j))]) dX11_shares_73 (by decide) rfl ?_
        refine J_iload dX11_shares_75 8 rfl ?_
        refine J_istore (lv' := [(5, .int (nI j)), (4, .int (f_parts v NS (nI r) (nI j) x2)), (3, .int (a - (((v 1113 r) * (f_parts v NS (nI r) (nI j) x2)) / 60))), (8, .int (((v 1113 r) * (f_parts v NS (nI r) (nI j) x2)) / 60)), (7, .int (f_parts v NS (nI r) (nI j) x2)), (0, .ref 1100), (1, .int (nI r)), (2, .int x2), (6, .int (nI j))]) dX11_shares_77 (by decide) rfl ?_
        refine J_iinc (q := 8) (z := nI (j + 1)) (lv' := [(6, .int (nI (j + 1))), (5, .int (nI j)), (4, .int (f_parts v NS (nI r) (nI j) x2)), (3, .int (a - (((v 1113 r) * (f_parts v NS (nI r) (nI j) x2)) / 60))), (8, .int (((v 1113 r) * (f_parts v NS (nI r) (nI j) x2)) / 60)), (7, .int (f_parts v NS (nI r) (nI j) x2)), (0, .ref 1100), (1, .int (nI r)), (2, .int x2)]) dX11_shares_79 rfl (nI_1 j) (by decide) rfl ?_
        refine J_goto (tgt := 16) dX11_shares_82 (by decide) ?_
        rw [up2_upA]
        refine J_lv [6, 7, 8, 3, 2, 1, 0] rfl ?_
        exact ih (j + 1) _ _ _ _ (by omega) (by omega) (by rw [sh_l_s, ha]) (by rw [sh_m_s, ← hb, if_neg c2]) (by rw [sh_b_s, ← hb, if_neg c2]) (by rw [sh_g_s, hG])
theorem k_X11_shares {l : Launch} {I : List Nat} (hI : fr_I I) (v : fr_V) (u : fr_U) (NS r : Nat) (hr : r < 16) (hS : v 1100 14 = nI NS) (hS2 : NS ≤ 40) (x2 : Int32) : Con l mX11_shares I v u [.ref 1100, .int (nI r), .int x2] (QN u (fun z => z = f_shares v NS r x2)) := by
  refine Con.of (by decide) (Nat.le_of_ble_eq_true rfl) ?_
  show J l mX11_shares I v u 0 [(0, .ref 1100), (1, .int (nI r)), (2, .int x2)] [] _
  refine J_aload_n dX11_shares_0 rfl 0 rfl ?_
  refine J_getr (ci := 11) (j := 12) (t := 1113) dX11_shares_1 fl_X11_31 (i1100 hI) rfl rfl rfl ?_
  refine J_iload_n dX11_shares_4 rfl 1 rfl ?_
  refine J_iale (x := v 1113 r) dX11_shares_5 (i1113 hI) rfl (ix_in (j := r) rfl (by omega) (by omega)) ((congrArg _ (ix_cl (j := r) rfl (by omega))).trans rfl) ?_
  refine J_istore_n (lv' := [(3, .int (v 1113 r)), (0, .ref 1100), (1, .int (nI r)), (2, .int x2)]) dX11_shares_6 rfl (by decide) rfl ?_
  refine J_iconst (x := 0) dX11_shares_7 (by decide) ?_
  refine J_istore (lv' := [(4, .int 0), (3, .int (v 1113 r)), (0, .ref 1100), (1, .int (nI r)), (2, .int x2)]) dX11_shares_8 (by decide) rfl ?_
  refine J_iconst (x := 0) dX11_shares_10 (by decide) ?_
  refine J_istore (lv' := [(5, .int 0), (4, .int 0), (3, .int (v 1113 r)), (0, .ref 1100), (1, .int (nI r)), (2, .int x2)]) dX11_shares_11 (by decide) rfl ?_
  refine J_iconst (x := 0) dX11_shares_13 (by decide) ?_
  refine J_istore (lv' := [(6, .int 0), (5, .int 0), (4, .int 0), (3, .int (v 1113 r)), (0, .ref 1100), (1, .int (nI r)), (2, .int x2)]) dX11_shares_14 (by decide) rfl ?_
  refine J_lv [4, 5, 6, 3, 2, 1, 0] rfl ?_
  refine J_ve (w := upA v 1148 (v 1148)) (upA_id v 1148).symm ?_
  exact sh_L hI v u NS r hr hS hS2 x2 9 0 _ _ 0 _ (by omega) (by omega) rfl rfl rfl rfl
end
section
theorem nz_lt {a b : Nat} (ha : a < 2 ^ 31) (hb : b < 2 ^ 31) (h : nI a < nI b) : a < b := (nI_ltI ha hb).mp h
theorem nz_nlt {a b : Nat} (ha : a < 2 ^ 31) (hb : b < 2 ^ 31) (h : ¬ nI a < nI b) : b ≤ a := Nat.le_of_not_lt (fun q => h ((nI_ltI ha hb).mpr q))
/-- what the payments need of the state -/
def py_ok (nr N NS ar : Nat) (z : fr_V) : Prop := z 1100 7 = nI nr ∧ nr ≤ 16 ∧ z 1100 16 = nI N ∧ nt_ok (z 1118) (z 1119) N ∧ z 1100 14 = nI NS ∧ NS ≤ 40 ∧ z 1141 0 = nI ar ∧ ar ≤ 40 ∧ ∀ r, r < nr → (¬ z 1111 r = (-1) → vp_in (z 1111 r) 12) ∧ (¬ z 1112 r = (-1) → vp_in (z 1112 r) 12)
def py_same (z w : fr_V) : Prop := z 1100 7 = w 1100 7 ∧ z 1100 16 = w 1100 16 ∧ z 1100 14 = w 1100 14 ∧ z 1118 = w 1118 ∧ z 1119 = w 1119 ∧ z 1141 = w 1141 ∧ z 1111 = w 1111 ∧ z 1112 = w 1112
theorem py_ok.of {nr N NS ar : Nat} {z w : fr_V} (h : py_ok nr N NS ar w) (e : py_same z w) : py_ok nr N NS ar z := by
  obtain ⟨e1, e2, e3, e4, e5, e6, e7, e8⟩ := e
  unfold py_ok
  rw [e1, e2, e3, e4, e5, e6, e7, e8]
  exact h
theorem py_same_row {z : fr_V} {k i : Nat} {x : Int32} (hk : k = 1147 ∨ k = 1148) : py_same (up2 z k i x) z := by
  rcases hk with rfl | rfl <;> exact ⟨rfl, rfl, rfl, rfl, rfl, rfl, rfl, rfl⟩
theorem py_same_48 {z : fr_V} {x : Int32} : py_same (up2 z 1100 48 x) z := ⟨rfl, rfl, rfl, rfl, rfl, rfl, rfl, rfl⟩
theorem py_same_sh {z : fr_V} {NS r : Nat} {k : Int32} : py_same (f_shares z NS r k) z := ⟨rfl, rfl, rfl, rfl, rfl, rfl, rfl, rfl⟩
theorem py_same.tr {a b c : fr_V} (h : py_same a b) (g : py_same b c) : py_same a c := by
  obtain ⟨h1, h2, h3, h4, h5, h6, h7, h8⟩ := h
  obtain ⟨g1, g2, g3, g4, g5, g6, g7, g8⟩ := g
  exact ⟨h1.trans g1, h2.trans g2, h3.trans g3, h4.trans g4, h5.trans g5, h6.trans g6, h7.trans g7, h8.trans g8⟩
theorem py_same_kn {z : fr_V} {N : Nat} {k : Int32} : py_same (f_know z N k) z := by
  unfold py_same
  rw [f_know_m (by decide) (by decide), f_know_m (by decide) (by decide), f_know_m (by decide) (by decide), f_know_m (by decide) (by decide), f_know_m (by decide) (by decide), f_know_m (by decide) (by decide)]
  exact ⟨rfl, rfl, rfl, rfl, rfl, rfl, rfl, rfl⟩
noncomputable def f_isProved (v : fr_V) (N r : Nat) (h : Int32) : Int32 := cI (∃ i, i < N ∧ pvP v r h i)
noncomputable def py_h_t (N NS r k h : Nat) (z : fr_V) : fr_V := if z 1147 (80 * r + h) = (-1) then (if f_X11_isDue z (nI r) (nI h) = 0 then z else if f_isProved z N r (nI h) = 0 then z else f_shares (up2 z 1147 (80 * r + h) (nI k)) NS r (nI k)) else z
noncomputable def py_h (N NS r k h0 : Nat) (w0 : fr_V) : Nat → fr_V
  | 0 => w0
  | s + 1 => py_h_t N NS r k (h0 + s) (py_h N NS r k h0 w0 s)
theorem py_h_s (N NS r k h0 : Nat) (w0 : fr_V) (s : Nat) : py_h N NS r k h0 w0 (s + 1) = py_h_t N NS r k (h0 + s) (py_h N NS r k h0 w0 s) := rfl
theorem py_h_L {l : Launch} {I : List Nat} (hI : fr_I I) (u : fr_U) (x1 : Int32) (nr N NS ar r k h0 : Nat) (hr : r < nr) (hnr : nr ≤ 16) (hk80 : k < 80) (hh0 : h0 ≤ k) (w0 : fr_V) {Q : Option Value → fr_V → fr_U → Prop} (hk : ∀ z : fr_V, z = py_h N NS r k h0 w0 (k + 1 - h0) → py_ok nr N NS ar z → J l mX11_pays I z u 165 [(0, .ref 1100), (1, .int x1), (2, .int (nI k)), (3, .int (nI r))] [] Q) : ∀ (d s : Nat) (z : fr_V) (hd : k + 1 - h0 - s < d) (hs : s ≤ k + 1 - h0) (hz : z = py_h N NS r k h0 w0 s) (hv : py_ok nr N NS ar z), J l mX11_pays I z u 95 [(0, .ref 1100), (1, .int x1), (2, .int (nI k)), (3, .int (nI r)), (4, .int (nI (h0 + s)))] [] Q := by
  intro d
  induction d with
  | zero => intros; omega
  | succ d ih =>
    intro s z hd hs hz hv
    refine J_iload dX11_pays_95 4 rfl ?_
    refine J_iload_n dX11_pays_97 rfl 2 rfl ?_
    refine J_icmp_gt (tgt := 165) dX11_pays_98 (by decide) (fun c1 => ?_) (fun c1 => ?_)
    · have e : s = k + 1 - h0 := by have := nz_lt (by omega) (by omega) c1; omega
      refine J_lv [0, 1, 2, 3] rfl ?_
      rw [e] at hz
      exact hk z hz hv
    · have hsk : h0 + s ≤ k := nz_nlt (by omega) (by omega) c1
      refine J_aload_n dX11_pays_101 rfl 0 rfl ?_
      refine J_getr (ci := 11) (j := 46) (t := 1147) dX11_pays_102 fl_X11_99 (i1100 hI) rfl rfl rfl ?_
      refine J_bipush (x := 80) dX11_pays_105 (by decide) ?_
      refine J_iload_n dX11_pays_107 rfl 3 rfl ?_
      refine J_imul dX11_pays_108 ?_
      refine J_iload dX11_pays_109 4 rfl ?_
      refine J_iadd dX11_pays_111 ?_
      refine J_iale (x := z 1147 ((80 * r) + (h0 + s))) dX11_pays_112 (i1147 hI) rfl (ix_in (j := (80 * r) + (h0 + s)) (by show ((nI 80) * (nI r)) + (nI (h0 + s)) = _; simp only [nI_add, pk_mul]) (by omega) (by omega)) ((congrArg _ (ix_cl (j := (80 * r) + (h0 + s)) (by show ((nI 80) * (nI r)) + (nI (h0 + s)) = _; simp only [nI_add, pk_mul]) (by omega))).trans rfl) ?_
      refine J_iconst (x := (-1)) dX11_pays_113 (by decide) ?_
      refine J_icmp_ne (tgt := 159) dX11_pays_114 (by decide) (fun c2 => ?_) (fun c2 => ?_)
      · refine J_iinc (q := 4) (z := nI ((h0 + s) + 1)) (lv' := [(4, .int (nI ((h0 + s) + 1))), (0, .ref 1100), (1, .int x1), (2, .int (nI k)), (3, .int (nI r))]) dX11_pays_159 rfl (nI_1 (h0 + s)) (by decide) rfl ?_
        refine J_goto (tgt := 95) dX11_pays_162 (by decide) ?_
        refine J_lv [1, 2, 3, 4, 0] rfl ?_
        exact ih (s + 1) _ (by omega) (by omega) (by rw [py_h_s, ← hz]; unfold py_h_t; rw [if_neg c2]) hv
      · refine J_aload_n dX11_pays_117 rfl 0 rfl ?_
        refine J_iload_n dX11_pays_118 rfl 3 rfl ?_
        refine J_iload dX11_pays_119 4 rfl ?_
        refine J_eVI (z := mX11_isDue) (As := [.int (nI r), .int (nI (h0 + s))]) (rest := []) (ci := 11) (x := f_X11_isDue z (nI r) (nI (h0 + s))) dX11_pays_121 ml_X11_269 ok_X11_isDue iv_X11_isDue (by decide) (i1100 hI) rfl rfl rfl rfl (Nat.le_of_ble_eq_true rfl) (k_X11_isDue hI z u _ _ (vp_in_nI (by omega) (by omega)) (by rw [nI_clamp (by omega)]; exact (hv.2.2.2.2.2.2.2.2 r hr).1) (by rw [nI_clamp (by omega)]; exact (hv.2.2.2.2.2.2.2.2 r hr).2)) ?_
        refine J_if_eq (tgt := 159) dX11_pays_124 (by decide) (fun c3 => ?_) (fun c3 => ?_)
        · refine J_iinc (q := 4) (z := nI ((h0 + s) + 1)) (lv' := [(4, .int (nI ((h0 + s) + 1))), (0, .ref 1100), (1, .int x1), (2, .int (nI k)), (3, .int (nI r))]) dX11_pays_159 rfl (nI_1 (h0 + s)) (by decide) rfl ?_
          refine J_goto (tgt := 95) dX11_pays_162 (by decide) ?_
          refine J_lv [1, 2, 3, 4, 0] rfl ?_
          exact ih (s + 1) _ (by omega) (by omega) (by rw [py_h_s, ← hz]; unfold py_h_t; rw [if_pos c2, if_pos c3]) hv
        · refine J_aload_n dX11_pays_127 rfl 0 rfl ?_
          refine J_iload_n dX11_pays_128 rfl 3 rfl ?_
          refine J_iload dX11_pays_129 4 rfl ?_
          refine J_eVI (z := mX11_isProved) (As := [.int (nI r), .int (nI (h0 + s))]) (rest := []) (ci := 11) (x := f_isProved z N r (nI (h0 + s))) dX11_pays_131 ml_X11_272 ok_X11_isProved iv_X11_isProved (by decide) (i1100 hI) rfl rfl rfl rfl (Nat.le_of_ble_eq_true rfl) (k_X11_isProved hI z u r (by omega) _ N hv.2.2.1 hv.2.2.2.1) ?_
          refine J_if_ne (tgt := 140) dX11_pays_134 (by decide) (fun c4 => ?_) (fun c4 => ?_)
          · refine J_aload_n dX11_pays_140 rfl 0 rfl ?_
            refine J_getr (ci := 11) (j := 46) (t := 1147) dX11_pays_141 fl_X11_99 (i1100 hI) rfl rfl rfl ?_
            refine J_bipush (x := 80) dX11_pays_144 (by decide) ?_
            refine J_iload_n dX11_pays_146 rfl 3 rfl ?_
            refine J_imul dX11_pays_147 ?_
            refine J_iload dX11_pays_148 4 rfl ?_
            refine J_iadd dX11_pays_150 ?_
            refine J_iload_n dX11_pays_151 rfl 2 rfl ?_
            refine J_iase (j := (80 * r) + (h0 + s)) dX11_pays_152 (i1147 hI) rfl (ix_in (j := (80 * r) + (h0 + s)) (by show ((nI 80) * (nI r)) + (nI (h0 + s)) = _; simp only [nI_add, pk_mul]) (by omega) (by omega)) (ix_cl (j := (80 * r) + (h0 + s)) (by show ((nI 80) * (nI r)) + (nI (h0 + s)) = _; simp only [nI_add, pk_mul]) (by omega)) ?_
            refine J_aload_n dX11_pays_153 rfl 0 rfl ?_
            refine J_iload_n dX11_pays_154 rfl 3 rfl ?_
            refine J_iload_n dX11_pays_155 rfl 2 rfl ?_
            refine J_eVN (z := mX11_shares) (As := [.int (nI r), .int (nI k)]) (rest := []) (ci := 11) (w := f_shares (up2 z 1147 ((80 * r) + (h0 + s)) (nI k)) NS r (nI k)) dX11_pays_156 ml_X11_275 ok_X11_shares iv_X11_shares (by decide) (i1100 hI) rfl rfl rfl rfl (Nat.le_of_ble_eq_true rfl) (k_X11_shares hI (up2 z 1147 ((80 * r) + (h0 + s)) (nI k)) u NS r (by omega) hv.2.2.2.2.1 hv.2.2.2.2.2.1 _) ?_
            refine J_iinc (q := 4) (z := nI ((h0 + s) + 1)) (lv' := [(4, .int (nI ((h0 + s) + 1))), (0, .ref 1100), (1, .int x1), (2, .int (nI k)), (3, .int (nI r))]) dX11_pays_159 rfl (nI_1 (h0 + s)) (by decide) rfl ?_
            refine J_goto (tgt := 95) dX11_pays_162 (by decide) ?_
            refine J_lv [1, 2, 3, 4, 0] rfl ?_
            exact ih (s + 1) _ (by omega) (by omega) (by rw [py_h_s, ← hz]; unfold py_h_t; rw [if_pos c2, if_neg c3, if_neg c4]) (hv.of (py_same_sh.tr (py_same_row (Or.inl rfl))))
          · refine J_goto (tgt := 159) dX11_pays_137 (by decide) ?_
            refine J_iinc (q := 4) (z := nI ((h0 + s) + 1)) (lv' := [(4, .int (nI ((h0 + s) + 1))), (0, .ref 1100), (1, .int x1), (2, .int (nI k)), (3, .int (nI r))]) dX11_pays_159 rfl (nI_1 (h0 + s)) (by decide) rfl ?_
            refine J_goto (tgt := 95) dX11_pays_162 (by decide) ?_
            refine J_lv [1, 2, 3, 4, 0] rfl ?_
            exact ih (s + 1) _ (by omega) (by omega) (by rw [py_h_s, ← hz]; unfold py_h_t; rw [if_pos c2, if_neg c3, if_pos c4]) hv
noncomputable def py_r (N NS ar k : Nat) (w0 : fr_V) : Nat → fr_V
  | 0 => w0
  | r + 1 => py_h N NS r k (k - ar) (py_r N NS ar k w0 r) (k + 1 - (k - ar))
theorem py_r_s (N NS ar k : Nat) (w0 : fr_V) (r : Nat) : py_r N NS ar k w0 (r + 1) = py_h N NS r k (k - ar) (py_r N NS ar k w0 r) (k + 1 - (k - ar)) := rfl
theorem py_0 {k ar : Nat} (hk : k < 80) (ha : ar ≤ 40) (h : ¬ (0 : Int32) ≤ nI k - nI ar) : k - ar = 0 := by
  by_cases q : ar ≤ k
  · rw [pk_sub q] at h; exact absurd (nI_pos' (by omega)) h
  · omega
theorem py_1 {k ar : Nat} (hk : k < 80) (ha : ar ≤ 40) (h : (0 : Int32) ≤ nI k - nI ar) : nI k - nI ar = nI (k - ar + 0) := by
  by_cases q : ar ≤ k
  · exact pk_sub q
  · have := pk_sneg (a := k) (b := ar) (by omega) (by omega)
    exact absurd this (Int32.not_lt.mpr h)
theorem J_li {l : Launch} {y : fr_M} {I : List Nat} {v : fr_V} {u : fr_U} {Q : Option Value → fr_V → fr_U → Prop} {pc : Nat} {q0 q1 q2 q3 : Nat × Value} {i : Nat} {a b : Int32} {st : List Value} (h : a = b) (k : J l y I v u pc [q0, q1, q2, q3, (i, .int b)] st Q) : J l y I v u pc [q0, q1, q2, q3, (i, .int a)] st Q := by subst h; exact k
theorem py_r_L {l : Launch} {I : List Nat} (hI : fr_I I) (u : fr_U) (x1 : Int32) (nr N NS ar k : Nat) (hk80 : k < 80) (w0 : fr_V) (hnr : nr ≤ 16) {Q : Option Value → fr_V → fr_U → Prop} (hk : ∀ z : fr_V, z = py_r N NS ar k w0 nr → py_ok nr N NS ar z → J l mX11_pays I z u 171 [(0, .ref 1100), (1, .int x1), (2, .int (nI k))] [] Q) : ∀ (d r : Nat) (z : fr_V) (hd : nr - r < d) (hr : r ≤ nr) (hz : z = py_r N NS ar k w0 r) (hv : py_ok nr N NS ar z), J l mX11_pays I z u 62 [(0, .ref 1100), (1, .int x1), (2, .int (nI k)), (3, .int (nI r))] [] Q := by
  intro d
  induction d with
  | zero => intros; omega
  | succ d ih =>
    intro r z hd hr hz hv
    refine J_iload_n dX11_pays_62 rfl 3 rfl ?_
    refine J_aload_n dX11_pays_63 rfl 0 rfl ?_
    refine J_gete (ci := 11) (j := 7) (x := nI nr) dX11_pays_64 fl_X11_233 (i1100 hI) rfl rfl hv.1 ?_
    refine J_icmp_ge (tgt := 171) dX11_pays_67 (by decide) (fun c1 => ?_) (fun c1 => ?_)
    · have e : r = nr := by have := nz_le (by omega) (by omega) c1; omega
      refine J_lv [0, 1, 2] rfl ?_
      rw [e] at hz
      exact hk z hz hv
    · have hrn : r < nr := nz_nle (by omega) (by omega) c1
      have har : ar ≤ 40 := hv.2.2.2.2.2.2.2.1
      refine J_iload_n dX11_pays_70 rfl 2 rfl ?_
      refine J_aload_n dX11_pays_71 rfl 0 rfl ?_
      refine J_getr (ci := 11) (j := 40) (t := 1141) dX11_pays_72 fl_X11_86 (i1100 hI) rfl rfl rfl ?_
      refine J_iconst (x := 0) dX11_pays_75 (by decide) ?_
      refine J_iale (x := nI ar) dX11_pays_76 (i1141 hI) rfl (ix_in (j := 0) rfl (by omega) (by omega)) ((congrArg _ (ix_cl (j := 0) rfl (by omega))).trans hv.2.2.2.2.2.2.1) ?_
      refine J_isub dX11_pays_77 ?_
      refine J_if_ge (tgt := 85) dX11_pays_78 (by decide) (fun c2 => ?_) (fun c2 => ?_)
      · refine J_iload_n dX11_pays_85 rfl 2 rfl ?_
        refine J_aload_n dX11_pays_86 rfl 0 rfl ?_
        refine J_getr (ci := 11) (j := 40) (t := 1141) dX11_pays_87 fl_X11_86 (i1100 hI) rfl rfl rfl ?_
        refine J_iconst (x := 0) dX11_pays_90 (by decide) ?_
        refine J_iale (x := nI ar) dX11_pays_91 (i1141 hI) rfl (ix_in (j := 0) rfl (by omega) (by omega)) ((congrArg _ (ix_cl (j := 0) rfl (by omega))).trans hv.2.2.2.2.2.2.1) ?_
        refine J_isub dX11_pays_92 ?_
        refine J_istore (lv' := [(4, .int ((nI k) - (nI ar))), (0, .ref 1100), (1, .int x1), (2, .int (nI k)), (3, .int (nI r))]) dX11_pays_93 (by decide) rfl ?_
        refine J_lv [1, 2, 3, 4, 0] rfl ?_
        rw [py_1 hk80 hv.2.2.2.2.2.2.2.1 c2]
        refine py_h_L hI u x1 nr N NS ar r k (k - ar) hrn hv.2.1 hk80 (by omega) z (fun z2 hz2 hv2 => ?_) (k + 1 - (k - ar) + 1) 0 _ (by omega) (by omega) rfl hv
        refine J_iinc (q := 3) (z := nI (r + 1)) (lv' := [(3, .int (nI (r + 1))), (0, .ref 1100), (1, .int x1), (2, .int (nI k))]) dX11_pays_165 rfl (nI_1 r) (by decide) rfl ?_
        refine J_goto (tgt := 62) dX11_pays_168 (by decide) ?_
        refine J_lv [1, 2, 3, 0] rfl ?_
        exact ih (r + 1) _ (by omega) (by omega) (by rw [py_r_s, ← hz]; exact hz2) hv2
      · refine J_iconst (x := 0) dX11_pays_81 (by decide) ?_
        refine J_goto (tgt := 93) dX11_pays_82 (by decide) ?_
        refine J_istore (lv' := [(4, .int 0), (0, .ref 1100), (1, .int x1), (2, .int (nI k)), (3, .int (nI r))]) dX11_pays_93 (by decide) rfl ?_
        refine J_lv [1, 2, 3, 4, 0] rfl ?_
        have e0 : (0 : Int32) = nI (k - ar + 0) := by rw [py_0 hk80 hv.2.2.2.2.2.2.2.1 c2]; rfl
        refine J_li (a := 0) (b := nI (k - ar + 0)) e0 ?_
        refine py_h_L hI u x1 nr N NS ar r k (k - ar) hrn hv.2.1 hk80 (by omega) z (fun z2 hz2 hv2 => ?_) (k + 1 - (k - ar) + 1) 0 _ (by omega) (by omega) rfl hv
        refine J_iinc (q := 3) (z := nI (r + 1)) (lv' := [(3, .int (nI (r + 1))), (0, .ref 1100), (1, .int x1), (2, .int (nI k))]) dX11_pays_165 rfl (nI_1 r) (by decide) rfl ?_
        refine J_goto (tgt := 62) dX11_pays_168 (by decide) ?_
        refine J_lv [1, 2, 3, 0] rfl ?_
        exact ih (r + 1) _ (by omega) (by omega) (by rw [py_r_s, ← hz]; exact hz2) hv2
noncomputable def py_k (nr N NS ar : Nat) (w0 : fr_V) : Nat → fr_V
  | 0 => w0
  | k + 1 => py_r N NS ar k (f_know (py_k nr N NS ar w0 k) N (nI k)) nr
theorem py_k_s (nr N NS ar : Nat) (w0 : fr_V) (k : Nat) : py_k nr N NS ar w0 (k + 1) = py_r N NS ar k (f_know (py_k nr N NS ar w0 k) N (nI k)) nr := rfl
theorem py_k_L {l : Launch} {I : List Nat} (hI : fr_I I) (u : fr_U) (nr N NS ar E : Nat) (hE : E < 80) (w0 : fr_V) : ∀ (d k : Nat) (z : fr_V) (hd : E + 1 - k < d) (hk : k ≤ E + 1) (hz : z = py_k nr N NS ar w0 k) (hv : py_ok nr N NS ar z), J l mX11_pays I z u 50 [(0, .ref 1100), (1, .int (nI E)), (2, .int (nI k))] [] (QN u (fun a => a = py_k nr N NS ar w0 (E + 1))) := by
  intro d
  induction d with
  | zero => intros; omega
  | succ d ih =>
    intro k z hd hk hz hv
    refine J_iload_n dX11_pays_50 rfl 2 rfl ?_
    refine J_iload_n dX11_pays_51 rfl 1 rfl ?_
    refine J_icmp_gt (tgt := 177) dX11_pays_52 (by decide) (fun c1 => ?_) (fun c1 => ?_)
    · exact J_vret dX11_pays_177 rfl ⟨rfl, rfl, by have e : k = E + 1 := by {have := nz_lt (by omega) (by omega) c1; omega}; rw [hz, e]⟩
    · have hkE : k ≤ E := nz_nlt (by omega) (by omega) c1
      refine J_aload_n dX11_pays_55 rfl 0 rfl ?_
      refine J_iload_n dX11_pays_56 rfl 2 rfl ?_
      refine J_eVN (z := mX11_know) (As := [.int (nI k)]) (rest := []) (ci := 11) (w := f_know z N (nI k)) dX11_pays_57 ml_X11_257 ok_X11_know iv_X11_know (by decide) (i1100 hI) rfl rfl rfl rfl (Nat.le_of_ble_eq_true rfl) (k_X11_know hI z u _ N hv.2.2.1 hv.2.2.2.1) ?_
      refine J_iconst (x := 0) dX11_pays_60 (by decide) ?_
      refine J_istore_n (lv' := [(3, .int 0), (0, .ref 1100), (1, .int (nI E)), (2, .int (nI k))]) dX11_pays_61 rfl (by decide) rfl ?_
      refine J_lv [1, 2, 3, 0] rfl ?_
      refine py_r_L hI u (nI E) nr N NS ar k (by omega) (f_know z N (nI k)) hv.2.1 (fun z2 hz2 hv2 => ?_) (nr + 1) 0 _ (by omega) (by omega) rfl (hv.of py_same_kn)
      refine J_iinc (q := 2) (z := nI (k + 1)) (lv' := [(2, .int (nI (k + 1))), (0, .ref 1100), (1, .int (nI E))]) dX11_pays_171 rfl (nI_1 k) (by decide) rfl ?_
      refine J_goto (tgt := 50) dX11_pays_174 (by decide) ?_
      refine J_lv [1, 2, 0] rfl ?_
      exact ih (k + 1) _ (by omega) (by omega) (by rw [py_k_s, ← hz]; exact hz2) hv2
def py_b_t (j : Nat) (z : fr_V) : fr_V := up2 z 1148 j 0
def py_b (w0 : fr_V) : Nat → fr_V
  | 0 => w0
  | j + 1 => py_b_t j (py_b w0 j)
theorem py_b_s (w0 : fr_V) (j : Nat) : py_b w0 (j + 1) = py_b_t j (py_b w0 j) := rfl
theorem py_b_L {l : Launch} {I : List Nat} (hI : fr_I I) (u : fr_U) (w0 : fr_V) (x1 : Int32) {nr N NS ar : Nat} {Q : Option Value → fr_V → fr_U → Prop} (hk : ∀ z : fr_V, z = py_b w0 8 → py_ok nr N NS ar z → J l mX11_pays I z u 43 [(0, .ref 1100), (1, .int x1), (2, .int (nI 8))] [] Q) : ∀ (d j : Nat) (z : fr_V) (hd : 8 - j < d) (hj : j ≤ 8) (hz : z = py_b w0 j) (hv : py_ok nr N NS ar z), J l mX11_pays I z u 24 [(0, .ref 1100), (1, .int x1), (2, .int (nI j))] [] Q := by
  intro d
  induction d with
  | zero => intros; omega
  | succ d ih =>
    intro j z hd hj hz hv
    refine J_iload_n dX11_pays_24 rfl 2 rfl ?_
    refine J_bipush (x := 8) dX11_pays_25 (by decide) ?_
    refine J_icmp_ge (tgt := 43) dX11_pays_27 (by decide) (fun c1 => ?_) (fun c1 => ?_)
    · have e : j = 8 := by have := nz_le (a := 8) (by omega) (by omega) c1; omega
      refine J_lv [0, 1, 2] rfl ?_
      subst e
      exact hk z hz hv
    · have hj8 : j < 8 := nz_nle (a := 8) (by omega) (by omega) c1
      refine J_aload_n dX11_pays_30 rfl 0 rfl ?_
      refine J_getr (ci := 11) (j := 47) (t := 1148) dX11_pays_31 fl_X11_102 (i1100 hI) rfl rfl rfl ?_
      refine J_iload_n dX11_pays_34 rfl 2 rfl ?_
      refine J_iconst (x := 0) dX11_pays_35 (by decide) ?_
      refine J_iase (j := j) dX11_pays_36 (i1148 hI) rfl (ix_in (j := j) rfl (by omega) (by omega)) (ix_cl (j := j) rfl (by omega)) ?_
      refine J_iinc (q := 2) (z := nI (j + 1)) (lv' := [(2, .int (nI (j + 1))), (0, .ref 1100), (1, .int x1)]) dX11_pays_37 rfl (nI_1 j) (by decide) rfl ?_
      refine J_goto (tgt := 24) dX11_pays_40 (by decide) ?_
      refine J_lv [1, 2, 0] rfl ?_
      exact ih (j + 1) _ (by omega) (by omega) (by rw [py_b_s, ← hz]; unfold py_b_t; rfl) ((hv.of (py_same_row (Or.inr rfl))))
def py_a_t (j : Nat) (z : fr_V) : fr_V := up2 z 1147 j (-1)
def py_a (w0 : fr_V) : Nat → fr_V
  | 0 => w0
  | j + 1 => py_a_t j (py_a w0 j)
theorem py_a_s (w0 : fr_V) (j : Nat) : py_a w0 (j + 1) = py_a_t j (py_a w0 j) := rfl
theorem py_a_L {l : Launch} {I : List Nat} (hI : fr_I I) (u : fr_U) (w0 : fr_V) (x1 : Int32) {nr N NS ar : Nat} {Q : Option Value → fr_V → fr_U → Prop} (hk : ∀ z : fr_V, z = py_a w0 1280 → py_ok nr N NS ar z → J l mX11_pays I z u 22 [(0, .ref 1100), (1, .int x1), (2, .int (nI 1280))] [] Q) : ∀ (d j : Nat) (z : fr_V) (hd : 1280 - j < d) (hj : j ≤ 1280) (hz : z = py_a w0 j) (hv : py_ok nr N NS ar z), J l mX11_pays I z u 2 [(0, .ref 1100), (1, .int x1), (2, .int (nI j))] [] Q := by
  intro d
  induction d with
  | zero => intros; omega
  | succ d ih =>
    intro j z hd hj hz hv
    refine J_iload_n dX11_pays_2 rfl 2 rfl ?_
    refine J_sipush (x := 1280) dX11_pays_3 (by decide) ?_
    refine J_icmp_ge (tgt := 22) dX11_pays_6 (by decide) (fun c1 => ?_) (fun c1 => ?_)
    · have e : j = 1280 := by have := nz_le (a := 1280) (by omega) (by omega) c1; omega
      refine J_lv [0, 1, 2] rfl ?_
      subst e
      exact hk z hz hv
    · have hj8 : j < 1280 := nz_nle (a := 1280) (by omega) (by omega) c1
      refine J_aload_n dX11_pays_9 rfl 0 rfl ?_
      refine J_getr (ci := 11) (j := 46) (t := 1147) dX11_pays_10 fl_X11_99 (i1100 hI) rfl rfl rfl ?_
      refine J_iload_n dX11_pays_13 rfl 2 rfl ?_
      refine J_iconst (x := (-1)) dX11_pays_14 (by decide) ?_
      refine J_iase (j := j) dX11_pays_15 (i1147 hI) rfl (ix_in (j := j) rfl (by omega) (by omega)) (ix_cl (j := j) rfl (by omega)) ?_
      refine J_iinc (q := 2) (z := nI (j + 1)) (lv' := [(2, .int (nI (j + 1))), (0, .ref 1100), (1, .int x1)]) dX11_pays_16 rfl (nI_1 j) (by decide) rfl ?_
      refine J_goto (tgt := 2) dX11_pays_19 (by decide) ?_
      refine J_lv [1, 2, 0] rfl ?_
      exact ih (j + 1) _ (by omega) (by omega) (by rw [py_a_s, ← hz]; unfold py_a_t; rfl) ((hv.of (py_same_row (Or.inl rfl))))
noncomputable def f_pays (v : fr_V) (nr N NS ar E : Nat) : fr_V := py_k nr N NS ar (up2 (py_b (py_a v 1280) 8) 1100 48 0) (E + 1)
theorem k_X11_pays {l : Launch} {I : List Nat} (hI : fr_I I) (v : fr_V) (u : fr_U) (nr N NS ar E : Nat) (hE : E < 80) (hv : py_ok nr N NS ar v) : Con l mX11_pays I v u [.ref 1100, .int (nI E)] (QN u (fun a => a = f_pays v nr N NS ar E)) := by
  refine Con.of (by decide) (Nat.le_of_ble_eq_true rfl) ?_
  show J l mX11_pays I v u 0 [(0, .ref 1100), (1, .int (nI E))] [] _
  refine J_iconst (x := 0) dX11_pays_0 (by decide) ?_
  refine J_istore_n (lv' := [(2, .int 0), (0, .ref 1100), (1, .int (nI E))]) dX11_pays_1 rfl (by decide) rfl ?_
  refine J_lv [1, 2, 0] rfl ?_
  refine py_a_L hI u v (nI E) (fun za hza hva => ?_) 1281 0 _ (by omega) (by omega) rfl hv
  refine J_iconst (x := 0) dX11_pays_22 (by decide) ?_
  refine J_istore_n (lv' := [(2, .int 0), (0, .ref 1100), (1, .int (nI E))]) dX11_pays_23 rfl (by decide) rfl ?_
  refine J_lv [1, 2, 0] rfl ?_
  refine py_b_L hI u za (nI E) (fun zb hzb hvb => ?_) 9 0 _ (by omega) (by omega) rfl hva
  refine J_aload_n dX11_pays_43 rfl 0 rfl ?_
  refine J_iconst (x := 0) dX11_pays_44 (by decide) ?_
  refine J_puti (ci := 11) (j := 48) dX11_pays_45 fl_X11_266 (i1100 hI) rfl rfl (fun q h => by cases h; rfl) rfl ?_
  refine J_iconst (x := 0) dX11_pays_48 (by decide) ?_
  refine J_istore_n (lv' := [(2, .int 0), (0, .ref 1100), (1, .int (nI E))]) dX11_pays_49 rfl (by decide) rfl ?_
  refine J_lv [1, 2, 0] rfl ?_
  unfold f_pays
  rw [← hza, ← hzb]
  exact py_k_L hI u nr N NS ar E hE _ (E + 2) 0 _ (by omega) (by omega) rfl (hvb.of py_same_48)
end
section
theorem py_same.rf (z : fr_V) : py_same z z := ⟨rfl, rfl, rfl, rfl, rfl, rfl, rfl, rfl⟩
theorem py_same_2 {z : fr_V} {x : Int32} : py_same (up2 z 1100 2 x) z := ⟨rfl, rfl, rfl, rfl, rfl, rfl, rfl, rfl⟩
theorem py_same_h {N NS r k h0 : Nat} {w0 : fr_V} : ∀ s, py_same (py_h N NS r k h0 w0 s) w0 := by
  intro s
  induction s with
  | zero => exact py_same.rf _
  | succ s ih =>
    rw [py_h_s]
    refine py_same.tr ?_ ih
    unfold py_h_t
    repeat' split
    all_goals first | exact py_same.rf _ | exact py_same_sh.tr (py_same_row (Or.inl rfl))
theorem py_same_r {N NS ar k : Nat} {w0 : fr_V} : ∀ r, py_same (py_r N NS ar k w0 r) w0 := by
  intro r
  induction r with
  | zero => exact py_same.rf _
  | succ r ih => rw [py_r_s]; exact (py_same_h _).tr ih
theorem py_same_k {nr N NS ar : Nat} {w0 : fr_V} : ∀ k, py_same (py_k nr N NS ar w0 k) w0 := by
  intro k
  induction k with
  | zero => exact py_same.rf _
  | succ k ih => rw [py_k_s]; exact (py_same_r _).tr (py_same_kn.tr ih)
theorem py_same_b {w0 : fr_V} : ∀ j, py_same (py_b w0 j) w0 := by
  intro j
  induction j with
  | zero => exact py_same.rf _
  | succ j ih => rw [py_b_s]; exact (py_same_row (Or.inr rfl)).tr ih
theorem py_same_a {w0 : fr_V} : ∀ j, py_same (py_a w0 j) w0 := by
  intro j
  induction j with
  | zero => exact py_same.rf _
  | succ j ih => rw [py_a_s]; exact (py_same_row (Or.inl rfl)).tr ih
theorem py_same_p {v : fr_V} {nr N NS ar E : Nat} : py_same (f_pays v nr N NS ar E) v := by
  unfold f_pays
  exact (py_same_k _).tr (py_same_48.tr ((py_same_b _).tr (py_same_a _)))
theorem k2_pays {l : Launch} {I : List Nat} (hI : fr_I I) (v : fr_V) (u : fr_U) (nr N NS ar : Nat) (hv : py_ok nr N NS ar v) (x : Int32) (hx : ∃ E, E ≤ 79 ∧ x = nI E) : Con l mX11_pays I v u [.ref 1100, .int x] (QN u (fun a => a = f_pays v nr N NS ar x.toNatClampNeg)) := by
  obtain ⟨E, hE, rfl⟩ := hx
  rw [nI_clamp (by omega)]
  exact k_X11_pays hI v u nr N NS ar E (by omega) hv
theorem k2_isProved {l : Launch} {I : List Nat} (hI : fr_I I) (v : fr_V) (u : fr_U) (x1 x2 : Int32) (N : Nat) (hN : v 1100 16 = nI N) (hW : nt_ok (v 1118) (v 1119) N) (h : vp_in x1 16) : Con l mX11_isProved I v u [.ref 1100, .int x1, .int x2] (QI v u (fun a => a = f_isProved v N x1.toNatClampNeg x2)) := by
  obtain ⟨r, hr, rfl⟩ := vp_in_of h (by omega)
  rw [nI_clamp (by omega)]
  exact k_X11_isProved hI v u r hr x2 N hN hW
theorem py_fs {v : fr_V} {nr N NS ar : Nat} {x a : Int32} (hv : py_ok nr N NS ar v) (ha : a = nI nr) (h1 : ¬ x < 0) (h2 : ¬ a ≤ x) : (¬ v 1111 x.toNatClampNeg = (-1) → vp_in (v 1111 x.toNatClampNeg) 12) ∧ (¬ v 1112 x.toNatClampNeg = (-1) → vp_in (v 1112 x.toNatClampNeg) 12) := by
  obtain ⟨j, hj, rfl⟩ := nI_of h1
  rw [ha] at h2
  have := hv.2.1
  have h3 : j < nr := nz_nle (by omega) hj h2
  rw [nI_clamp hj]
  exact hv.2.2.2.2.2.2.2.2 j h3
def f_owedOf (v : fr_V) (r : Nat) : Int32 := sp_ow (fun j => v 1147 (80 * r + j)) (fun j => f_X11_isDue v (nI r) (nI j)) (v 1113 r) 80
theorem k2_owedOf {l : Launch} {I : List Nat} (hI : fr_I I) (v : fr_V) (u : fr_U) (x1 : Int32) (h : vp_in x1 16) (h2 : ¬ v 1111 x1.toNatClampNeg = (-1) → vp_in (v 1111 x1.toNatClampNeg) 12) (h3 : ¬ v 1112 x1.toNatClampNeg = (-1) → vp_in (v 1112 x1.toNatClampNeg) 12) : Con l mX11_owedOf I v u [.ref 1100, .int x1] (QI v u (fun a => a = f_owedOf v x1.toNatClampNeg)) := by
  obtain ⟨r, hr, rfl⟩ := vp_in_of h (by omega)
  rw [nI_clamp (by omega)] at h2 h3 ⊢
  exact k_X11_owedOf hI v u r hr h2 h3
theorem half_ne {v : fr_V} {x : Int32} (c : ¬ f_X11_isHalf v x = 0) : ∃ E, E ≤ 79 ∧ x = nI E := by
  unfold f_X11_isHalf at c
  by_cases h1 : x < 0
  · rw [if_pos h1] at c; exact absurd rfl c
  · by_cases h2 : 79 < x
    · rw [if_neg h1, if_pos h2] at c; exact absurd rfl c
    · exact rng_of (m := 79) (by omega) h1 h2
theorem holder_in {v : fr_V} {x : Int32} (c : ¬ f_X11_isHolder v x = 0) : vp_in x 8 := by
  unfold f_X11_isHolder at c
  by_cases h1 : x < 0
  · rw [if_pos h1] at c; exact absurd rfl c
  · by_cases h2 : 8 ≤ x
    · rw [if_neg h1, if_pos h2] at c; exact absurd rfl c
    · exact lim_in (n := 8) rfl (by omega) (by omega) h1 h2
theorem pd_in {x z : Int32} (h : vp_in x 16) (hz : ∃ E, E ≤ 79 ∧ z = nI E) : vp_in (80 * x + z) 1280 := by
  obtain ⟨r, hr, rfl⟩ := vp_in_of h (by omega)
  obtain ⟨e, he, rfl⟩ := hz
  show vp_in (nI 80 * nI r + nI e) 1280
  rw [pk_mul, nI_add]
  exact vp_in_nI (by omega) (by omega)
theorem now_in {v : fr_V} {x a : Int32} {E : Nat} (ha : a = nI E) (hE : E ≤ 79) (c : ¬ f_X11_isIn v x 0 a = 0) : ∃ E, E ≤ 79 ∧ x = nI E := by
  rw [ha] at c
  obtain ⟨e, he, h⟩ := rng_of (m := E) (by omega) (isIn_ne c).1 (isIn_ne c).2
  exact ⟨e, by omega, h⟩
noncomputable def f_X11_paid (v : fr_V) (nr : Nat) (N : Nat) (NS : Nat) (ar : Nat) (x1 x2 x3 : Int32) : Int32 × fr_V := if (f_X11_isRent (up2 v 1100 2 0)  x1) = 0 then ((-1), up2 v 1100 2 0) else if (f_X11_isHalf (up2 v 1100 2 0)  x2) = 0 then ((-1), up2 v 1100 2 0) else if (f_X11_isIn (up2 v 1100 2 0)  x3 0 2) = 0 then ((-1), up2 v 1100 2 0) else if x3 = 0 then ((f_pays (up2 v 1100 2 0) nr N NS ar (v 1100 3).toNatClampNeg) 1147 (((80 * x1) + x2).toNatClampNeg), f_pays (up2 v 1100 2 0) nr N NS ar (v 1100 3).toNatClampNeg) else if x3 = 1 then (if (f_X11_isDue (f_pays (up2 v 1100 2 0) nr N NS ar (v 1100 3).toNatClampNeg) x1 x2) = 0 then (0, f_pays (up2 v 1100 2 0) nr N NS ar (v 1100 3).toNatClampNeg) else (1, f_pays (up2 v 1100 2 0) nr N NS ar (v 1100 3).toNatClampNeg)) else if (f_isProved (f_pays (up2 v 1100 2 0) nr N NS ar (v 1100 3).toNatClampNeg) N x1.toNatClampNeg x2) = 0 then (0, f_pays (up2 v 1100 2 0) nr N NS ar (v 1100 3).toNatClampNeg) else (1, f_pays (up2 v 1100 2 0) nr N NS ar (v 1100 3).toNatClampNeg)
theorem k_X11_paid {l : Launch} {I : List Nat} (hI : fr_I I) (v : fr_V) (u : fr_U) (nr : Nat) (N : Nat) (NS : Nat) (ar : Nat) (x1 x2 x3 : Int32) (hv : py_ok nr N NS ar v) (E : Nat) (hE0 : v 1100 3 = nI E) (hE : E ≤ 79) : Con l mX11_paid I v u [.ref 1100, .int x1, .int x2, .int x3] (QX u (fun a b => a = (f_X11_paid v nr N NS ar x1 x2 x3).1 ∧ b = (f_X11_paid v nr N NS ar x1 x2 x3).2)) := by
  refine Con.of (by decide) (Nat.le_of_ble_eq_true rfl) ?_
  show J l mX11_paid I v u 0 [(0, .ref 1100), (1, .int x1), (2, .int x2), (3, .int x3)] [] _
  refine J_aload_n dX11_paid_0 rfl 0 rfl ?_
  refine J_iconst (x := 0) dX11_paid_1 (by decide) ?_
  refine J_puti (ci := 11) (j := 2) dX11_paid_2 fl_X11_129 (i1100 hI) rfl rfl (fun q h => by cases h; rfl) rfl ?_
  refine J_aload_n dX11_paid_5 rfl 0 rfl ?_
  refine J_iload_n dX11_paid_6 rfl 1 rfl ?_
  refine J_eVI (z := mX11_isRent) (As := [.int x1]) (rest := []) (ci := 11) (x := f_X11_isRent (up2 v 1100 2 0)  x1) dX11_paid_7 ml_X11_242 ok_X11_isRent iv_X11_isRent (by decide) (i1100 hI) rfl rfl rfl rfl (Nat.le_of_ble_eq_true rfl) (k_X11_isRent hI (up2 v 1100 2 0) u _ ) ?_
  refine J_if_eq (tgt := 29) dX11_paid_10 (by decide) (fun c1 => ?_) (fun c1 => ?_)
  · refine J_iconst (x := (-1)) dX11_paid_29 (by decide) ?_
    exact J_iret dX11_paid_30 rfl ⟨_, rfl, rfl, by unfold f_X11_paid; rw [if_pos c1], by unfold f_X11_paid; rw [if_pos c1]⟩
  · refine J_iload_n dX11_paid_13 rfl 2 rfl ?_
    refine J_eSI (z := mX11_isHalf) (As := [.int x2]) (rest := []) (x := f_X11_isHalf (up2 v 1100 2 0)  x2) dX11_paid_14 ml_X11_249 ok_X11_isHalf iv_X11_isHalf (by decide) rfl rfl (Nat.le_of_ble_eq_true rfl) (k_X11_isHalf hI (up2 v 1100 2 0) u _ ) ?_
    refine J_if_eq (tgt := 29) dX11_paid_17 (by decide) (fun c2 => ?_) (fun c2 => ?_)
    · refine J_iconst (x := (-1)) dX11_paid_29 (by decide) ?_
      exact J_iret dX11_paid_30 rfl ⟨_, rfl, rfl, by unfold f_X11_paid; rw [if_neg c1, if_pos c2], by unfold f_X11_paid; rw [if_neg c1, if_pos c2]⟩
    · refine J_iload_n dX11_paid_20 rfl 3 rfl ?_
      refine J_iconst (x := 0) dX11_paid_21 (by decide) ?_
      refine J_iconst (x := 2) dX11_paid_22 (by decide) ?_
      refine J_eSI (z := mX11_isIn) (As := [.int x3, .int 0, .int 2]) (rest := []) (x := f_X11_isIn (up2 v 1100 2 0)  x3 0 2) dX11_paid_23 ml_X11_204 ok_X11_isIn iv_X11_isIn (by decide) rfl rfl (Nat.le_of_ble_eq_true rfl) (k_X11_isIn hI (up2 v 1100 2 0) u _ _ _ ) ?_
      refine J_if_ne (tgt := 31) dX11_paid_26 (by decide) (fun c3 => ?_) (fun c3 => ?_)
      · refine J_aload_n dX11_paid_31 rfl 0 rfl ?_
        refine J_aload_n dX11_paid_32 rfl 0 rfl ?_
        refine J_gete (ci := 11) (j := 3) (x := v 1100 3) dX11_paid_33 fl_X11_208 (i1100 hI) rfl rfl rfl ?_
        refine J_eVN (z := mX11_pays) (As := [.int (v 1100 3)]) (rest := []) (ci := 11) (w := f_pays (up2 v 1100 2 0) nr N NS ar (v 1100 3).toNatClampNeg) dX11_paid_36 ml_X11_279 ok_X11_pays iv_X11_pays (by decide) (i1100 hI) rfl rfl rfl rfl (Nat.le_of_ble_eq_true rfl) (k2_pays hI (up2 v 1100 2 0) u nr N NS ar (hv.of py_same_2) _ ⟨E, by omega, hE0⟩) ?_
        refine J_iload_n dX11_paid_39 rfl 3 rfl ?_
        refine J_if_ne (tgt := 57) dX11_paid_40 (by decide) (fun c4 => ?_) (fun c4 => ?_)
        · refine J_iload_n dX11_paid_57 rfl 3 rfl ?_
          refine J_iconst (x := 1) dX11_paid_58 (by decide) ?_
          refine J_icmp_ne (tgt := 74) dX11_paid_59 (by decide) (fun c5 => ?_) (fun c5 => ?_)
          · refine J_aload_n dX11_paid_74 rfl 0 rfl ?_
            refine J_iload_n dX11_paid_75 rfl 1 rfl ?_
            refine J_iload_n dX11_paid_76 rfl 2 rfl ?_
            refine J_eVI (z := mX11_isProved) (As := [.int x1, .int x2]) (rest := []) (ci := 11) (x := f_isProved (f_pays (up2 v 1100 2 0) nr N NS ar (v 1100 3).toNatClampNeg) N x1.toNatClampNeg x2) dX11_paid_77 ml_X11_272 ok_X11_isProved iv_X11_isProved (by decide) (i1100 hI) rfl rfl rfl rfl (Nat.le_of_ble_eq_true rfl) (k2_isProved hI (f_pays (up2 v 1100 2 0) nr N NS ar (v 1100 3).toNatClampNeg) u _ _ N (hv.of (py_same_p.tr py_same_2)).2.2.1 (hv.of (py_same_p.tr py_same_2)).2.2.2.1 (rt_in (v := up2 v 1100 2 0) hv.1 hv.2.1 (by assumption))) ?_
            refine J_if_eq (tgt := 87) dX11_paid_80 (by decide) (fun c6 => ?_) (fun c6 => ?_)
            · refine J_iconst (x := 0) dX11_paid_87 (by decide) ?_
              exact J_iret dX11_paid_88 rfl ⟨_, rfl, rfl, by unfold f_X11_paid; rw [if_neg c1, if_neg c2, if_neg c3, if_neg c4, if_neg c5, if_pos c6], by unfold f_X11_paid; rw [if_neg c1, if_neg c2, if_neg c3, if_neg c4, if_neg c5, if_pos c6]⟩
            · refine J_iconst (x := 1) dX11_paid_83 (by decide) ?_
              refine J_goto (tgt := 88) dX11_paid_84 (by decide) ?_
              exact J_iret dX11_paid_88 rfl ⟨_, rfl, rfl, by unfold f_X11_paid; rw [if_neg c1, if_neg c2, if_neg c3, if_neg c4, if_neg c5, if_neg c6], by unfold f_X11_paid; rw [if_neg c1, if_neg c2, if_neg c3, if_neg c4, if_neg c5, if_neg c6]⟩
          · refine J_aload_n dX11_paid_62 rfl 0 rfl ?_
            refine J_iload_n dX11_paid_63 rfl 1 rfl ?_
            refine J_iload_n dX11_paid_64 rfl 2 rfl ?_
            refine J_eVI (z := mX11_isDue) (As := [.int x1, .int x2]) (rest := []) (ci := 11) (x := f_X11_isDue (f_pays (up2 v 1100 2 0) nr N NS ar (v 1100 3).toNatClampNeg) x1 x2) dX11_paid_65 ml_X11_269 ok_X11_isDue iv_X11_isDue (by decide) (i1100 hI) rfl rfl rfl rfl (Nat.le_of_ble_eq_true rfl) (k_X11_isDue hI (f_pays (up2 v 1100 2 0) nr N NS ar (v 1100 3).toNatClampNeg) u _ _ (rt_in (v := up2 v 1100 2 0) hv.1 hv.2.1 (by assumption)) (py_fs (hv.of (py_same_p.tr py_same_2)) hv.1 (lim_ne (v := up2 v 1100 2 0) (k := 7) (by assumption)).1 (lim_ne (v := up2 v 1100 2 0) (k := 7) (by assumption)).2).1 (py_fs (hv.of (py_same_p.tr py_same_2)) hv.1 (lim_ne (v := up2 v 1100 2 0) (k := 7) (by assumption)).1 (lim_ne (v := up2 v 1100 2 0) (k := 7) (by assumption)).2).2) ?_
            refine J_if_eq (tgt := 87) dX11_paid_68 (by decide) (fun c7 => ?_) (fun c7 => ?_)
            · refine J_iconst (x := 0) dX11_paid_87 (by decide) ?_
              exact J_iret dX11_paid_88 rfl ⟨_, rfl, rfl, by unfold f_X11_paid; rw [if_neg c1, if_neg c2, if_neg c3, if_neg c4, if_pos c5, if_pos c7], by unfold f_X11_paid; rw [if_neg c1, if_neg c2, if_neg c3, if_neg c4, if_pos c5, if_pos c7]⟩
            · refine J_goto (tgt := 83) dX11_paid_71 (by decide) ?_
              refine J_iconst (x := 1) dX11_paid_83 (by decide) ?_
              refine J_goto (tgt := 88) dX11_paid_84 (by decide) ?_
              exact J_iret dX11_paid_88 rfl ⟨_, rfl, rfl, by unfold f_X11_paid; rw [if_neg c1, if_neg c2, if_neg c3, if_neg c4, if_pos c5, if_neg c7], by unfold f_X11_paid; rw [if_neg c1, if_neg c2, if_neg c3, if_neg c4, if_pos c5, if_neg c7]⟩
        · refine J_aload_n dX11_paid_43 rfl 0 rfl ?_
          refine J_getr (ci := 11) (j := 46) (t := 1147) dX11_paid_44 fl_X11_99 (i1100 hI) rfl rfl rfl ?_
          refine J_bipush (x := 80) dX11_paid_47 (by decide) ?_
          refine J_iload_n dX11_paid_49 rfl 1 rfl ?_
          refine J_imul dX11_paid_50 ?_
          refine J_iload_n dX11_paid_51 rfl 2 rfl ?_
          refine J_iadd dX11_paid_52 ?_
          refine J_iale (x := (f_pays (up2 v 1100 2 0) nr N NS ar (v 1100 3).toNatClampNeg) 1147 (((80 * x1) + x2).toNatClampNeg)) dX11_paid_53 (i1147 hI) rfl (pd_in (rt_in (v := up2 v 1100 2 0) hv.1 hv.2.1 c1) (half_ne c2)) rfl ?_
          refine J_goto (tgt := 88) dX11_paid_54 (by decide) ?_
          exact J_iret dX11_paid_88 rfl ⟨_, rfl, rfl, by unfold f_X11_paid; rw [if_neg c1, if_neg c2, if_neg c3, if_pos c4], by unfold f_X11_paid; rw [if_neg c1, if_neg c2, if_neg c3, if_pos c4]⟩
      · refine J_iconst (x := (-1)) dX11_paid_29 (by decide) ?_
        exact J_iret dX11_paid_30 rfl ⟨_, rfl, rfl, by unfold f_X11_paid; rw [if_neg c1, if_neg c2, if_pos c3], by unfold f_X11_paid; rw [if_neg c1, if_neg c2, if_pos c3]⟩
noncomputable def f_X11_got (v : fr_V) (nr : Nat) (N : Nat) (NS : Nat) (ar : Nat) (x1 x2 : Int32) : Int32 × fr_V := if (f_X11_isHolder (up2 v 1100 2 0)  x1) = 0 then ((-1), up2 v 1100 2 0) else if (f_X11_isIn (up2 v 1100 2 0)  x2 0 (v 1100 3)) = 0 then ((-1), up2 v 1100 2 0) else ((f_pays (up2 v 1100 2 0) nr N NS ar x2.toNatClampNeg) 1148 x1.toNatClampNeg, f_pays (up2 v 1100 2 0) nr N NS ar x2.toNatClampNeg)
theorem k_X11_got {l : Launch} {I : List Nat} (hI : fr_I I) (v : fr_V) (u : fr_U) (nr : Nat) (N : Nat) (NS : Nat) (ar : Nat) (x1 x2 : Int32) (hv : py_ok nr N NS ar v) (E : Nat) (hE0 : v 1100 3 = nI E) (hE : E ≤ 79) : Con l mX11_got I v u [.ref 1100, .int x1, .int x2] (QX u (fun a b => a = (f_X11_got v nr N NS ar x1 x2).1 ∧ b = (f_X11_got v nr N NS ar x1 x2).2)) := by
  refine Con.of (by decide) (Nat.le_of_ble_eq_true rfl) ?_
  show J l mX11_got I v u 0 [(0, .ref 1100), (1, .int x1), (2, .int x2)] [] _
  refine J_aload_n dX11_got_0 rfl 0 rfl ?_
  refine J_iconst (x := 0) dX11_got_1 (by decide) ?_
  refine J_puti (ci := 11) (j := 2) dX11_got_2 fl_X11_129 (i1100 hI) rfl rfl (fun q h => by cases h; rfl) rfl ?_
  refine J_iload_n dX11_got_5 rfl 1 rfl ?_
  refine J_eSI (z := mX11_isHolder) (As := [.int x1]) (rest := []) (x := f_X11_isHolder (up2 v 1100 2 0)  x1) dX11_got_6 ml_X11_236 ok_X11_isHolder iv_X11_isHolder (by decide) rfl rfl (Nat.le_of_ble_eq_true rfl) (k_X11_isHolder hI (up2 v 1100 2 0) u _ ) ?_
  refine J_if_eq (tgt := 24) dX11_got_9 (by decide) (fun c1 => ?_) (fun c1 => ?_)
  · refine J_iconst (x := (-1)) dX11_got_24 (by decide) ?_
    exact J_iret dX11_got_25 rfl ⟨_, rfl, rfl, by unfold f_X11_got; rw [if_pos c1], by unfold f_X11_got; rw [if_pos c1]⟩
  · refine J_iload_n dX11_got_12 rfl 2 rfl ?_
    refine J_iconst (x := 0) dX11_got_13 (by decide) ?_
    refine J_aload_n dX11_got_14 rfl 0 rfl ?_
    refine J_gete (ci := 11) (j := 3) (x := v 1100 3) dX11_got_15 fl_X11_208 (i1100 hI) rfl rfl rfl ?_
    refine J_eSI (z := mX11_isIn) (As := [.int x2, .int 0, .int (v 1100 3)]) (rest := []) (x := f_X11_isIn (up2 v 1100 2 0)  x2 0 (v 1100 3)) dX11_got_18 ml_X11_204 ok_X11_isIn iv_X11_isIn (by decide) rfl rfl (Nat.le_of_ble_eq_true rfl) (k_X11_isIn hI (up2 v 1100 2 0) u _ _ _ ) ?_
    refine J_if_ne (tgt := 26) dX11_got_21 (by decide) (fun c2 => ?_) (fun c2 => ?_)
    · refine J_aload_n dX11_got_26 rfl 0 rfl ?_
      refine J_iload_n dX11_got_27 rfl 2 rfl ?_
      refine J_eVN (z := mX11_pays) (As := [.int x2]) (rest := []) (ci := 11) (w := f_pays (up2 v 1100 2 0) nr N NS ar x2.toNatClampNeg) dX11_got_28 ml_X11_279 ok_X11_pays iv_X11_pays (by decide) (i1100 hI) rfl rfl rfl rfl (Nat.le_of_ble_eq_true rfl) (k2_pays hI (up2 v 1100 2 0) u nr N NS ar (hv.of py_same_2) _ (now_in hE0 hE (by assumption))) ?_
      refine J_aload_n dX11_got_31 rfl 0 rfl ?_
      refine J_getr (ci := 11) (j := 47) (t := 1148) dX11_got_32 fl_X11_102 (i1100 hI) rfl rfl rfl ?_
      refine J_iload_n dX11_got_35 rfl 1 rfl ?_
      refine J_iale (x := (f_pays (up2 v 1100 2 0) nr N NS ar x2.toNatClampNeg) 1148 x1.toNatClampNeg) dX11_got_36 (i1148 hI) rfl (holder_in c1) rfl ?_
      exact J_iret dX11_got_37 rfl ⟨_, rfl, rfl, by unfold f_X11_got; rw [if_neg c1, if_neg c2], by unfold f_X11_got; rw [if_neg c1, if_neg c2]⟩
    · refine J_iconst (x := (-1)) dX11_got_24 (by decide) ?_
      exact J_iret dX11_got_25 rfl ⟨_, rfl, rfl, by unfold f_X11_got; rw [if_neg c1, if_pos c2], by unfold f_X11_got; rw [if_neg c1, if_pos c2]⟩
noncomputable def f_X11_owed (v : fr_V) (nr : Nat) (N : Nat) (NS : Nat) (ar : Nat) (x1 x2 : Int32) : Int32 × fr_V := if (f_X11_isRent (up2 v 1100 2 0)  x1) = 0 then ((-1), up2 v 1100 2 0) else if (f_X11_isIn (up2 v 1100 2 0)  x2 0 (v 1100 3)) = 0 then ((-1), up2 v 1100 2 0) else (f_owedOf (f_pays (up2 v 1100 2 0) nr N NS ar x2.toNatClampNeg) x1.toNatClampNeg, f_pays (up2 v 1100 2 0) nr N NS ar x2.toNatClampNeg)
theorem k_X11_owed {l : Launch} {I : List Nat} (hI : fr_I I) (v : fr_V) (u : fr_U) (nr : Nat) (N : Nat) (NS : Nat) (ar : Nat) (x1 x2 : Int32) (hv : py_ok nr N NS ar v) (E : Nat) (hE0 : v 1100 3 = nI E) (hE : E ≤ 79) : Con l mX11_owed I v u [.ref 1100, .int x1, .int x2] (QX u (fun a b => a = (f_X11_owed v nr N NS ar x1 x2).1 ∧ b = (f_X11_owed v nr N NS ar x1 x2).2)) := by
  refine Con.of (by decide) (Nat.le_of_ble_eq_true rfl) ?_
  show J l mX11_owed I v u 0 [(0, .ref 1100), (1, .int x1), (2, .int x2)] [] _
  refine J_aload_n dX11_owed_0 rfl 0 rfl ?_
  refine J_iconst (x := 0) dX11_owed_1 (by decide) ?_
  refine J_puti (ci := 11) (j := 2) dX11_owed_2 fl_X11_129 (i1100 hI) rfl rfl (fun q h => by cases h; rfl) rfl ?_
  refine J_aload_n dX11_owed_5 rfl 0 rfl ?_
  refine J_iload_n dX11_owed_6 rfl 1 rfl ?_
  refine J_eVI (z := mX11_isRent) (As := [.int x1]) (rest := []) (ci := 11) (x := f_X11_isRent (up2 v 1100 2 0)  x1) dX11_owed_7 ml_X11_242 ok_X11_isRent iv_X11_isRent (by decide) (i1100 hI) rfl rfl rfl rfl (Nat.le_of_ble_eq_true rfl) (k_X11_isRent hI (up2 v 1100 2 0) u _ ) ?_
  refine J_if_eq (tgt := 25) dX11_owed_10 (by decide) (fun c1 => ?_) (fun c1 => ?_)
  · refine J_iconst (x := (-1)) dX11_owed_25 (by decide) ?_
    exact J_iret dX11_owed_26 rfl ⟨_, rfl, rfl, by unfold f_X11_owed; rw [if_pos c1], by unfold f_X11_owed; rw [if_pos c1]⟩
  · refine J_iload_n dX11_owed_13 rfl 2 rfl ?_
    refine J_iconst (x := 0) dX11_owed_14 (by decide) ?_
    refine J_aload_n dX11_owed_15 rfl 0 rfl ?_
    refine J_gete (ci := 11) (j := 3) (x := v 1100 3) dX11_owed_16 fl_X11_208 (i1100 hI) rfl rfl rfl ?_
    refine J_eSI (z := mX11_isIn) (As := [.int x2, .int 0, .int (v 1100 3)]) (rest := []) (x := f_X11_isIn (up2 v 1100 2 0)  x2 0 (v 1100 3)) dX11_owed_19 ml_X11_204 ok_X11_isIn iv_X11_isIn (by decide) rfl rfl (Nat.le_of_ble_eq_true rfl) (k_X11_isIn hI (up2 v 1100 2 0) u _ _ _ ) ?_
    refine J_if_ne (tgt := 27) dX11_owed_22 (by decide) (fun c2 => ?_) (fun c2 => ?_)
    · refine J_aload_n dX11_owed_27 rfl 0 rfl ?_
      refine J_iload_n dX11_owed_28 rfl 2 rfl ?_
      refine J_eVN (z := mX11_pays) (As := [.int x2]) (rest := []) (ci := 11) (w := f_pays (up2 v 1100 2 0) nr N NS ar x2.toNatClampNeg) dX11_owed_29 ml_X11_279 ok_X11_pays iv_X11_pays (by decide) (i1100 hI) rfl rfl rfl rfl (Nat.le_of_ble_eq_true rfl) (k2_pays hI (up2 v 1100 2 0) u nr N NS ar (hv.of py_same_2) _ (now_in hE0 hE (by assumption))) ?_
      refine J_aload_n dX11_owed_32 rfl 0 rfl ?_
      refine J_iload_n dX11_owed_33 rfl 1 rfl ?_
      refine J_eVI (z := mX11_owedOf) (As := [.int x1]) (rest := []) (ci := 11) (x := f_owedOf (f_pays (up2 v 1100 2 0) nr N NS ar x2.toNatClampNeg) x1.toNatClampNeg) dX11_owed_34 ml_X11_282 ok_X11_owedOf iv_X11_owedOf (by decide) (i1100 hI) rfl rfl rfl rfl (Nat.le_of_ble_eq_true rfl) (k2_owedOf hI (f_pays (up2 v 1100 2 0) nr N NS ar x2.toNatClampNeg) u _ (rt_in (v := up2 v 1100 2 0) hv.1 hv.2.1 (by assumption)) (py_fs (hv.of (py_same_p.tr py_same_2)) hv.1 (lim_ne (v := up2 v 1100 2 0) (k := 7) (by assumption)).1 (lim_ne (v := up2 v 1100 2 0) (k := 7) (by assumption)).2).1 (py_fs (hv.of (py_same_p.tr py_same_2)) hv.1 (lim_ne (v := up2 v 1100 2 0) (k := 7) (by assumption)).1 (lim_ne (v := up2 v 1100 2 0) (k := 7) (by assumption)).2).2) ?_
      exact J_iret dX11_owed_37 rfl ⟨_, rfl, rfl, by unfold f_X11_owed; rw [if_neg c1, if_neg c2], by unfold f_X11_owed; rw [if_neg c1, if_neg c2]⟩
    · refine J_iconst (x := (-1)) dX11_owed_25 (by decide) ?_
      exact J_iret dX11_owed_26 rfl ⟨_, rfl, rfl, by unfold f_X11_owed; rw [if_neg c1, if_pos c2], by unfold f_X11_owed; rw [if_neg c1, if_pos c2]⟩
def st_sum (v : fr_V) (x1 x2 : Int32) (n0 : Int32) : Nat → Int32
  | 0 => n0
  | r + 1 => st_sum v x1 x2 n0 r + (if x2 = 2 then f_owedOf v r else if x1 < v 1109 r then 0 else v 1114 r)
theorem st_sum_s (v : fr_V) (x1 x2 n0 : Int32) (r : Nat) : st_sum v x1 x2 n0 (r + 1) = st_sum v x1 x2 n0 r + (if x2 = 2 then f_owedOf v r else if x1 < v 1109 r then 0 else v 1114 r) := rfl
theorem st_L {l : Launch} {I : List Nat} (hI : fr_I I) (v : fr_V) (u : fr_U) (nr N NS ar : Nat) (hv : py_ok nr N NS ar v) (x1 x2 n0 : Int32) (h1 : ¬ x2 = 1) (hnr : nr ≤ 16) : ∀ (d r : Nat) (a : Int32) (hd : nr - r < d) (hr : r ≤ nr) (ha : a = st_sum v x1 x2 n0 r), J l mX11_state I v u 50 [(0, .ref 1100), (1, .int x1), (2, .int x2), (3, .int a), (4, .int (nI r))] [] (QI v u (fun z => z = st_sum v x1 x2 n0 nr)) := by
  intro d
  induction d with
  | zero => intros; omega
  | succ d ih =>
    intro r a hd hr ha
    refine J_iload dX11_state_50 4 rfl ?_
    refine J_aload_n dX11_state_52 rfl 0 rfl ?_
    refine J_gete (ci := 11) (j := 7) (x := nI nr) dX11_state_53 fl_X11_233 (i1100 hI) rfl rfl hv.1 ?_
    refine J_icmp_ge (tgt := 109) dX11_state_56 (by decide) (fun c1 => ?_) (fun c1 => ?_)
    · refine J_iload_n dX11_state_109 rfl 3 rfl ?_
      exact J_iret dX11_state_110 rfl ⟨_, rfl, rfl, rfl, by have e : r = nr := by {have := nz_le (by omega) (by omega) c1; omega}; rw [ha, e]⟩
    · have hrn : r < nr := nz_nle (by omega) (by omega) c1
      refine J_iload_n dX11_state_59 rfl 2 rfl ?_
      refine J_iconst (x := 1) dX11_state_60 (by decide) ?_
      refine J_icmp_eq (tgt := 109) dX11_state_61 (by decide) (fun c2 => ?_) (fun c2 => ?_)
      · refine J_iload_n dX11_state_109 rfl 3 rfl ?_
        exact J_iret dX11_state_110 rfl ⟨_, rfl, rfl, rfl, absurd c2 h1⟩
      · refine J_iload_n dX11_state_64 rfl 3 rfl ?_
        refine J_iload_n dX11_state_65 rfl 2 rfl ?_
        refine J_iconst (x := 2) dX11_state_66 (by decide) ?_
        refine J_icmp_ne (tgt := 79) dX11_state_67 (by decide) (fun c3 => ?_) (fun c3 => ?_)
        · refine J_aload_n dX11_state_79 rfl 0 rfl ?_
          refine J_getr (ci := 11) (j := 8) (t := 1109) dX11_state_80 fl_X11_19 (i1100 hI) rfl rfl rfl ?_
          refine J_iload dX11_state_83 4 rfl ?_
          refine J_iale (x := v 1109 r) dX11_state_85 (i1109 hI) rfl (ix_in (j := r) rfl (by omega) (by omega)) ((congrArg _ (ix_cl (j := r) rfl (by omega))).trans rfl) ?_
          refine J_iload_n dX11_state_86 rfl 1 rfl ?_
          refine J_icmp_gt (tgt := 100) dX11_state_87 (by decide) (fun c4 => ?_) (fun c4 => ?_)
          · refine J_iconst (x := 0) dX11_state_100 (by decide) ?_
            refine J_iadd dX11_state_101 ?_
            refine J_istore_n (lv' := [(3, .int (a + 0)), (0, .ref 1100), (1, .int x1), (2, .int x2), (4, .int (nI r))]) dX11_state_102 rfl (by decide) rfl ?_
            refine J_iinc (q := 4) (z := nI (r + 1)) (lv' := [(4, .int (nI (r + 1))), (3, .int (a + 0)), (0, .ref 1100), (1, .int x1), (2, .int x2)]) dX11_state_103 rfl (nI_1 r) (by decide) rfl ?_
            refine J_goto (tgt := 50) dX11_state_106 (by decide) ?_
            refine J_lv [2, 3, 4, 1, 0] rfl ?_
            exact ih (r + 1) _ (by omega) (by omega) (by rw [st_sum_s, if_neg c3, if_pos c4, ha])
          · refine J_aload_n dX11_state_90 rfl 0 rfl ?_
            refine J_getr (ci := 11) (j := 13) (t := 1114) dX11_state_91 fl_X11_34 (i1100 hI) rfl rfl rfl ?_
            refine J_iload dX11_state_94 4 rfl ?_
            refine J_iale (x := v 1114 r) dX11_state_96 (i1114 hI) rfl (ix_in (j := r) rfl (by omega) (by omega)) ((congrArg _ (ix_cl (j := r) rfl (by omega))).trans rfl) ?_
            refine J_goto (tgt := 101) dX11_state_97 (by decide) ?_
            refine J_iadd dX11_state_101 ?_
            refine J_istore_n (lv' := [(3, .int (a + (v 1114 r))), (0, .ref 1100), (1, .int x1), (2, .int x2), (4, .int (nI r))]) dX11_state_102 rfl (by decide) rfl ?_
            refine J_iinc (q := 4) (z := nI (r + 1)) (lv' := [(4, .int (nI (r + 1))), (3, .int (a + (v 1114 r))), (0, .ref 1100), (1, .int x1), (2, .int x2)]) dX11_state_103 rfl (nI_1 r) (by decide) rfl ?_
            refine J_goto (tgt := 50) dX11_state_106 (by decide) ?_
            refine J_lv [2, 3, 4, 1, 0] rfl ?_
            exact ih (r + 1) _ (by omega) (by omega) (by rw [st_sum_s, if_neg c3, if_neg c4, ha])
        · refine J_aload_n dX11_state_70 rfl 0 rfl ?_
          refine J_iload dX11_state_71 4 rfl ?_
          refine J_eVI (z := mX11_owedOf) (As := [.int (nI r)]) (rest := [.int a]) (ci := 11) (x := f_owedOf v r) dX11_state_73 ml_X11_282 ok_X11_owedOf iv_X11_owedOf (by decide) (i1100 hI) rfl rfl rfl rfl (Nat.le_of_ble_eq_true rfl) (k_X11_owedOf hI v u r (by omega) (hv.2.2.2.2.2.2.2.2 r hrn).1 (hv.2.2.2.2.2.2.2.2 r hrn).2) ?_
          refine J_goto (tgt := 101) dX11_state_76 (by decide) ?_
          refine J_iadd dX11_state_101 ?_
          refine J_istore_n (lv' := [(3, .int (a + (f_owedOf v r))), (0, .ref 1100), (1, .int x1), (2, .int x2), (4, .int (nI r))]) dX11_state_102 rfl (by decide) rfl ?_
          refine J_iinc (q := 4) (z := nI (r + 1)) (lv' := [(4, .int (nI (r + 1))), (3, .int (a + (f_owedOf v r))), (0, .ref 1100), (1, .int x1), (2, .int x2)]) dX11_state_103 rfl (nI_1 r) (by decide) rfl ?_
          refine J_goto (tgt := 50) dX11_state_106 (by decide) ?_
          refine J_lv [2, 3, 4, 1, 0] rfl ?_
          exact ih (r + 1) _ (by omega) (by omega) (by rw [st_sum_s, if_pos c3, ha])
end
section
theorem zz_end : True := trivial
end
