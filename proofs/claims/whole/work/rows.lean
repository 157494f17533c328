section
def lw_okq (q : MethodName × Nat) : Prop := (q.1.cls ≠ "java/lang/invoke/MethodHandle" ∧ q.1.cls ≠ "java/lang/invoke/VarHandle") ∧ Cond.instantiable q.1.cls q.2 ∈ tables_1 ∧ Cond.privateMethod q.1 ∈ tables_1 ∧ Cond.instanceMethod q.1 ∈ tables_1
theorem lw_p0 : lw_okq (⟨"LifeRents$Reader", "skipBlanks", "()V"⟩, 16) := ⟨⟨by decide +kernel, by decide +kernel⟩, List.mem_of_getElem? (i := 34) (by decide +kernel), List.mem_of_getElem? (i := 403) (by decide +kernel), List.mem_of_getElem? (i := 404) (by decide +kernel)⟩
theorem lw_p1 : lw_okq (⟨"LifeRents$Reader", "takeToken", "()V"⟩, 16) := ⟨⟨by decide +kernel, by decide +kernel⟩, List.mem_of_getElem? (i := 34) (by decide +kernel), List.mem_of_getElem? (i := 407) (by decide +kernel), List.mem_of_getElem? (i := 408) (by decide +kernel)⟩
theorem lw_p2 : lw_okq (⟨"LifeRents$Reader", "takeWord", "()V"⟩, 16) := ⟨⟨by decide +kernel, by decide +kernel⟩, List.mem_of_getElem? (i := 34) (by decide +kernel), List.mem_of_getElem? (i := 414) (by decide +kernel), List.mem_of_getElem? (i := 415) (by decide +kernel)⟩
theorem lw_p3 : lw_okq (⟨"LifeRents$Reader", "spells", "(Ljava/lang/String;)Z"⟩, 16) := ⟨⟨by decide +kernel, by decide +kernel⟩, List.mem_of_getElem? (i := 34) (by decide +kernel), List.mem_of_getElem? (i := 420) (by decide +kernel), List.mem_of_getElem? (i := 421) (by decide +kernel)⟩
theorem lw_p4 : lw_okq (⟨"LifeRents$Reader", "takeNumber", "()V"⟩, 16) := ⟨⟨by decide +kernel, by decide +kernel⟩, List.mem_of_getElem? (i := 34) (by decide +kernel), List.mem_of_getElem? (i := 475) (by decide +kernel), List.mem_of_getElem? (i := 476) (by decide +kernel)⟩
theorem lw_p5 : lw_okq (⟨"LifeRents$Reader", "put", "()I"⟩, 16) := ⟨⟨by decide +kernel, by decide +kernel⟩, List.mem_of_getElem? (i := 34) (by decide +kernel), List.mem_of_getElem? (i := 480) (by decide +kernel), List.mem_of_getElem? (i := 481) (by decide +kernel)⟩
theorem lw_p6 : lw_okq (⟨"LifeRents$Reader", "putLineWord", "()I"⟩, 16) := ⟨⟨by decide +kernel, by decide +kernel⟩, List.mem_of_getElem? (i := 34) (by decide +kernel), List.mem_of_getElem? (i := 484) (by decide +kernel), List.mem_of_getElem? (i := 485) (by decide +kernel)⟩
theorem lw_p7 : lw_okq (⟨"LifeRents$Reader", "putAmount", "()I"⟩, 16) := ⟨⟨by decide +kernel, by decide +kernel⟩, List.mem_of_getElem? (i := 34) (by decide +kernel), List.mem_of_getElem? (i := 492) (by decide +kernel), List.mem_of_getElem? (i := 493) (by decide +kernel)⟩
theorem lw_p8 : lw_okq (⟨"LifeRents$Reader", "numberFault", "()I"⟩, 16) := ⟨⟨by decide +kernel, by decide +kernel⟩, List.mem_of_getElem? (i := 34) (by decide +kernel), List.mem_of_getElem? (i := 496) (by decide +kernel), List.mem_of_getElem? (i := 497) (by decide +kernel)⟩
theorem lw_p9 : lw_okq (⟨"LifeRents$Reader", "putWhom", "()I"⟩, 16) := ⟨⟨by decide +kernel, by decide +kernel⟩, List.mem_of_getElem? (i := 34) (by decide +kernel), List.mem_of_getElem? (i := 500) (by decide +kernel), List.mem_of_getElem? (i := 501) (by decide +kernel)⟩
theorem lw_p10 : lw_okq (⟨"LifeRents$Reader", "putLineEnd", "()I"⟩, 16) := ⟨⟨by decide +kernel, by decide +kernel⟩, List.mem_of_getElem? (i := 34) (by decide +kernel), List.mem_of_getElem? (i := 504) (by decide +kernel), List.mem_of_getElem? (i := 505) (by decide +kernel)⟩
theorem lw_p11 : lw_okq (⟨"LifeRents$Reader", "putFrom", "()I"⟩, 16) := ⟨⟨by decide +kernel, by decide +kernel⟩, List.mem_of_getElem? (i := 34) (by decide +kernel), List.mem_of_getElem? (i := 523) (by decide +kernel), List.mem_of_getElem? (i := 524) (by decide +kernel)⟩
theorem lw_p12 : lw_okq (⟨"LifeRents$Reader", "putUpTo", "()I"⟩, 16) := ⟨⟨by decide +kernel, by decide +kernel⟩, List.mem_of_getElem? (i := 34) (by decide +kernel), List.mem_of_getElem? (i := 529) (by decide +kernel), List.mem_of_getElem? (i := 530) (by decide +kernel)⟩
theorem lw_p13 : lw_okq (⟨"LifeRents$Reader", "putClass", "()I"⟩, 16) := ⟨⟨by decide +kernel, by decide +kernel⟩, List.mem_of_getElem? (i := 34) (by decide +kernel), List.mem_of_getElem? (i := 533) (by decide +kernel), List.mem_of_getElem? (i := 534) (by decide +kernel)⟩
theorem lw_p14 : lw_okq (⟨"LifeRents", "mayBeNamed", "(II)Z"⟩, 10) := ⟨⟨by decide +kernel, by decide +kernel⟩, List.mem_of_getElem? (i := 26) (by decide +kernel), List.mem_of_getElem? (i := 570) (by decide +kernel), List.mem_of_getElem? (i := 571) (by decide +kernel)⟩
theorem lw_p15 : lw_okq (⟨"LifeRents", "ruling", "(LLifeRents$Word;LLifeRents$Word;II)LLifeRents$Line;"⟩, 10) := ⟨⟨by decide +kernel, by decide +kernel⟩, List.mem_of_getElem? (i := 26) (by decide +kernel), List.mem_of_getElem? (i := 577) (by decide +kernel), List.mem_of_getElem? (i := 578) (by decide +kernel)⟩
def lw_privs_1 : List (MethodName × Nat) := [(⟨"LifeRents$Reader", "skipBlanks", "()V"⟩, 16), (⟨"LifeRents$Reader", "takeToken", "()V"⟩, 16), (⟨"LifeRents$Reader", "takeWord", "()V"⟩, 16), (⟨"LifeRents$Reader", "spells", "(Ljava/lang/String;)Z"⟩, 16), (⟨"LifeRents$Reader", "takeNumber", "()V"⟩, 16), (⟨"LifeRents$Reader", "put", "()I"⟩, 16), (⟨"LifeRents$Reader", "putLineWord", "()I"⟩, 16), (⟨"LifeRents$Reader", "putAmount", "()I"⟩, 16), (⟨"LifeRents$Reader", "numberFault", "()I"⟩, 16), (⟨"LifeRents$Reader", "putWhom", "()I"⟩, 16), (⟨"LifeRents$Reader", "putLineEnd", "()I"⟩, 16), (⟨"LifeRents$Reader", "putFrom", "()I"⟩, 16), (⟨"LifeRents$Reader", "putUpTo", "()I"⟩, 16), (⟨"LifeRents$Reader", "putClass", "()I"⟩, 16), (⟨"LifeRents", "mayBeNamed", "(II)Z"⟩, 10), (⟨"LifeRents", "ruling", "(LLifeRents$Word;LLifeRents$Word;II)LLifeRents$Line;"⟩, 10)]
theorem lw_r1 : ∀ q ∈ lw_privs_1, lw_okq q := List.forall_mem_cons.mpr ⟨lw_p0, List.forall_mem_cons.mpr ⟨lw_p1, List.forall_mem_cons.mpr ⟨lw_p2, List.forall_mem_cons.mpr ⟨lw_p3, List.forall_mem_cons.mpr ⟨lw_p4, List.forall_mem_cons.mpr ⟨lw_p5, List.forall_mem_cons.mpr ⟨lw_p6, List.forall_mem_cons.mpr ⟨lw_p7, List.forall_mem_cons.mpr ⟨lw_p8, List.forall_mem_cons.mpr ⟨lw_p9, List.forall_mem_cons.mpr ⟨lw_p10, List.forall_mem_cons.mpr ⟨lw_p11, List.forall_mem_cons.mpr ⟨lw_p12, List.forall_mem_cons.mpr ⟨lw_p13, List.forall_mem_cons.mpr ⟨lw_p14, List.forall_mem_cons.mpr ⟨lw_p15, fun _ h => absurd h List.not_mem_nil⟩⟩⟩⟩⟩⟩⟩⟩⟩⟩⟩⟩⟩⟩⟩⟩
theorem lw_p16 : lw_okq (⟨"LifeRents", "priceOn", "(II)I"⟩, 10) := ⟨⟨by decide +kernel, by decide +kernel⟩, List.mem_of_getElem? (i := 26) (by decide +kernel), List.mem_of_getElem? (i := 598) (by decide +kernel), List.mem_of_getElem? (i := 599) (by decide +kernel)⟩
theorem lw_p17 : lw_okq (⟨"LifeRents", "lumpOn", "(II)I"⟩, 10) := ⟨⟨by decide +kernel, by decide +kernel⟩, List.mem_of_getElem? (i := 26) (by decide +kernel), List.mem_of_getElem? (i := 604) (by decide +kernel), List.mem_of_getElem? (i := 605) (by decide +kernel)⟩
theorem lw_p18 : lw_okq (⟨"LifeRents$Ledger", "spreadParts", "(II)V"⟩, 11) := ⟨⟨by decide +kernel, by decide +kernel⟩, List.mem_of_getElem? (i := 229) (by decide +kernel), List.mem_of_getElem? (i := 679) (by decide +kernel), List.mem_of_getElem? (i := 680) (by decide +kernel)⟩
theorem lw_p19 : lw_okq (⟨"LifeRents$Book", "knowDeaths", "()V"⟩, 10) := ⟨⟨by decide +kernel, by decide +kernel⟩, List.mem_of_getElem? (i := 186) (by decide +kernel), List.mem_of_getElem? (i := 719) (by decide +kernel), List.mem_of_getElem? (i := 720) (by decide +kernel)⟩
theorem lw_p20 : lw_okq (⟨"LifeRents$Book", "livedIn", "(II)Z"⟩, 10) := ⟨⟨by decide +kernel, by decide +kernel⟩, List.mem_of_getElem? (i := 186) (by decide +kernel), List.mem_of_getElem? (i := 723) (by decide +kernel), List.mem_of_getElem? (i := 724) (by decide +kernel)⟩
theorem lw_p21 : lw_okq (⟨"LifeRents$Ledger", "pay", "(IIII)V"⟩, 11) := ⟨⟨by decide +kernel, by decide +kernel⟩, List.mem_of_getElem? (i := 229) (by decide +kernel), List.mem_of_getElem? (i := 756) (by decide +kernel), List.mem_of_getElem? (i := 757) (by decide +kernel)⟩
theorem lw_p22 : lw_okq (⟨"LifeRents", "hasBegun", "(I)Z"⟩, 10) := ⟨⟨by decide +kernel, by decide +kernel⟩, List.mem_of_getElem? (i := 26) (by decide +kernel), List.mem_of_getElem? (i := 784) (by decide +kernel), List.mem_of_getElem? (i := 785) (by decide +kernel)⟩
theorem lw_p23 : lw_okq (⟨"LifeRents$Ledger", "shareOf", "(III)I"⟩, 11) := ⟨⟨by decide +kernel, by decide +kernel⟩, List.mem_of_getElem? (i := 229) (by decide +kernel), List.mem_of_getElem? (i := 796) (by decide +kernel), List.mem_of_getElem? (i := 797) (by decide +kernel)⟩
theorem lw_p24 : lw_okq (⟨"LifeRents$Tables", "countYearsOf", "(III)V"⟩, 7) := ⟨⟨by decide +kernel, by decide +kernel⟩, List.mem_of_getElem? (i := 273) (by decide +kernel), List.mem_of_getElem? (i := 840) (by decide +kernel), List.mem_of_getElem? (i := 841) (by decide +kernel)⟩
theorem lw_p25 : lw_okq (⟨"LifeRents", "hasYearsLeft", "(I)Z"⟩, 10) := ⟨⟨by decide +kernel, by decide +kernel⟩, List.mem_of_getElem? (i := 26) (by decide +kernel), List.mem_of_getElem? (i := 855) (by decide +kernel), List.mem_of_getElem? (i := 856) (by decide +kernel)⟩
theorem lw_p26 : lw_okq (⟨"LifeRents", "worthNow", "(III)I"⟩, 10) := ⟨⟨by decide +kernel, by decide +kernel⟩, List.mem_of_getElem? (i := 26) (by decide +kernel), List.mem_of_getElem? (i := 859) (by decide +kernel), List.mem_of_getElem? (i := 860) (by decide +kernel)⟩
theorem lw_p27 : lw_okq (⟨"LifeRents$Tables", "fillRow", "([IIII)V"⟩, 7) := ⟨⟨by decide +kernel, by decide +kernel⟩, List.mem_of_getElem? (i := 273) (by decide +kernel), List.mem_of_getElem? (i := 868) (by decide +kernel), List.mem_of_getElem? (i := 869) (by decide +kernel)⟩
theorem lw_p28 : lw_okq (⟨"LifeRents$Tables", "worthTillFirst", "(III)I"⟩, 7) := ⟨⟨by decide +kernel, by decide +kernel⟩, List.mem_of_getElem? (i := 273) (by decide +kernel), List.mem_of_getElem? (i := 884) (by decide +kernel), List.mem_of_getElem? (i := 885) (by decide +kernel)⟩
theorem lw_p29 : lw_okq (⟨"LifeRents$Buyer", "countRows", "(I)I"⟩, 11) := ⟨⟨by decide +kernel, by decide +kernel⟩, List.mem_of_getElem? (i := 307) (by decide +kernel), List.mem_of_getElem? (i := 910) (by decide +kernel), List.mem_of_getElem? (i := 911) (by decide +kernel)⟩
theorem lw_p30 : lw_okq (⟨"LifeRents$Buyer", "turn", "(I)V"⟩, 11) := ⟨⟨by decide +kernel, by decide +kernel⟩, List.mem_of_getElem? (i := 307) (by decide +kernel), List.mem_of_getElem? (i := 916) (by decide +kernel), List.mem_of_getElem? (i := 917) (by decide +kernel)⟩
theorem lw_p31 : lw_okq (⟨"LifeRents$Buyer", "keep", "()V"⟩, 11) := ⟨⟨by decide +kernel, by decide +kernel⟩, List.mem_of_getElem? (i := 307) (by decide +kernel), List.mem_of_getElem? (i := 920) (by decide +kernel), List.mem_of_getElem? (i := 921) (by decide +kernel)⟩
def lw_privs_2 : List (MethodName × Nat) := [(⟨"LifeRents", "priceOn", "(II)I"⟩, 10), (⟨"LifeRents", "lumpOn", "(II)I"⟩, 10), (⟨"LifeRents$Ledger", "spreadParts", "(II)V"⟩, 11), (⟨"LifeRents$Book", "knowDeaths", "()V"⟩, 10), (⟨"LifeRents$Book", "livedIn", "(II)Z"⟩, 10), (⟨"LifeRents$Ledger", "pay", "(IIII)V"⟩, 11), (⟨"LifeRents", "hasBegun", "(I)Z"⟩, 10), (⟨"LifeRents$Ledger", "shareOf", "(III)I"⟩, 11), (⟨"LifeRents$Tables", "countYearsOf", "(III)V"⟩, 7), (⟨"LifeRents", "hasYearsLeft", "(I)Z"⟩, 10), (⟨"LifeRents", "worthNow", "(III)I"⟩, 10), (⟨"LifeRents$Tables", "fillRow", "([IIII)V"⟩, 7), (⟨"LifeRents$Tables", "worthTillFirst", "(III)I"⟩, 7), (⟨"LifeRents$Buyer", "countRows", "(I)I"⟩, 11), (⟨"LifeRents$Buyer", "turn", "(I)V"⟩, 11), (⟨"LifeRents$Buyer", "keep", "()V"⟩, 11)]
theorem lw_r2 : ∀ q ∈ lw_privs_2, lw_okq q := List.forall_mem_cons.mpr ⟨lw_p16, List.forall_mem_cons.mpr ⟨lw_p17, List.forall_mem_cons.mpr ⟨lw_p18, List.forall_mem_cons.mpr ⟨lw_p19, List.forall_mem_cons.mpr ⟨lw_p20, List.forall_mem_cons.mpr ⟨lw_p21, List.forall_mem_cons.mpr ⟨lw_p22, List.forall_mem_cons.mpr ⟨lw_p23, List.forall_mem_cons.mpr ⟨lw_p24, List.forall_mem_cons.mpr ⟨lw_p25, List.forall_mem_cons.mpr ⟨lw_p26, List.forall_mem_cons.mpr ⟨lw_p27, List.forall_mem_cons.mpr ⟨lw_p28, List.forall_mem_cons.mpr ⟨lw_p29, List.forall_mem_cons.mpr ⟨lw_p30, List.forall_mem_cons.mpr ⟨lw_p31, fun _ h => absurd h List.not_mem_nil⟩⟩⟩⟩⟩⟩⟩⟩⟩⟩⟩⟩⟩⟩⟩⟩
theorem lw_p32 : lw_okq (⟨"LifeRents", "riskOn", "(I)J"⟩, 10) := ⟨⟨by decide +kernel, by decide +kernel⟩, List.mem_of_getElem? (i := 26) (by decide +kernel), List.mem_of_getElem? (i := 933) (by decide +kernel), List.mem_of_getElem? (i := 934) (by decide +kernel)⟩
theorem lw_p33 : lw_okq (⟨"LifeRents", "riskierThan", "(I)I"⟩, 10) := ⟨⟨by decide +kernel, by decide +kernel⟩, List.mem_of_getElem? (i := 26) (by decide +kernel), List.mem_of_getElem? (i := 954) (by decide +kernel), List.mem_of_getElem? (i := 955) (by decide +kernel)⟩
theorem lw_p34 : lw_okq (⟨"java/lang/Throwable", "fillInStackTrace", "(I)Ljava/lang/Throwable;"⟩, 6) := ⟨⟨by decide +kernel, by decide +kernel⟩, List.mem_of_getElem? (i := 1014) (by decide +kernel), List.mem_of_getElem? (i := 1012) (by decide +kernel), List.mem_of_getElem? (i := 1013) (by decide +kernel)⟩
theorem lw_p35 : lw_okq (⟨"LifeRentsModel", "plain", "()V"⟩, 58) := ⟨⟨by decide +kernel, by decide +kernel⟩, List.mem_of_getElem? (i := 1060) (by decide +kernel), List.mem_of_getElem? (i := 1066) (by decide +kernel), List.mem_of_getElem? (i := 1067) (by decide +kernel)⟩
theorem lw_p36 : lw_okq (⟨"LifeRentsModel", "keep", "()V"⟩, 58) := ⟨⟨by decide +kernel, by decide +kernel⟩, List.mem_of_getElem? (i := 1060) (by decide +kernel), List.mem_of_getElem? (i := 1070) (by decide +kernel), List.mem_of_getElem? (i := 1071) (by decide +kernel)⟩
theorem lw_p37 : lw_okq (⟨"LifeRentsModel", "take", "()V"⟩, 58) := ⟨⟨by decide +kernel, by decide +kernel⟩, List.mem_of_getElem? (i := 1060) (by decide +kernel), List.mem_of_getElem? (i := 1261) (by decide +kernel), List.mem_of_getElem? (i := 1262) (by decide +kernel)⟩
theorem lw_p38 : lw_okq (⟨"LifeRentsModel", "isSmall", "(I)Z"⟩, 58) := ⟨⟨by decide +kernel, by decide +kernel⟩, List.mem_of_getElem? (i := 1060) (by decide +kernel), List.mem_of_getElem? (i := 1265) (by decide +kernel), List.mem_of_getElem? (i := 1266) (by decide +kernel)⟩
theorem lw_p39 : lw_okq (⟨"LifeRentsModel", "wordAt", "(II)I"⟩, 58) := ⟨⟨by decide +kernel, by decide +kernel⟩, List.mem_of_getElem? (i := 1060) (by decide +kernel), List.mem_of_getElem? (i := 1269) (by decide +kernel), List.mem_of_getElem? (i := 1270) (by decide +kernel)⟩
theorem lw_p40 : lw_okq (⟨"LifeRentsModel", "isDigit", "(I)Z"⟩, 58) := ⟨⟨by decide +kernel, by decide +kernel⟩, List.mem_of_getElem? (i := 1060) (by decide +kernel), List.mem_of_getElem? (i := 1273) (by decide +kernel), List.mem_of_getElem? (i := 1274) (by decide +kernel)⟩
theorem lw_p41 : lw_okq (⟨"LifeRentsModel", "wrong", "(I)Z"⟩, 58) := ⟨⟨by decide +kernel, by decide +kernel⟩, List.mem_of_getElem? (i := 1060) (by decide +kernel), List.mem_of_getElem? (i := 1277) (by decide +kernel), List.mem_of_getElem? (i := 1278) (by decide +kernel)⟩
theorem lw_p42 : lw_okq (⟨"LifeRentsModel", "ofWhom", "(I)Z"⟩, 58) := ⟨⟨by decide +kernel, by decide +kernel⟩, List.mem_of_getElem? (i := 1060) (by decide +kernel), List.mem_of_getElem? (i := 1281) (by decide +kernel), List.mem_of_getElem? (i := 1282) (by decide +kernel)⟩
theorem lw_p43 : lw_okq (⟨"LifeRentsModel", "isNumber", "(II)Z"⟩, 58) := ⟨⟨by decide +kernel, by decide +kernel⟩, List.mem_of_getElem? (i := 1060) (by decide +kernel), List.mem_of_getElem? (i := 1285) (by decide +kernel), List.mem_of_getElem? (i := 1286) (by decide +kernel)⟩
theorem lw_p44 : lw_okq (⟨"LifeRentsModel", "whom", "(I)Z"⟩, 58) := ⟨⟨by decide +kernel, by decide +kernel⟩, List.mem_of_getElem? (i := 1060) (by decide +kernel), List.mem_of_getElem? (i := 1289) (by decide +kernel), List.mem_of_getElem? (i := 1290) (by decide +kernel)⟩
theorem lw_p45 : lw_okq (⟨"LifeRentsModel", "span", "(I)Z"⟩, 58) := ⟨⟨by decide +kernel, by decide +kernel⟩, List.mem_of_getElem? (i := 1060) (by decide +kernel), List.mem_of_getElem? (i := 1293) (by decide +kernel), List.mem_of_getElem? (i := 1294) (by decide +kernel)⟩
theorem lw_p46 : lw_okq (⟨"LifeRentsModel", "isWord", "(I)Z"⟩, 58) := ⟨⟨by decide +kernel, by decide +kernel⟩, List.mem_of_getElem? (i := 1060) (by decide +kernel), List.mem_of_getElem? (i := 1297) (by decide +kernel), List.mem_of_getElem? (i := 1298) (by decide +kernel)⟩
theorem lw_p47 : lw_okq (⟨"LifeRentsModel", "classRow", "(I)Z"⟩, 58) := ⟨⟨by decide +kernel, by decide +kernel⟩, List.mem_of_getElem? (i := 1060) (by decide +kernel), List.mem_of_getElem? (i := 1301) (by decide +kernel), List.mem_of_getElem? (i := 1302) (by decide +kernel)⟩
def lw_privs_3 : List (MethodName × Nat) := [(⟨"LifeRents", "riskOn", "(I)J"⟩, 10), (⟨"LifeRents", "riskierThan", "(I)I"⟩, 10), (⟨"java/lang/Throwable", "fillInStackTrace", "(I)Ljava/lang/Throwable;"⟩, 6), (⟨"LifeRentsModel", "plain", "()V"⟩, 58), (⟨"LifeRentsModel", "keep", "()V"⟩, 58), (⟨"LifeRentsModel", "take", "()V"⟩, 58), (⟨"LifeRentsModel", "isSmall", "(I)Z"⟩, 58), (⟨"LifeRentsModel", "wordAt", "(II)I"⟩, 58), (⟨"LifeRentsModel", "isDigit", "(I)Z"⟩, 58), (⟨"LifeRentsModel", "wrong", "(I)Z"⟩, 58), (⟨"LifeRentsModel", "ofWhom", "(I)Z"⟩, 58), (⟨"LifeRentsModel", "isNumber", "(II)Z"⟩, 58), (⟨"LifeRentsModel", "whom", "(I)Z"⟩, 58), (⟨"LifeRentsModel", "span", "(I)Z"⟩, 58), (⟨"LifeRentsModel", "isWord", "(I)Z"⟩, 58), (⟨"LifeRentsModel", "classRow", "(I)Z"⟩, 58)]
theorem lw_r3 : ∀ q ∈ lw_privs_3, lw_okq q := List.forall_mem_cons.mpr ⟨lw_p32, List.forall_mem_cons.mpr ⟨lw_p33, List.forall_mem_cons.mpr ⟨lw_p34, List.forall_mem_cons.mpr ⟨lw_p35, List.forall_mem_cons.mpr ⟨lw_p36, List.forall_mem_cons.mpr ⟨lw_p37, List.forall_mem_cons.mpr ⟨lw_p38, List.forall_mem_cons.mpr ⟨lw_p39, List.forall_mem_cons.mpr ⟨lw_p40, List.forall_mem_cons.mpr ⟨lw_p41, List.forall_mem_cons.mpr ⟨lw_p42, List.forall_mem_cons.mpr ⟨lw_p43, List.forall_mem_cons.mpr ⟨lw_p44, List.forall_mem_cons.mpr ⟨lw_p45, List.forall_mem_cons.mpr ⟨lw_p46, List.forall_mem_cons.mpr ⟨lw_p47, fun _ h => absurd h List.not_mem_nil⟩⟩⟩⟩⟩⟩⟩⟩⟩⟩⟩⟩⟩⟩⟩⟩
theorem lw_p48 : lw_okq (⟨"LifeRentsModel", "ofNumber", "(I)Z"⟩, 58) := ⟨⟨by decide +kernel, by decide +kernel⟩, List.mem_of_getElem? (i := 1060) (by decide +kernel), List.mem_of_getElem? (i := 1305) (by decide +kernel), List.mem_of_getElem? (i := 1306) (by decide +kernel)⟩
theorem lw_p49 : lw_okq (⟨"LifeRentsModel", "isLife", "(I)Z"⟩, 58) := ⟨⟨by decide +kernel, by decide +kernel⟩, List.mem_of_getElem? (i := 1060) (by decide +kernel), List.mem_of_getElem? (i := 1328) (by decide +kernel), List.mem_of_getElem? (i := 1329) (by decide +kernel)⟩
theorem lw_p50 : lw_okq (⟨"LifeRentsModel", "mayBe", "(II)Z"⟩, 58) := ⟨⟨by decide +kernel, by decide +kernel⟩, List.mem_of_getElem? (i := 1060) (by decide +kernel), List.mem_of_getElem? (i := 1332) (by decide +kernel), List.mem_of_getElem? (i := 1333) (by decide +kernel)⟩
theorem lw_p51 : lw_okq (⟨"LifeRentsModel", "actOf", "(IIIII)I"⟩, 58) := ⟨⟨by decide +kernel, by decide +kernel⟩, List.mem_of_getElem? (i := 1060) (by decide +kernel), List.mem_of_getElem? (i := 1336) (by decide +kernel), List.mem_of_getElem? (i := 1337) (by decide +kernel)⟩
theorem lw_p52 : lw_okq (⟨"LifeRentsModel", "ageIn", "(II)I"⟩, 58) := ⟨⟨by decide +kernel, by decide +kernel⟩, List.mem_of_getElem? (i := 1060) (by decide +kernel), List.mem_of_getElem? (i := 1340) (by decide +kernel), List.mem_of_getElem? (i := 1341) (by decide +kernel)⟩
theorem lw_p53 : lw_okq (⟨"LifeRentsModel", "priceOf", "(II)I"⟩, 58) := ⟨⟨by decide +kernel, by decide +kernel⟩, List.mem_of_getElem? (i := 1060) (by decide +kernel), List.mem_of_getElem? (i := 1344) (by decide +kernel), List.mem_of_getElem? (i := 1345) (by decide +kernel)⟩
theorem lw_p54 : lw_okq (⟨"LifeRentsModel", "lumpOf", "(II)I"⟩, 58) := ⟨⟨by decide +kernel, by decide +kernel⟩, List.mem_of_getElem? (i := 1060) (by decide +kernel), List.mem_of_getElem? (i := 1348) (by decide +kernel), List.mem_of_getElem? (i := 1349) (by decide +kernel)⟩
theorem lw_p55 : lw_okq (⟨"LifeRentsModel", "isRent", "(I)Z"⟩, 58) := ⟨⟨by decide +kernel, by decide +kernel⟩, List.mem_of_getElem? (i := 1060) (by decide +kernel), List.mem_of_getElem? (i := 1363) (by decide +kernel), List.mem_of_getElem? (i := 1364) (by decide +kernel)⟩
theorem lw_p56 : lw_okq (⟨"LifeRentsModel", "partsOf", "(III)I"⟩, 58) := ⟨⟨by decide +kernel, by decide +kernel⟩, List.mem_of_getElem? (i := 1060) (by decide +kernel), List.mem_of_getElem? (i := 1367) (by decide +kernel), List.mem_of_getElem? (i := 1368) (by decide +kernel)⟩
theorem lw_p57 : lw_okq (⟨"LifeRentsModel", "told", "(III)I"⟩, 58) := ⟨⟨by decide +kernel, by decide +kernel⟩, List.mem_of_getElem? (i := 1060) (by decide +kernel), List.mem_of_getElem? (i := 1382) (by decide +kernel), List.mem_of_getElem? (i := 1383) (by decide +kernel)⟩
theorem lw_p58 : lw_okq (⟨"LifeRentsModel", "know", "(I)V"⟩, 58) := ⟨⟨by decide +kernel, by decide +kernel⟩, List.mem_of_getElem? (i := 1060) (by decide +kernel), List.mem_of_getElem? (i := 1394) (by decide +kernel), List.mem_of_getElem? (i := 1395) (by decide +kernel)⟩
theorem lw_p59 : lw_okq (⟨"LifeRentsModel", "isFalse", "(I)Z"⟩, 58) := ⟨⟨by decide +kernel, by decide +kernel⟩, List.mem_of_getElem? (i := 1060) (by decide +kernel), List.mem_of_getElem? (i := 1402) (by decide +kernel), List.mem_of_getElem? (i := 1403) (by decide +kernel)⟩
theorem lw_p60 : lw_okq (⟨"LifeRentsModel", "pays", "(I)V"⟩, 58) := ⟨⟨by decide +kernel, by decide +kernel⟩, List.mem_of_getElem? (i := 1060) (by decide +kernel), List.mem_of_getElem? (i := 1410) (by decide +kernel), List.mem_of_getElem? (i := 1411) (by decide +kernel)⟩
theorem lw_p61 : lw_okq (⟨"LifeRentsModel", "isDue", "(II)Z"⟩, 58) := ⟨⟨by decide +kernel, by decide +kernel⟩, List.mem_of_getElem? (i := 1060) (by decide +kernel), List.mem_of_getElem? (i := 1414) (by decide +kernel), List.mem_of_getElem? (i := 1415) (by decide +kernel)⟩
theorem lw_p62 : lw_okq (⟨"LifeRentsModel", "lives", "(II)Z"⟩, 58) := ⟨⟨by decide +kernel, by decide +kernel⟩, List.mem_of_getElem? (i := 1060) (by decide +kernel), List.mem_of_getElem? (i := 1418) (by decide +kernel), List.mem_of_getElem? (i := 1419) (by decide +kernel)⟩
theorem lw_p63 : lw_okq (⟨"LifeRentsModel", "isProved", "(II)Z"⟩, 58) := ⟨⟨by decide +kernel, by decide +kernel⟩, List.mem_of_getElem? (i := 1060) (by decide +kernel), List.mem_of_getElem? (i := 1422) (by decide +kernel), List.mem_of_getElem? (i := 1423) (by decide +kernel)⟩
def lw_privs_4 : List (MethodName × Nat) := [(⟨"LifeRentsModel", "ofNumber", "(I)Z"⟩, 58), (⟨"LifeRentsModel", "isLife", "(I)Z"⟩, 58), (⟨"LifeRentsModel", "mayBe", "(II)Z"⟩, 58), (⟨"LifeRentsModel", "actOf", "(IIIII)I"⟩, 58), (⟨"LifeRentsModel", "ageIn", "(II)I"⟩, 58), (⟨"LifeRentsModel", "priceOf", "(II)I"⟩, 58), (⟨"LifeRentsModel", "lumpOf", "(II)I"⟩, 58), (⟨"LifeRentsModel", "isRent", "(I)Z"⟩, 58), (⟨"LifeRentsModel", "partsOf", "(III)I"⟩, 58), (⟨"LifeRentsModel", "told", "(III)I"⟩, 58), (⟨"LifeRentsModel", "know", "(I)V"⟩, 58), (⟨"LifeRentsModel", "isFalse", "(I)Z"⟩, 58), (⟨"LifeRentsModel", "pays", "(I)V"⟩, 58), (⟨"LifeRentsModel", "isDue", "(II)Z"⟩, 58), (⟨"LifeRentsModel", "lives", "(II)Z"⟩, 58), (⟨"LifeRentsModel", "isProved", "(II)Z"⟩, 58)]
theorem lw_r4 : ∀ q ∈ lw_privs_4, lw_okq q := List.forall_mem_cons.mpr ⟨lw_p48, List.forall_mem_cons.mpr ⟨lw_p49, List.forall_mem_cons.mpr ⟨lw_p50, List.forall_mem_cons.mpr ⟨lw_p51, List.forall_mem_cons.mpr ⟨lw_p52, List.forall_mem_cons.mpr ⟨lw_p53, List.forall_mem_cons.mpr ⟨lw_p54, List.forall_mem_cons.mpr ⟨lw_p55, List.forall_mem_cons.mpr ⟨lw_p56, List.forall_mem_cons.mpr ⟨lw_p57, List.forall_mem_cons.mpr ⟨lw_p58, List.forall_mem_cons.mpr ⟨lw_p59, List.forall_mem_cons.mpr ⟨lw_p60, List.forall_mem_cons.mpr ⟨lw_p61, List.forall_mem_cons.mpr ⟨lw_p62, List.forall_mem_cons.mpr ⟨lw_p63, fun _ h => absurd h List.not_mem_nil⟩⟩⟩⟩⟩⟩⟩⟩⟩⟩⟩⟩⟩⟩⟩⟩
theorem lw_p64 : lw_okq (⟨"LifeRentsModel", "shares", "(II)V"⟩, 58) := ⟨⟨by decide +kernel, by decide +kernel⟩, List.mem_of_getElem? (i := 1060) (by decide +kernel), List.mem_of_getElem? (i := 1426) (by decide +kernel), List.mem_of_getElem? (i := 1427) (by decide +kernel)⟩
theorem lw_p65 : lw_okq (⟨"LifeRentsModel", "owedOf", "(I)I"⟩, 58) := ⟨⟨by decide +kernel, by decide +kernel⟩, List.mem_of_getElem? (i := 1060) (by decide +kernel), List.mem_of_getElem? (i := 1438) (by decide +kernel), List.mem_of_getElem? (i := 1439) (by decide +kernel)⟩
theorem lw_p66 : lw_okq (⟨"LifeRentsModel", "years", "(III)V"⟩, 58) := ⟨⟨by decide +kernel, by decide +kernel⟩, List.mem_of_getElem? (i := 1060) (by decide +kernel), List.mem_of_getElem? (i := 1454) (by decide +kernel), List.mem_of_getElem? (i := 1455) (by decide +kernel)⟩
theorem lw_p67 : lw_okq (⟨"LifeRentsModel", "lived", "(III)I"⟩, 58) := ⟨⟨by decide +kernel, by decide +kernel⟩, List.mem_of_getElem? (i := 1060) (by decide +kernel), List.mem_of_getElem? (i := 1458) (by decide +kernel), List.mem_of_getElem? (i := 1459) (by decide +kernel)⟩
theorem lw_p68 : lw_okq (⟨"LifeRentsModel", "lay", "(I)V"⟩, 58) := ⟨⟨by decide +kernel, by decide +kernel⟩, List.mem_of_getElem? (i := 1060) (by decide +kernel), List.mem_of_getElem? (i := 1466) (by decide +kernel), List.mem_of_getElem? (i := 1467) (by decide +kernel)⟩
theorem lw_p69 : lw_okq (⟨"LifeRentsModel", "worthOn", "(II)I"⟩, 58) := ⟨⟨by decide +kernel, by decide +kernel⟩, List.mem_of_getElem? (i := 1060) (by decide +kernel), List.mem_of_getElem? (i := 1470) (by decide +kernel), List.mem_of_getElem? (i := 1471) (by decide +kernel)⟩
theorem lw_p70 : lw_okq (⟨"LifeRentsModel", "worthOf", "(I)I"⟩, 58) := ⟨⟨by decide +kernel, by decide +kernel⟩, List.mem_of_getElem? (i := 1060) (by decide +kernel), List.mem_of_getElem? (i := 1474) (by decide +kernel), List.mem_of_getElem? (i := 1475) (by decide +kernel)⟩
theorem lw_p71 : lw_okq (⟨"LifeRentsModel", "liveOf", "(II)I"⟩, 58) := ⟨⟨by decide +kernel, by decide +kernel⟩, List.mem_of_getElem? (i := 1060) (by decide +kernel), List.mem_of_getElem? (i := 1478) (by decide +kernel), List.mem_of_getElem? (i := 1479) (by decide +kernel)⟩
theorem lw_p72 : lw_okq (⟨"LifeRentsModel", "yearBack", "(II)I"⟩, 58) := ⟨⟨by decide +kernel, by decide +kernel⟩, List.mem_of_getElem? (i := 1060) (by decide +kernel), List.mem_of_getElem? (i := 1485) (by decide +kernel), List.mem_of_getElem? (i := 1486) (by decide +kernel)⟩
theorem lw_p73 : lw_okq (⟨"LifeRentsModel", "bothOf", "(II)I"⟩, 58) := ⟨⟨by decide +kernel, by decide +kernel⟩, List.mem_of_getElem? (i := 1060) (by decide +kernel), List.mem_of_getElem? (i := 1489) (by decide +kernel), List.mem_of_getElem? (i := 1490) (by decide +kernel)⟩
theorem lw_p74 : lw_okq (⟨"LifeRentsModel", "riskOf", "(I)J"⟩, 58) := ⟨⟨by decide +kernel, by decide +kernel⟩, List.mem_of_getElem? (i := 1060) (by decide +kernel), List.mem_of_getElem? (i := 1507) (by decide +kernel), List.mem_of_getElem? (i := 1508) (by decide +kernel)⟩
theorem lw_p75 : lw_okq (⟨"LifeRentsModel", "fails", "(I)J"⟩, 58) := ⟨⟨by decide +kernel, by decide +kernel⟩, List.mem_of_getElem? (i := 1060) (by decide +kernel), List.mem_of_getElem? (i := 1515) (by decide +kernel), List.mem_of_getElem? (i := 1516) (by decide +kernel)⟩
theorem lw_p76 : lw_okq (⟨"LifeRentsModel", "living", "(I)I"⟩, 58) := ⟨⟨by decide +kernel, by decide +kernel⟩, List.mem_of_getElem? (i := 1060) (by decide +kernel), List.mem_of_getElem? (i := 1523) (by decide +kernel), List.mem_of_getElem? (i := 1524) (by decide +kernel)⟩
def lw_privs_5 : List (MethodName × Nat) := [(⟨"LifeRentsModel", "shares", "(II)V"⟩, 58), (⟨"LifeRentsModel", "owedOf", "(I)I"⟩, 58), (⟨"LifeRentsModel", "years", "(III)V"⟩, 58), (⟨"LifeRentsModel", "lived", "(III)I"⟩, 58), (⟨"LifeRentsModel", "lay", "(I)V"⟩, 58), (⟨"LifeRentsModel", "worthOn", "(II)I"⟩, 58), (⟨"LifeRentsModel", "worthOf", "(I)I"⟩, 58), (⟨"LifeRentsModel", "liveOf", "(II)I"⟩, 58), (⟨"LifeRentsModel", "yearBack", "(II)I"⟩, 58), (⟨"LifeRentsModel", "bothOf", "(II)I"⟩, 58), (⟨"LifeRentsModel", "riskOf", "(I)J"⟩, 58), (⟨"LifeRentsModel", "fails", "(I)J"⟩, 58), (⟨"LifeRentsModel", "living", "(I)I"⟩, 58)]
theorem lw_r5 : ∀ q ∈ lw_privs_5, lw_okq q := List.forall_mem_cons.mpr ⟨lw_p64, List.forall_mem_cons.mpr ⟨lw_p65, List.forall_mem_cons.mpr ⟨lw_p66, List.forall_mem_cons.mpr ⟨lw_p67, List.forall_mem_cons.mpr ⟨lw_p68, List.forall_mem_cons.mpr ⟨lw_p69, List.forall_mem_cons.mpr ⟨lw_p70, List.forall_mem_cons.mpr ⟨lw_p71, List.forall_mem_cons.mpr ⟨lw_p72, List.forall_mem_cons.mpr ⟨lw_p73, List.forall_mem_cons.mpr ⟨lw_p74, List.forall_mem_cons.mpr ⟨lw_p75, List.forall_mem_cons.mpr ⟨lw_p76, fun _ h => absurd h List.not_mem_nil⟩⟩⟩⟩⟩⟩⟩⟩⟩⟩⟩⟩⟩
def lw_privs : List (MethodName × Nat) := lw_privs_1 ++ (lw_privs_2 ++ (lw_privs_3 ++ (lw_privs_4 ++ (lw_privs_5))))
def lw_tbl : List Cond := k2_sels lw_privs ++ tables_1
theorem lw_privs_ok : ∀ q ∈ lw_privs, lw_okq q := by
  show ∀ q ∈ lw_privs_1 ++ (lw_privs_2 ++ (lw_privs_3 ++ (lw_privs_4 ++ (lw_privs_5)))), lw_okq q
  exact List.forall_mem_append.mpr ⟨lw_r1, List.forall_mem_append.mpr ⟨lw_r2, List.forall_mem_append.mpr ⟨lw_r3, List.forall_mem_append.mpr ⟨lw_r4, lw_r5⟩⟩⟩⟩
theorem goodIn_r {big : List Cond} (ws : List Cond) (ps : List Nat) (hp : ws = ps.filterMap (fun i => big[i]?)) (h : ws.all goodWord = true) : GoodIn big ws := by
  intro w hw
  have h1 := List.all_eq_true.mp h w hw
  rw [hp] at hw
  obtain ⟨i, -, hi⟩ := List.mem_filterMap.mp hw
  have hm : w ∈ big := by first | exact List.mem_of_getElem? hi | exact List.getElem?_mem hi
  exact ⟨hm, good_of_word h1⟩
theorem goodIn_app {big a b : List Cond} (ha : GoodIn big a) (hb : GoodIn big b) : GoodIn big (a ++ b) := fun w h => (List.mem_append.mp h).elim (ha w) (hb w)
theorem goodIn_ca {big a b : List Cond} {c : Cond} (ha : GoodIn big (c :: a)) (hb : GoodIn big b) : GoodIn big (c :: (a ++ b)) := fun w h => (List.mem_cons.mp h).elim (fun e => ha w (List.mem_cons.mpr (Or.inl e))) (fun h => (List.mem_append.mp h).elim (fun h => ha w (List.mem_cons.mpr (Or.inr h))) (hb w))
theorem goodIn_sub {big ws : List Cond} (hm : ∀ w ∈ ws, w ∈ big) (h : ws.all goodWord = true) : GoodIn big ws := fun w hw => ⟨hm w hw, good_of_word (List.all_eq_true.mp h w hw)⟩
def RX0 : String := "LifeRents$Acts"
def TX0 : u_T := fun k => match k with
  | 0 => ("LifeRents$Acts", "rules", "[LLifeRents$Line;", true)
  | 1 => ("LifeRents$Acts", "size", "I", false)
  | _ => ("LifeRents$Acts", "settings", "[I", true)
def tyX0 : Nat → FieldType := fun k => match k with
  | 0 => .array (.object "LifeRents$Line")
  | 1 => .int
  | _ => .array .int
abbrev wsX00 : List Cond := u_ws RX0 TX0 3
theorem nmX0 : ∀ a, a < 3 → ∀ b, b < 3 → a ≠ b → (TX0 a).2.1 ≠ (TX0 b).2.1 := by decide +kernel
theorem tyX0_ok : ∀ k, k < 3 → parseFieldDescriptor (TX0 k).2.2.1 = some (tyX0 k) := by decide +kernel
abbrev cX0_init : ByteArray := prog_2_method_1_code
def yX0_init : MethodName := ⟨RX0, "<init>", "()V"⟩
abbrev cX0_clear : ByteArray := prog_2_method_2_code
def yX0_clear : MethodName := ⟨RX0, "clear", "()V"⟩
abbrev cX0_setting : ByteArray := prog_2_method_3_code
def yX0_setting : MethodName := ⟨RX0, "setting", "(I)I"⟩
abbrev cX0_latest : ByteArray := prog_2_method_4_code
def yX0_latest : MethodName := ⟨RX0, "latest", "(LLifeRents$Word;LLifeRents$Word;IIII)LLifeRents$Line;"⟩
def RX1 : String := "LifeRents$Book"
def TX1 : u_T := fun k => match k with
  | 0 => ("LifeRents$Book", "people", "LLifeRents$People;", true)
  | 1 => ("LifeRents$Book", "sorts", "[I", true)
  | 2 => ("LifeRents$Book", "subjects", "[I", true)
  | 3 => ("LifeRents$Book", "halves", "[I", true)
  | 4 => ("LifeRents$Book", "told", "[I", true)
  | 5 => ("LifeRents$Book", "size", "I", false)
  | 6 => ("LifeRents$Book", "knownIn", "I", false)
  | 7 => ("LifeRents$Book", "counted", "[Z", true)
  | 8 => ("LifeRents$Book", "good", "[Z", true)
  | _ => ("LifeRents$Book", "deadIn", "[I", true)
def tyX1 : Nat → FieldType := fun k => match k with
  | 0 => .object "LifeRents$People"
  | 1 => .array .int
  | 2 => .array .int
  | 3 => .array .int
  | 4 => .array .int
  | 5 => .int
  | 6 => .int
  | 7 => .array .boolean
  | 8 => .array .boolean
  | _ => .array .int
abbrev wsX10 : List Cond := u_ws RX1 TX1 10
theorem nmX1 : ∀ a, a < 10 → ∀ b, b < 10 → a ≠ b → (TX1 a).2.1 ≠ (TX1 b).2.1 := by decide +kernel
theorem tyX1_ok : ∀ k, k < 10 → parseFieldDescriptor (TX1 k).2.2.1 = some (tyX1 k) := by decide +kernel
abbrev cX1_init : ByteArray := prog_3_method_1_code
def yX1_init : MethodName := ⟨RX1, "<init>", "(LLifeRents$People;)V"⟩
abbrev cX1_has : ByteArray := prog_3_method_2_code
def yX1_has : MethodName := ⟨RX1, "has", "(I)Z"⟩
abbrev cX1_write : ByteArray := prog_3_method_3_code
def yX1_write : MethodName := ⟨RX1, "write", "(IIII)I"⟩
abbrev cX1_know : ByteArray := prog_3_method_4_code
def yX1_know : MethodName := ⟨RX1, "know", "(I)V"⟩
abbrev cX1_knowDeaths : ByteArray := prog_3_method_5_code
def yX1_knowDeaths : MethodName := ⟨RX1, "knowDeaths", "()V"⟩
abbrev cX1_livedIn : ByteArray := prog_3_method_6_code
def yX1_livedIn : MethodName := ⟨RX1, "livedIn", "(II)Z"⟩
abbrev cX1_isDead : ByteArray := prog_3_method_7_code
def yX1_isDead : MethodName := ⟨RX1, "isDead", "(I)Z"⟩
abbrev cX1_isAliveIn : ByteArray := prog_3_method_8_code
def yX1_isAliveIn : MethodName := ⟨RX1, "isAliveIn", "(II)Z"⟩
abbrev cX1_isFalse : ByteArray := prog_3_method_9_code
def yX1_isFalse : MethodName := ⟨RX1, "isFalse", "(I)Z"⟩
abbrev cX1_hasProof : ByteArray := prog_3_method_10_code
def yX1_hasProof : MethodName := ⟨RX1, "hasProof", "(III)Z"⟩
abbrev cX1_latestProof : ByteArray := prog_3_method_11_code
def yX1_latestProof : MethodName := ⟨RX1, "latestProof", "(I)I"⟩
def RX2 : String := "LifeRents$Buyer"
def TX2 : u_T := fun k => match k with
  | 0 => ("LifeRents$Buyer", "lives", "[I", true)
  | 1 => ("LifeRents$Buyer", "prices", "[I", true)
  | 2 => ("LifeRents$Buyer", "gains", "[I", true)
  | 3 => ("LifeRents$Buyer", "size", "I", false)
  | 4 => ("LifeRents$Buyer", "coins", "[I", true)
  | 5 => ("LifeRents$Buyer", "cost", "I", false)
  | 6 => ("LifeRents$Buyer", "sum", "I", false)
  | 7 => ("LifeRents$Buyer", "bestCost", "I", false)
  | 8 => ("LifeRents$Buyer", "bestSum", "I", false)
  | 9 => ("LifeRents$Buyer", "best", "[I", true)
  | _ => ("LifeRents$Buyer", "hasChosen", "Z", false)
def tyX2 : Nat → FieldType := fun k => match k with
  | 0 => .array .int
  | 1 => .array .int
  | 2 => .array .int
  | 3 => .int
  | 4 => .array .int
  | 5 => .int
  | 6 => .int
  | 7 => .int
  | 8 => .int
  | 9 => .array .int
  | _ => .boolean
abbrev wsX20 : List Cond := u_ws RX2 TX2 11
theorem nmX2 : ∀ a, a < 11 → ∀ b, b < 11 → a ≠ b → (TX2 a).2.1 ≠ (TX2 b).2.1 := by decide +kernel
theorem tyX2_ok : ∀ k, k < 11 → parseFieldDescriptor (TX2 k).2.2.1 = some (tyX2 k) := by decide +kernel
abbrev cX2_init : ByteArray := prog_4_method_1_code
def yX2_init : MethodName := ⟨RX2, "<init>", "()V"⟩
abbrev cX2_clearOffers : ByteArray := prog_4_method_2_code
def yX2_clearOffers : MethodName := ⟨RX2, "clearOffers", "()V"⟩
abbrev cX2_offer : ByteArray := prog_4_method_3_code
def yX2_offer : MethodName := ⟨RX2, "offer", "(III)V"⟩
abbrev cX2_choose : ByteArray := prog_4_method_4_code
def yX2_choose : MethodName := ⟨RX2, "choose", "(II)I"⟩
abbrev cX2_countRows : ByteArray := prog_4_method_5_code
def yX2_countRows : MethodName := ⟨RX2, "countRows", "(I)I"⟩
abbrev cX2_turn : ByteArray := prog_4_method_6_code
def yX2_turn : MethodName := ⟨RX2, "turn", "(I)V"⟩
abbrev cX2_keep : ByteArray := prog_4_method_7_code
def yX2_keep : MethodName := ⟨RX2, "keep", "()V"⟩
def RX3 : String := "LifeRents$Ledger"
def TX3 : u_T := fun k => match k with
  | 0 => ("LifeRents$Ledger", "book", "LLifeRents$Book;", true)
  | 1 => ("LifeRents$Ledger", "rents", "[LLifeRents$Rent;", true)
  | 2 => ("LifeRents$Ledger", "size", "I", false)
  | 3 => ("LifeRents$Ledger", "saleRents", "[I", true)
  | 4 => ("LifeRents$Ledger", "sellers", "[I", true)
  | 5 => ("LifeRents$Ledger", "takers", "[I", true)
  | 6 => ("LifeRents$Ledger", "saleParts", "[I", true)
  | 7 => ("LifeRents$Ledger", "saleHalves", "[I", true)
  | 8 => ("LifeRents$Ledger", "sales", "I", false)
  | 9 => ("LifeRents$Ledger", "held", "[I", true)
  | _ => ("LifeRents$Ledger", "settled", "I", false)
def tyX3 : Nat → FieldType := fun k => match k with
  | 0 => .object "LifeRents$Book"
  | 1 => .array (.object "LifeRents$Rent")
  | 2 => .int
  | 3 => .array .int
  | 4 => .array .int
  | 5 => .array .int
  | 6 => .array .int
  | 7 => .array .int
  | 8 => .int
  | 9 => .array .int
  | _ => .int
abbrev wsX30 : List Cond := u_ws RX3 TX3 11
theorem nmX3 : ∀ a, a < 11 → ∀ b, b < 11 → a ≠ b → (TX3 a).2.1 ≠ (TX3 b).2.1 := by decide +kernel
theorem tyX3_ok : ∀ k, k < 11 → parseFieldDescriptor (TX3 k).2.2.1 = some (tyX3 k) := by decide +kernel
abbrev cX3_init : ByteArray := prog_5_method_1_code
def yX3_init : MethodName := ⟨RX3, "<init>", "(LLifeRents$Book;)V"⟩
abbrev cX3_has : ByteArray := prog_5_method_2_code
def yX3_has : MethodName := ⟨RX3, "has", "(I)Z"⟩
abbrev cX3_isFull : ByteArray := prog_5_method_3_code
def yX3_isFull : MethodName := ⟨RX3, "isFull", "()Z"⟩
abbrev cX3_buy : ByteArray := prog_5_method_4_code
def yX3_buy : MethodName := ⟨RX3, "buy", "(LLifeRents$Rent;)I"⟩
abbrev cX3_passOn : ByteArray := prog_5_method_5_code
def yX3_passOn : MethodName := ⟨RX3, "passOn", "(IIIII)Z"⟩
abbrev cX3_heldBy : ByteArray := prog_5_method_6_code
def yX3_heldBy : MethodName := ⟨RX3, "heldBy", "(III)I"⟩
abbrev cX3_spreadParts : ByteArray := prog_5_method_7_code
def yX3_spreadParts : MethodName := ⟨RX3, "spreadParts", "(II)V"⟩
abbrev cX3_firstAloneOn : ByteArray := prog_5_method_8_code
def yX3_firstAloneOn : MethodName := ⟨RX3, "firstAloneOn", "(I)I"⟩
abbrev cX3_coinsAloneOn : ByteArray := prog_5_method_9_code
def yX3_coinsAloneOn : MethodName := ⟨RX3, "coinsAloneOn", "(I)I"⟩
abbrev cX3_isDue : ByteArray := prog_5_method_10_code
def yX3_isDue : MethodName := ⟨RX3, "isDue", "(II)Z"⟩
abbrev cX3_isProved : ByteArray := prog_5_method_11_code
def yX3_isProved : MethodName := ⟨RX3, "isProved", "(III)Z"⟩
abbrev cX3_reopen : ByteArray := prog_5_method_12_code
def yX3_reopen : MethodName := ⟨RX3, "reopen", "()V"⟩
abbrev cX3_settle : ByteArray := prog_5_method_13_code
def yX3_settle : MethodName := ⟨RX3, "settle", "(ILLifeRents$Acts;)V"⟩
abbrev cX3_pay : ByteArray := prog_5_method_14_code
def yX3_pay : MethodName := ⟨RX3, "pay", "(IIII)V"⟩
abbrev cX3_gainsOf : ByteArray := prog_5_method_15_code
def yX3_gainsOf : MethodName := ⟨RX3, "gainsOf", "(II)I"⟩
abbrev cX3_shareOf : ByteArray := prog_5_method_16_code
def yX3_shareOf : MethodName := ⟨RX3, "shareOf", "(III)I"⟩
abbrev cX3_debtOf : ByteArray := prog_5_method_17_code
def yX3_debtOf : MethodName := ⟨RX3, "debtOf", "(II)I"⟩
abbrev cX3_debts : ByteArray := prog_5_method_18_code
def yX3_debts : MethodName := ⟨RX3, "debts", "(I)I"⟩
abbrev cX3_payments : ByteArray := prog_5_method_19_code
def yX3_payments : MethodName := ⟨RX3, "payments", "(I)I"⟩
abbrev cX3_takings : ByteArray := prog_5_method_20_code
def yX3_takings : MethodName := ⟨RX3, "takings", "(I)I"⟩
def RX4 : String := "LifeRents$Line"
def TX4 : u_T := fun k => match k with
  | 0 => ("LifeRents$Line", "sort", "LLifeRents$Word;", false)
  | 1 => ("LifeRents$Line", "number", "I", false)
  | 2 => ("LifeRents$Line", "ageFrom", "I", false)
  | 3 => ("LifeRents$Line", "ageTo", "I", false)
  | 4 => ("LifeRents$Line", "classes", "I", false)
  | 5 => ("LifeRents$Line", "halfFrom", "I", false)
  | 6 => ("LifeRents$Line", "halfTo", "I", false)
  | _ => ("LifeRents$Line", "lives", "I", false)
def tyX4 : Nat → FieldType := fun k => match k with
  | 0 => .object "LifeRents$Word"
  | 1 => .int
  | 2 => .int
  | 3 => .int
  | 4 => .int
  | 5 => .int
  | 6 => .int
  | _ => .int
abbrev wsX40 : List Cond := u_ws RX4 TX4 8
theorem nmX4 : ∀ a, a < 8 → ∀ b, b < 8 → a ≠ b → (TX4 a).2.1 ≠ (TX4 b).2.1 := by decide +kernel
theorem tyX4_ok : ∀ k, k < 8 → parseFieldDescriptor (TX4 k).2.2.1 = some (tyX4 k) := by decide +kernel
abbrev cX4_init : ByteArray := prog_6_method_1_code
def yX4_init : MethodName := ⟨RX4, "<init>", "()V"⟩
abbrev cX4_begin : ByteArray := prog_6_method_2_code
def yX4_begin : MethodName := ⟨RX4, "begin", "(LLifeRents$Word;)V"⟩
abbrev cX4_hasTold : ByteArray := prog_6_method_3_code
def yX4_hasTold : MethodName := ⟨RX4, "hasTold", "(LLifeRents$Word;)Z"⟩
abbrev cX4_fits : ByteArray := prog_6_method_4_code
def yX4_fits : MethodName := ⟨RX4, "fits", "(IIII)Z"⟩
def RX5 : String := "LifeRents$People"
def TX5 : u_T := fun k => match k with
  | 0 => ("LifeRents$People", "births", "[I", true)
  | 1 => ("LifeRents$People", "kinds", "[I", true)
  | _ => ("LifeRents$People", "size", "I", false)
def tyX5 : Nat → FieldType := fun k => match k with
  | 0 => .array .int
  | 1 => .array .int
  | _ => .int
abbrev wsX50 : List Cond := u_ws RX5 TX5 3
theorem nmX5 : ∀ a, a < 3 → ∀ b, b < 3 → a ≠ b → (TX5 a).2.1 ≠ (TX5 b).2.1 := by decide +kernel
theorem tyX5_ok : ∀ k, k < 3 → parseFieldDescriptor (TX5 k).2.2.1 = some (tyX5 k) := by decide +kernel
abbrev cX5_init : ByteArray := prog_7_method_1_code
def yX5_init : MethodName := ⟨RX5, "<init>", "()V"⟩
abbrev cX5_has : ByteArray := prog_7_method_2_code
def yX5_has : MethodName := ⟨RX5, "has", "(I)Z"⟩
abbrev cX5_enter : ByteArray := prog_7_method_3_code
def yX5_enter : MethodName := ⟨RX5, "enter", "(II)I"⟩
abbrev cX5_ageIn : ByteArray := prog_7_method_4_code
def yX5_ageIn : MethodName := ⟨RX5, "ageIn", "(II)I"⟩
abbrev cX5_younger : ByteArray := prog_7_method_5_code
def yX5_younger : MethodName := ⟨RX5, "younger", "(III)I"⟩
def RX6 : String := "LifeRents$Reader"
def TX6 : u_T := fun k => match k with
  | 0 => ("LifeRents$Reader", "text", "[I", true)
  | 1 => ("LifeRents$Reader", "taped", "I", false)
  | 2 => ("LifeRents$Reader", "length", "I", false)
  | 3 => ("LifeRents$Reader", "into", "LLifeRents$Acts;", false)
  | 4 => ("LifeRents$Reader", "lines", "I", false)
  | 5 => ("LifeRents$Reader", "next", "I", false)
  | 6 => ("LifeRents$Reader", "opened", "LLifeRents$Word;", false)
  | 7 => ("LifeRents$Reader", "rule", "LLifeRents$Line;", false)
  | 8 => ("LifeRents$Reader", "low", "I", false)
  | 9 => ("LifeRents$Reader", "at", "I", false)
  | 10 => ("LifeRents$Reader", "behind", "I", false)
  | 11 => ("LifeRents$Reader", "token", "I", false)
  | 12 => ("LifeRents$Reader", "number", "I", false)
  | 13 => ("LifeRents$Reader", "word", "LLifeRents$Word;", false)
  | 14 => ("LifeRents$Reader", "fault", "I", false)
  | _ => ("LifeRents$Reader", "place", "I", false)
def tyX6 : Nat → FieldType := fun k => match k with
  | 0 => .array .int
  | 1 => .int
  | 2 => .int
  | 3 => .object "LifeRents$Acts"
  | 4 => .int
  | 5 => .int
  | 6 => .object "LifeRents$Word"
  | 7 => .object "LifeRents$Line"
  | 8 => .int
  | 9 => .int
  | 10 => .int
  | 11 => .int
  | 12 => .int
  | 13 => .object "LifeRents$Word"
  | 14 => .int
  | _ => .int
abbrev wsX60 : List Cond := u_ws RX6 TX6 16
theorem nmX6 : ∀ a, a < 16 → ∀ b, b < 16 → a ≠ b → (TX6 a).2.1 ≠ (TX6 b).2.1 := by decide +kernel
theorem tyX6_ok : ∀ k, k < 16 → parseFieldDescriptor (TX6 k).2.2.1 = some (tyX6 k) := by decide +kernel
abbrev cX6_init : ByteArray := prog_8_method_1_code
def yX6_init : MethodName := ⟨RX6, "<init>", "()V"⟩
abbrev cX6_putBytes : ByteArray := prog_8_method_2_code
def yX6_putBytes : MethodName := ⟨RX6, "putBytes", "(I)V"⟩
abbrev cX6_read : ByteArray := prog_8_method_3_code
def yX6_read : MethodName := ⟨RX6, "read", "(ILLifeRents$Acts;)I"⟩
abbrev cX6_skipBlanks : ByteArray := prog_8_method_4_code
def yX6_skipBlanks : MethodName := ⟨RX6, "skipBlanks", "()V"⟩
abbrev cX6_takeToken : ByteArray := prog_8_method_5_code
def yX6_takeToken : MethodName := ⟨RX6, "takeToken", "()V"⟩
abbrev cX6_isLetter : ByteArray := prog_8_method_6_code
def yX6_isLetter : MethodName := ⟨RX6, "isLetter", "(I)Z"⟩
abbrev cX6_isDigit : ByteArray := prog_8_method_7_code
def yX6_isDigit : MethodName := ⟨RX6, "isDigit", "(I)Z"⟩
abbrev cX6_takeWord : ByteArray := prog_8_method_8_code
def yX6_takeWord : MethodName := ⟨RX6, "takeWord", "()V"⟩
abbrev cX6_spells : ByteArray := prog_8_method_9_code
def yX6_spells : MethodName := ⟨RX6, "spells", "(Ljava/lang/String;)Z"⟩
abbrev cX6_takeNumber : ByteArray := prog_8_method_10_code
def yX6_takeNumber : MethodName := ⟨RX6, "takeNumber", "()V"⟩
abbrev cX6_put : ByteArray := prog_8_method_11_code
def yX6_put : MethodName := ⟨RX6, "put", "()I"⟩
abbrev cX6_putLineWord : ByteArray := prog_8_method_12_code
def yX6_putLineWord : MethodName := ⟨RX6, "putLineWord", "()I"⟩
abbrev cX6_putAmount : ByteArray := prog_8_method_13_code
def yX6_putAmount : MethodName := ⟨RX6, "putAmount", "()I"⟩
abbrev cX6_numberFault : ByteArray := prog_8_method_14_code
def yX6_numberFault : MethodName := ⟨RX6, "numberFault", "()I"⟩
abbrev cX6_putWhom : ByteArray := prog_8_method_15_code
def yX6_putWhom : MethodName := ⟨RX6, "putWhom", "()I"⟩
abbrev cX6_putFrom : ByteArray := prog_8_method_16_code
def yX6_putFrom : MethodName := ⟨RX6, "putFrom", "()I"⟩
abbrev cX6_putUpTo : ByteArray := prog_8_method_17_code
def yX6_putUpTo : MethodName := ⟨RX6, "putUpTo", "()I"⟩
abbrev cX6_putClass : ByteArray := prog_8_method_18_code
def yX6_putClass : MethodName := ⟨RX6, "putClass", "()I"⟩
abbrev cX6_putLineEnd : ByteArray := prog_8_method_19_code
def yX6_putLineEnd : MethodName := ⟨RX6, "putLineEnd", "()I"⟩
def RX7 : String := "LifeRents$Rent"
def TX7 : u_T := fun k => match k with
  | 0 => ("LifeRents$Rent", "holder", "I", true)
  | 1 => ("LifeRents$Rent", "first", "I", true)
  | 2 => ("LifeRents$Rent", "second", "I", true)
  | 3 => ("LifeRents$Rent", "coins", "I", true)
  | 4 => ("LifeRents$Rent", "bought", "I", true)
  | 5 => ("LifeRents$Rent", "cost", "I", true)
  | _ => ("LifeRents$Rent", "paidIn", "[I", true)
def tyX7 : Nat → FieldType := fun k => match k with
  | 0 => .int
  | 1 => .int
  | 2 => .int
  | 3 => .int
  | 4 => .int
  | 5 => .int
  | _ => .array .int
abbrev wsX70 : List Cond := u_ws RX7 TX7 7
theorem nmX7 : ∀ a, a < 7 → ∀ b, b < 7 → a ≠ b → (TX7 a).2.1 ≠ (TX7 b).2.1 := by decide +kernel
theorem tyX7_ok : ∀ k, k < 7 → parseFieldDescriptor (TX7 k).2.2.1 = some (tyX7 k) := by decide +kernel
abbrev cX7_init : ByteArray := prog_9_method_1_code
def yX7_init : MethodName := ⟨RX7, "<init>", "(IIIIII)V"⟩
abbrev cX7_isAloneOn : ByteArray := prog_9_method_2_code
def yX7_isAloneOn : MethodName := ⟨RX7, "isAloneOn", "(I)Z"⟩
abbrev cX7_forgetFrom : ByteArray := prog_9_method_3_code
def yX7_forgetFrom : MethodName := ⟨RX7, "forgetFrom", "(I)V"⟩
abbrev cX7_isPaidBy : ByteArray := prog_9_method_4_code
def yX7_isPaidBy : MethodName := ⟨RX7, "isPaidBy", "(II)Z"⟩
def RX8 : String := "LifeRents$Tables"
def TX8 : u_T := fun k => match k with
  | 0 => ("LifeRents$Tables", "people", "LLifeRents$People;", true)
  | 1 => ("LifeRents$Tables", "book", "LLifeRents$Book;", true)
  | 2 => ("LifeRents$Tables", "sold", "[[I", true)
  | 3 => ("LifeRents$Tables", "begun", "I", false)
  | 4 => ("LifeRents$Tables", "ended", "I", false)
  | 5 => ("LifeRents$Tables", "firstRow", "[I", true)
  | _ => ("LifeRents$Tables", "secondRow", "[I", true)
def tyX8 : Nat → FieldType := fun k => match k with
  | 0 => .object "LifeRents$People"
  | 1 => .object "LifeRents$Book"
  | 2 => .array (.array .int)
  | 3 => .int
  | 4 => .int
  | 5 => .array .int
  | _ => .array .int
abbrev wsX80 : List Cond := u_ws RX8 TX8 7
theorem nmX8 : ∀ a, a < 7 → ∀ b, b < 7 → a ≠ b → (TX8 a).2.1 ≠ (TX8 b).2.1 := by decide +kernel
theorem tyX8_ok : ∀ k, k < 7 → parseFieldDescriptor (TX8 k).2.2.1 = some (tyX8 k) := by decide +kernel
abbrev cX8_init : ByteArray := prog_10_method_1_code
def yX8_init : MethodName := ⟨RX8, "<init>", "(LLifeRents$People;LLifeRents$Book;)V"⟩
abbrev cX8_countYears : ByteArray := prog_10_method_2_code
def yX8_countYears : MethodName := ⟨RX8, "countYears", "(III)V"⟩
abbrev cX8_countYearsOf : ByteArray := prog_10_method_3_code
def yX8_countYearsOf : MethodName := ⟨RX8, "countYearsOf", "(III)V"⟩
abbrev cX8_live : ByteArray := prog_10_method_4_code
def yX8_live : MethodName := ⟨RX8, "live", "(IIII)I"⟩
abbrev cX8_fillRow : ByteArray := prog_10_method_5_code
def yX8_fillRow : MethodName := ⟨RX8, "fillRow", "([IIII)V"⟩
abbrev cX8_worthOf : ByteArray := prog_10_method_6_code
def yX8_worthOf : MethodName := ⟨RX8, "worthOf", "(IIIII)I"⟩
abbrev cX8_worthOnOne : ByteArray := prog_10_method_7_code
def yX8_worthOnOne : MethodName := ⟨RX8, "worthOnOne", "(I[II)I"⟩
abbrev cX8_worthTillFirst : ByteArray := prog_10_method_8_code
def yX8_worthTillFirst : MethodName := ⟨RX8, "worthTillFirst", "(III)I"⟩
abbrev cX8_yearBefore : ByteArray := prog_10_method_9_code
def yX8_yearBefore : MethodName := ⟨RX8, "yearBefore", "(III)I"⟩
def RX9 : String := "LifeRents$Word"
def TX9 : u_T := fun k => match k with
  | _ => ("", "", "", false)
def tyX9 : Nat → FieldType := fun k => match k with
  | _ => .int
abbrev wsX90 : List Cond := u_ws RX9 TX9 0
theorem nmX9 : ∀ a, a < 0 → ∀ b, b < 0 → a ≠ b → (TX9 a).2.1 ≠ (TX9 b).2.1 := by decide +kernel
theorem tyX9_ok : ∀ k, k < 0 → parseFieldDescriptor (TX9 k).2.2.1 = some (tyX9 k) := by decide +kernel
def RX10 : String := "LifeRents"
def TX10 : u_T := fun k => match k with
  | 0 => ("LifeRents", "reader", "LLifeRents$Reader;", true)
  | 1 => ("LifeRents", "acts", "LLifeRents$Acts;", false)
  | 2 => ("LifeRents", "spare", "LLifeRents$Acts;", false)
  | 3 => ("LifeRents", "now", "I", false)
  | 4 => ("LifeRents", "people", "LLifeRents$People;", true)
  | 5 => ("LifeRents", "book", "LLifeRents$Book;", true)
  | 6 => ("LifeRents", "ledger", "LLifeRents$Ledger;", true)
  | 7 => ("LifeRents", "tables", "LLifeRents$Tables;", true)
  | 8 => ("LifeRents", "buyer", "LLifeRents$Buyer;", true)
  | _ => ("LifeRents", "risks", "[J", true)
def tyX10 : Nat → FieldType := fun k => match k with
  | 0 => .object "LifeRents$Reader"
  | 1 => .object "LifeRents$Acts"
  | 2 => .object "LifeRents$Acts"
  | 3 => .int
  | 4 => .object "LifeRents$People"
  | 5 => .object "LifeRents$Book"
  | 6 => .object "LifeRents$Ledger"
  | 7 => .object "LifeRents$Tables"
  | 8 => .object "LifeRents$Buyer"
  | _ => .array .long
abbrev wsX100 : List Cond := u_ws RX10 TX10 10
theorem nmX10 : ∀ a, a < 10 → ∀ b, b < 10 → a ≠ b → (TX10 a).2.1 ≠ (TX10 b).2.1 := by decide +kernel
theorem tyX10_ok : ∀ k, k < 10 → parseFieldDescriptor (TX10 k).2.2.1 = some (tyX10 k) := by decide +kernel
abbrev cX10_init : ByteArray := prog_1_method_1_code
def yX10_init : MethodName := ⟨RX10, "<init>", "()V"⟩
abbrev cX10_feed : ByteArray := prog_1_method_2_code
def yX10_feed : MethodName := ⟨RX10, "feed", "(IIIII)I"⟩
abbrev cX10_acts : ByteArray := prog_1_method_3_code
def yX10_acts : MethodName := ⟨RX10, "acts", "(I)I"⟩
abbrev cX10_fault : ByteArray := prog_1_method_4_code
def yX10_fault : MethodName := ⟨RX10, "fault", "(I)I"⟩
abbrev cX10_halves : ByteArray := prog_1_method_5_code
def yX10_halves : MethodName := ⟨RX10, "halves", "(I)I"⟩
abbrev cX10_life : ByteArray := prog_1_method_6_code
def yX10_life : MethodName := ⟨RX10, "life", "(II)I"⟩
abbrev cX10_asks : ByteArray := prog_1_method_7_code
def yX10_asks : MethodName := ⟨RX10, "asks", "(II)I"⟩
abbrev cX10_rent : ByteArray := prog_1_method_8_code
def yX10_rent : MethodName := ⟨RX10, "rent", "(IIII)I"⟩
abbrev cX10_sell : ByteArray := prog_1_method_9_code
def yX10_sell : MethodName := ⟨RX10, "sell", "(IIII)Z"⟩
abbrev cX10_parts : ByteArray := prog_1_method_10_code
def yX10_parts : MethodName := ⟨RX10, "parts", "(III)I"⟩
abbrev cX10_note : ByteArray := prog_1_method_11_code
def yX10_note : MethodName := ⟨RX10, "note", "(IIZ)I"⟩
abbrev cX10_strike : ByteArray := prog_1_method_12_code
def yX10_strike : MethodName := ⟨RX10, "strike", "(I)I"⟩
abbrev cX10_dead : ByteArray := prog_1_method_13_code
def yX10_dead : MethodName := ⟨RX10, "dead", "(II)I"⟩
abbrev cX10_holds : ByteArray := prog_1_method_14_code
def yX10_holds : MethodName := ⟨RX10, "holds", "(II)I"⟩
abbrev cX10_paid : ByteArray := prog_1_method_15_code
def yX10_paid : MethodName := ⟨RX10, "paid", "(III)I"⟩
abbrev cX10_got : ByteArray := prog_1_method_16_code
def yX10_got : MethodName := ⟨RX10, "got", "(II)I"⟩
abbrev cX10_owed : ByteArray := prog_1_method_17_code
def yX10_owed : MethodName := ⟨RX10, "owed", "(II)I"⟩
abbrev cX10_state : ByteArray := prog_1_method_18_code
def yX10_state : MethodName := ⟨RX10, "state", "(II)I"⟩
abbrev cX10_sold : ByteArray := prog_1_method_19_code
def yX10_sold : MethodName := ⟨RX10, "sold", "(III)Z"⟩
abbrev cX10_own : ByteArray := prog_1_method_20_code
def yX10_own : MethodName := ⟨RX10, "own", "(IIII)I"⟩
abbrev cX10_worth : ByteArray := prog_1_method_21_code
def yX10_worth : MethodName := ⟨RX10, "worth", "(III)I"⟩
abbrev cX10_names : ByteArray := prog_1_method_22_code
def yX10_names : MethodName := ⟨RX10, "names", "(I)I"⟩
abbrev cX10_named : ByteArray := prog_1_method_23_code
def yX10_named : MethodName := ⟨RX10, "named", "(I)I"⟩
abbrev cX10_look : ByteArray := prog_1_method_24_code
def yX10_look : MethodName := ⟨RX10, "look", "(I)I"⟩
abbrev cX10_risk : ByteArray := prog_1_method_25_code
def yX10_risk : MethodName := ⟨RX10, "risk", "(I)J"⟩
abbrev cX10_converts : ByteArray := prog_1_method_26_code
def yX10_converts : MethodName := ⟨RX10, "converts", "(I)I"⟩
abbrev cX10_count : ByteArray := prog_1_method_27_code
def yX10_count : MethodName := ⟨RX10, "count", "(I)I"⟩
abbrev cX10_isHalf : ByteArray := prog_1_method_28_code
def yX10_isHalf : MethodName := ⟨RX10, "isHalf", "(I)Z"⟩
abbrev cX10_isClass : ByteArray := prog_1_method_29_code
def yX10_isClass : MethodName := ⟨RX10, "isClass", "(I)Z"⟩
abbrev cX10_isGroup : ByteArray := prog_1_method_30_code
def yX10_isGroup : MethodName := ⟨RX10, "isGroup", "(I)Z"⟩
abbrev cX10_isHolder : ByteArray := prog_1_method_31_code
def yX10_isHolder : MethodName := ⟨RX10, "isHolder", "(I)Z"⟩
abbrev cX10_hasBegun : ByteArray := prog_1_method_32_code
def yX10_hasBegun : MethodName := ⟨RX10, "hasBegun", "(I)Z"⟩
abbrev cX10_hasYearsLeft : ByteArray := prog_1_method_33_code
def yX10_hasYearsLeft : MethodName := ⟨RX10, "hasYearsLeft", "(I)Z"⟩
abbrev cX10_groupOf : ByteArray := prog_1_method_34_code
def yX10_groupOf : MethodName := ⟨RX10, "groupOf", "(I)I"⟩
abbrev cX10_ruling : ByteArray := prog_1_method_35_code
def yX10_ruling : MethodName := ⟨RX10, "ruling", "(LLifeRents$Word;LLifeRents$Word;II)LLifeRents$Line;"⟩
abbrev cX10_mayBeNamed : ByteArray := prog_1_method_36_code
def yX10_mayBeNamed : MethodName := ⟨RX10, "mayBeNamed", "(II)Z"⟩
abbrev cX10_priceOn : ByteArray := prog_1_method_37_code
def yX10_priceOn : MethodName := ⟨RX10, "priceOn", "(II)I"⟩
abbrev cX10_lumpOn : ByteArray := prog_1_method_38_code
def yX10_lumpOn : MethodName := ⟨RX10, "lumpOn", "(II)I"⟩
abbrev cX10_worthNow : ByteArray := prog_1_method_39_code
def yX10_worthNow : MethodName := ⟨RX10, "worthNow", "(III)I"⟩
abbrev cX10_riskOn : ByteArray := prog_1_method_40_code
def yX10_riskOn : MethodName := ⟨RX10, "riskOn", "(I)J"⟩
abbrev cX10_riskierThan : ByteArray := prog_1_method_41_code
def yX10_riskierThan : MethodName := ⟨RX10, "riskierThan", "(I)I"⟩
def RX11 : String := "LifeRentsModel"
def TX11 : u_T := fun k => match k with
  | 0 => ("LifeRentsModel", "tape", "[I", true)
  | 1 => ("LifeRentsModel", "tapeSize", "I", false)
  | 2 => ("LifeRentsModel", "thrown", "I", false)
  | 3 => ("LifeRentsModel", "now", "I", false)
  | 4 => ("LifeRentsModel", "lives", "I", false)
  | 5 => ("LifeRentsModel", "born", "[I", true)
  | 6 => ("LifeRentsModel", "classOf", "[I", true)
  | 7 => ("LifeRentsModel", "rents", "I", false)
  | 8 => ("LifeRentsModel", "boughtIn", "[I", true)
  | 9 => ("LifeRentsModel", "buyer", "[I", true)
  | 10 => ("LifeRentsModel", "first", "[I", true)
  | 11 => ("LifeRentsModel", "second", "[I", true)
  | 12 => ("LifeRentsModel", "coinsOf", "[I", true)
  | 13 => ("LifeRentsModel", "costOf", "[I", true)
  | 14 => ("LifeRentsModel", "sales", "I", false)
  | 15 => ("LifeRentsModel", "sale", "[I", true)
  | 16 => ("LifeRentsModel", "notes", "I", false)
  | 17 => ("LifeRentsModel", "noteSort", "[I", true)
  | 18 => ("LifeRentsModel", "noteOf", "[I", true)
  | 19 => ("LifeRentsModel", "noteHalf", "[I", true)
  | 20 => ("LifeRentsModel", "noteTold", "[I", true)
  | 21 => ("LifeRentsModel", "table", "[I", true)
  | 22 => ("LifeRentsModel", "words", "[I", true)
  | 23 => ("LifeRentsModel", "fault", "I", false)
  | 24 => ("LifeRentsModel", "faultPlace", "I", false)
  | 25 => ("LifeRentsModel", "stop", "I", false)
  | 26 => ("LifeRentsModel", "next", "I", false)
  | 27 => ("LifeRentsModel", "kind", "I", false)
  | 28 => ("LifeRentsModel", "which", "I", false)
  | 29 => ("LifeRentsModel", "place", "I", false)
  | 30 => ("LifeRentsModel", "sort", "[I", true)
  | 31 => ("LifeRentsModel", "amount", "[I", true)
  | 32 => ("LifeRentsModel", "ageLow", "[I", true)
  | 33 => ("LifeRentsModel", "ageHigh", "[I", true)
  | 34 => ("LifeRentsModel", "classes", "[I", true)
  | 35 => ("LifeRentsModel", "halfLow", "[I", true)
  | 36 => ("LifeRentsModel", "halfHigh", "[I", true)
  | 37 => ("LifeRentsModel", "count", "[I", true)
  | 38 => ("LifeRentsModel", "lines", "I", false)
  | 39 => ("LifeRentsModel", "linesRead", "I", false)
  | 40 => ("LifeRentsModel", "number", "[I", true)
  | 41 => ("LifeRentsModel", "told", "[Z", true)
  | 42 => ("LifeRentsModel", "spanLow", "I", false)
  | 43 => ("LifeRentsModel", "spanHigh", "I", false)
  | 44 => ("LifeRentsModel", "counts", "[Z", true)
  | 45 => ("LifeRentsModel", "deadIn", "[I", true)
  | 46 => ("LifeRentsModel", "paidIn", "[I", true)
  | 47 => ("LifeRentsModel", "gotOf", "[I", true)
  | 48 => ("LifeRentsModel", "paidAll", "I", false)
  | 49 => ("LifeRentsModel", "begun", "I", false)
  | 50 => ("LifeRentsModel", "ended", "I", false)
  | 51 => ("LifeRentsModel", "by", "[I", true)
  | 52 => ("LifeRentsModel", "isNamed", "Z", false)
  | 53 => ("LifeRentsModel", "named", "[I", true)
  | 54 => ("LifeRentsModel", "tried", "[I", true)
  | 55 => ("LifeRentsModel", "open", "[I", true)
  | 56 => ("LifeRentsModel", "gain", "[I", true)
  | _ => ("LifeRentsModel", "price", "[I", true)
def tyX11 : Nat → FieldType := fun k => match k with
  | 0 => .array .int
  | 1 => .int
  | 2 => .int
  | 3 => .int
  | 4 => .int
  | 5 => .array .int
  | 6 => .array .int
  | 7 => .int
  | 8 => .array .int
  | 9 => .array .int
  | 10 => .array .int
  | 11 => .array .int
  | 12 => .array .int
  | 13 => .array .int
  | 14 => .int
  | 15 => .array .int
  | 16 => .int
  | 17 => .array .int
  | 18 => .array .int
  | 19 => .array .int
  | 20 => .array .int
  | 21 => .array .int
  | 22 => .array .int
  | 23 => .int
  | 24 => .int
  | 25 => .int
  | 26 => .int
  | 27 => .int
  | 28 => .int
  | 29 => .int
  | 30 => .array .int
  | 31 => .array .int
  | 32 => .array .int
  | 33 => .array .int
  | 34 => .array .int
  | 35 => .array .int
  | 36 => .array .int
  | 37 => .array .int
  | 38 => .int
  | 39 => .int
  | 40 => .array .int
  | 41 => .array .boolean
  | 42 => .int
  | 43 => .int
  | 44 => .array .boolean
  | 45 => .array .int
  | 46 => .array .int
  | 47 => .array .int
  | 48 => .int
  | 49 => .int
  | 50 => .int
  | 51 => .array .int
  | 52 => .boolean
  | 53 => .array .int
  | 54 => .array .int
  | 55 => .array .int
  | 56 => .array .int
  | _ => .array .int
abbrev wsX110 : List Cond := u_ws RX11 TX11 58
theorem nmX11 : ∀ a, a < 58 → ∀ b, b < 58 → a ≠ b → (TX11 a).2.1 ≠ (TX11 b).2.1 := by decide +kernel
theorem tyX11_ok : ∀ k, k < 58 → parseFieldDescriptor (TX11 k).2.2.1 = some (tyX11 k) := by decide +kernel
abbrev cX11_init : ByteArray := prog_13_method_1_code
def yX11_init : MethodName := ⟨RX11, "<init>", "()V"⟩
abbrev cX11_thrown : ByteArray := prog_13_method_2_code
def yX11_thrown : MethodName := ⟨RX11, "thrown", "()I"⟩
abbrev cX11_feed : ByteArray := prog_13_method_3_code
def yX11_feed : MethodName := ⟨RX11, "feed", "(IIIII)I"⟩
abbrev cX11_isIn : ByteArray := prog_13_method_4_code
def yX11_isIn : MethodName := ⟨RX11, "isIn", "(III)Z"⟩
abbrev cX11_isHalf : ByteArray := prog_13_method_5_code
def yX11_isHalf : MethodName := ⟨RX11, "isHalf", "(I)Z"⟩
abbrev cX11_wrong : ByteArray := prog_13_method_6_code
def yX11_wrong : MethodName := ⟨RX11, "wrong", "(I)Z"⟩
abbrev cX11_wordAt : ByteArray := prog_13_method_7_code
def yX11_wordAt : MethodName := ⟨RX11, "wordAt", "(II)I"⟩
abbrev cX11_isSmall : ByteArray := prog_13_method_8_code
def yX11_isSmall : MethodName := ⟨RX11, "isSmall", "(I)Z"⟩
abbrev cX11_isDigit : ByteArray := prog_13_method_9_code
def yX11_isDigit : MethodName := ⟨RX11, "isDigit", "(I)Z"⟩
abbrev cX11_take : ByteArray := prog_13_method_10_code
def yX11_take : MethodName := ⟨RX11, "take", "()V"⟩
abbrev cX11_isWord : ByteArray := prog_13_method_11_code
def yX11_isWord : MethodName := ⟨RX11, "isWord", "(I)Z"⟩
abbrev cX11_isNumber : ByteArray := prog_13_method_12_code
def yX11_isNumber : MethodName := ⟨RX11, "isNumber", "(II)Z"⟩
abbrev cX11_plain : ByteArray := prog_13_method_13_code
def yX11_plain : MethodName := ⟨RX11, "plain", "()V"⟩
abbrev cX11_keep : ByteArray := prog_13_method_14_code
def yX11_keep : MethodName := ⟨RX11, "keep", "()V"⟩
abbrev cX11_span : ByteArray := prog_13_method_15_code
def yX11_span : MethodName := ⟨RX11, "span", "(I)Z"⟩
abbrev cX11_classRow : ByteArray := prog_13_method_16_code
def yX11_classRow : MethodName := ⟨RX11, "classRow", "(I)Z"⟩
abbrev cX11_whom : ByteArray := prog_13_method_17_code
def yX11_whom : MethodName := ⟨RX11, "whom", "(I)Z"⟩
abbrev cX11_ofWhom : ByteArray := prog_13_method_18_code
def yX11_ofWhom : MethodName := ⟨RX11, "ofWhom", "(I)Z"⟩
abbrev cX11_ofNumber : ByteArray := prog_13_method_19_code
def yX11_ofNumber : MethodName := ⟨RX11, "ofNumber", "(I)Z"⟩
abbrev cX11_acts : ByteArray := prog_13_method_20_code
def yX11_acts : MethodName := ⟨RX11, "acts", "(I)I"⟩
abbrev cX11_fault : ByteArray := prog_13_method_21_code
def yX11_fault : MethodName := ⟨RX11, "fault", "(I)I"⟩
abbrev cX11_halves : ByteArray := prog_13_method_22_code
def yX11_halves : MethodName := ⟨RX11, "halves", "(I)I"⟩
abbrev cX11_life : ByteArray := prog_13_method_23_code
def yX11_life : MethodName := ⟨RX11, "life", "(II)I"⟩
abbrev cX11_isLife : ByteArray := prog_13_method_24_code
def yX11_isLife : MethodName := ⟨RX11, "isLife", "(I)Z"⟩
abbrev cX11_ageIn : ByteArray := prog_13_method_25_code
def yX11_ageIn : MethodName := ⟨RX11, "ageIn", "(II)I"⟩
abbrev cX11_actOf : ByteArray := prog_13_method_26_code
def yX11_actOf : MethodName := ⟨RX11, "actOf", "(IIIII)I"⟩
abbrev cX11_mayBe : ByteArray := prog_13_method_27_code
def yX11_mayBe : MethodName := ⟨RX11, "mayBe", "(II)Z"⟩
abbrev cX11_priceOf : ByteArray := prog_13_method_28_code
def yX11_priceOf : MethodName := ⟨RX11, "priceOf", "(II)I"⟩
abbrev cX11_lumpOf : ByteArray := prog_13_method_29_code
def yX11_lumpOf : MethodName := ⟨RX11, "lumpOf", "(II)I"⟩
abbrev cX11_asks : ByteArray := prog_13_method_30_code
def yX11_asks : MethodName := ⟨RX11, "asks", "(II)I"⟩
abbrev cX11_isHolder : ByteArray := prog_13_method_31_code
def yX11_isHolder : MethodName := ⟨RX11, "isHolder", "(I)Z"⟩
abbrev cX11_rent : ByteArray := prog_13_method_32_code
def yX11_rent : MethodName := ⟨RX11, "rent", "(IIII)I"⟩
abbrev cX11_isRent : ByteArray := prog_13_method_33_code
def yX11_isRent : MethodName := ⟨RX11, "isRent", "(I)Z"⟩
abbrev cX11_partsOf : ByteArray := prog_13_method_34_code
def yX11_partsOf : MethodName := ⟨RX11, "partsOf", "(III)I"⟩
abbrev cX11_sell : ByteArray := prog_13_method_35_code
def yX11_sell : MethodName := ⟨RX11, "sell", "(IIII)Z"⟩
abbrev cX11_parts : ByteArray := prog_13_method_36_code
def yX11_parts : MethodName := ⟨RX11, "parts", "(III)I"⟩
abbrev cX11_told : ByteArray := prog_13_method_37_code
def yX11_told : MethodName := ⟨RX11, "told", "(III)I"⟩
abbrev cX11_note : ByteArray := prog_13_method_38_code
def yX11_note : MethodName := ⟨RX11, "note", "(IIZ)I"⟩
abbrev cX11_strike : ByteArray := prog_13_method_39_code
def yX11_strike : MethodName := ⟨RX11, "strike", "(I)I"⟩
abbrev cX11_know : ByteArray := prog_13_method_40_code
def yX11_know : MethodName := ⟨RX11, "know", "(I)V"⟩
abbrev cX11_isFalse : ByteArray := prog_13_method_41_code
def yX11_isFalse : MethodName := ⟨RX11, "isFalse", "(I)Z"⟩
abbrev cX11_dead : ByteArray := prog_13_method_42_code
def yX11_dead : MethodName := ⟨RX11, "dead", "(II)I"⟩
abbrev cX11_holds : ByteArray := prog_13_method_43_code
def yX11_holds : MethodName := ⟨RX11, "holds", "(II)I"⟩
abbrev cX11_lives : ByteArray := prog_13_method_44_code
def yX11_lives : MethodName := ⟨RX11, "lives", "(II)Z"⟩
abbrev cX11_isDue : ByteArray := prog_13_method_45_code
def yX11_isDue : MethodName := ⟨RX11, "isDue", "(II)Z"⟩
abbrev cX11_isProved : ByteArray := prog_13_method_46_code
def yX11_isProved : MethodName := ⟨RX11, "isProved", "(II)Z"⟩
abbrev cX11_pays : ByteArray := prog_13_method_47_code
def yX11_pays : MethodName := ⟨RX11, "pays", "(I)V"⟩
abbrev cX11_shares : ByteArray := prog_13_method_48_code
def yX11_shares : MethodName := ⟨RX11, "shares", "(II)V"⟩
abbrev cX11_paid : ByteArray := prog_13_method_49_code
def yX11_paid : MethodName := ⟨RX11, "paid", "(III)I"⟩
abbrev cX11_got : ByteArray := prog_13_method_50_code
def yX11_got : MethodName := ⟨RX11, "got", "(II)I"⟩
abbrev cX11_owedOf : ByteArray := prog_13_method_51_code
def yX11_owedOf : MethodName := ⟨RX11, "owedOf", "(I)I"⟩
abbrev cX11_owed : ByteArray := prog_13_method_52_code
def yX11_owed : MethodName := ⟨RX11, "owed", "(II)I"⟩
abbrev cX11_state : ByteArray := prog_13_method_53_code
def yX11_state : MethodName := ⟨RX11, "state", "(II)I"⟩
abbrev cX11_sold : ByteArray := prog_13_method_54_code
def yX11_sold : MethodName := ⟨RX11, "sold", "(III)Z"⟩
abbrev cX11_groupOf : ByteArray := prog_13_method_55_code
def yX11_groupOf : MethodName := ⟨RX11, "groupOf", "(I)I"⟩
abbrev cX11_years : ByteArray := prog_13_method_56_code
def yX11_years : MethodName := ⟨RX11, "years", "(III)V"⟩
abbrev cX11_lived : ByteArray := prog_13_method_57_code
def yX11_lived : MethodName := ⟨RX11, "lived", "(III)I"⟩
abbrev cX11_own : ByteArray := prog_13_method_58_code
def yX11_own : MethodName := ⟨RX11, "own", "(IIII)I"⟩
abbrev cX11_lay : ByteArray := prog_13_method_59_code
def yX11_lay : MethodName := ⟨RX11, "lay", "(I)V"⟩
abbrev cX11_liveOf : ByteArray := prog_13_method_60_code
def yX11_liveOf : MethodName := ⟨RX11, "liveOf", "(II)I"⟩
abbrev cX11_yearBack : ByteArray := prog_13_method_61_code
def yX11_yearBack : MethodName := ⟨RX11, "yearBack", "(II)I"⟩
abbrev cX11_worthOf : ByteArray := prog_13_method_62_code
def yX11_worthOf : MethodName := ⟨RX11, "worthOf", "(I)I"⟩
abbrev cX11_bothOf : ByteArray := prog_13_method_63_code
def yX11_bothOf : MethodName := ⟨RX11, "bothOf", "(II)I"⟩
abbrev cX11_worthOn : ByteArray := prog_13_method_64_code
def yX11_worthOn : MethodName := ⟨RX11, "worthOn", "(II)I"⟩
abbrev cX11_worth : ByteArray := prog_13_method_65_code
def yX11_worth : MethodName := ⟨RX11, "worth", "(III)I"⟩
abbrev cX11_names : ByteArray := prog_13_method_66_code
def yX11_names : MethodName := ⟨RX11, "names", "(I)I"⟩
abbrev cX11_named : ByteArray := prog_13_method_67_code
def yX11_named : MethodName := ⟨RX11, "named", "(I)I"⟩
abbrev cX11_riskOf : ByteArray := prog_13_method_68_code
def yX11_riskOf : MethodName := ⟨RX11, "riskOf", "(I)J"⟩
abbrev cX11_look : ByteArray := prog_13_method_69_code
def yX11_look : MethodName := ⟨RX11, "look", "(I)I"⟩
abbrev cX11_fails : ByteArray := prog_13_method_70_code
def yX11_fails : MethodName := ⟨RX11, "fails", "(I)J"⟩
abbrev cX11_risk : ByteArray := prog_13_method_71_code
def yX11_risk : MethodName := ⟨RX11, "risk", "(I)J"⟩
abbrev cX11_living : ByteArray := prog_13_method_72_code
def yX11_living : MethodName := ⟨RX11, "living", "(I)I"⟩
abbrev cX11_converts : ByteArray := prog_13_method_73_code
def yX11_converts : MethodName := ⟨RX11, "converts", "(I)I"⟩
abbrev cX11_count : ByteArray := prog_13_method_74_code
def yX11_count : MethodName := ⟨RX11, "count", "(I)I"⟩
def RJx29ce0 : String := "java/lang/Enum"
def TJx29ce0 : u_T := fun k => match k with
  | _ => ("", "", "", false)
def tyJx29ce0 : Nat → FieldType := fun k => match k with
  | _ => .int
abbrev wsJx29ce00 : List Cond := u_ws RJx29ce0 TJx29ce0 0
theorem nmJx29ce0 : ∀ a, a < 0 → ∀ b, b < 0 → a ≠ b → (TJx29ce0 a).2.1 ≠ (TJx29ce0 b).2.1 := by decide +kernel
theorem tyJx29ce0_ok : ∀ k, k < 0 → parseFieldDescriptor (TJx29ce0 k).2.2.1 = some (tyJx29ce0 k) := by decide +kernel
def RJ9 : String := "java/lang/Math"
def TJ9 : u_T := fun k => match k with
  | _ => ("", "", "", false)
def tyJ9 : Nat → FieldType := fun k => match k with
  | _ => .int
abbrev wsJ90 : List Cond := u_ws RJ9 TJ9 0
theorem nmJ9 : ∀ a, a < 0 → ∀ b, b < 0 → a ≠ b → (TJ9 a).2.1 ≠ (TJ9 b).2.1 := by decide +kernel
theorem tyJ9_ok : ∀ k, k < 0 → parseFieldDescriptor (TJ9 k).2.2.1 = some (tyJ9 k) := by decide +kernel
abbrev cJ9_max_7cf53 : ByteArray := prog_17_method_65_code
def yJ9_max_7cf53 : MethodName := ⟨RJ9, "max", "(II)I"⟩
abbrev cJ9_min_7cf53 : ByteArray := prog_17_method_69_code
def yJ9_min_7cf53 : MethodName := ⟨RJ9, "min", "(II)I"⟩
def RJ0 : String := "java/lang/String"
def TJ0 : u_T := fun k => match k with
  | _ => ("", "", "", false)
def tyJ0 : Nat → FieldType := fun k => match k with
  | _ => .int
abbrev wsJ00 : List Cond := u_ws RJ0 TJ0 0
theorem nmJ0 : ∀ a, a < 0 → ∀ b, b < 0 → a ≠ b → (TJ0 a).2.1 ≠ (TJ0 b).2.1 := by decide +kernel
theorem tyJ0_ok : ∀ k, k < 0 → parseFieldDescriptor (TJ0 k).2.2.1 = some (tyJ0 k) := by decide +kernel
abbrev cJ0_length_8abf5 : ByteArray := prog_19_method_54_code
def yJ0_length_8abf5 : MethodName := ⟨RJ0, "length", "()I"⟩
abbrev cJ0_charAt_5068e : ByteArray := prog_19_method_56_code
def yJ0_charAt_5068e : MethodName := ⟨RJ0, "charAt", "(I)C"⟩
abbrev cJ0_coder_7d493 : ByteArray := prog_19_method_152_code
def yJ0_coder_7d493 : MethodName := ⟨RJ0, "coder", "()B"⟩
abbrev cJ0_isLatin1_aae02 : ByteArray := prog_19_method_154_code
def yJ0_isLatin1_aae02 : MethodName := ⟨RJ0, "isLatin1", "()Z"⟩
abbrev cJ0_checkIndex_df160 : ByteArray := prog_19_method_155_code
def yJ0_checkIndex_df160 : MethodName := ⟨RJ0, "checkIndex", "(II)V"⟩
def RJ1 : String := "java/lang/StringLatin1"
def TJ1 : u_T := fun k => match k with
  | _ => ("", "", "", false)
def tyJ1 : Nat → FieldType := fun k => match k with
  | _ => .int
abbrev wsJ10 : List Cond := u_ws RJ1 TJ1 0
theorem nmJ1 : ∀ a, a < 0 → ∀ b, b < 0 → a ≠ b → (TJ1 a).2.1 ≠ (TJ1 b).2.1 := by decide +kernel
theorem tyJ1_ok : ∀ k, k < 0 → parseFieldDescriptor (TJ1 k).2.2.1 = some (tyJ1 k) := by decide +kernel
abbrev cJ1_charAt_3b067 : ByteArray := prog_20_method_2_code
def yJ1_charAt_3b067 : MethodName := ⟨RJ1, "charAt", "([BI)C"⟩
def RJ2 : String := "java/lang/StringUTF16"
def TJ2 : u_T := fun k => match k with
  | _ => ("", "", "", false)
def tyJ2 : Nat → FieldType := fun k => match k with
  | _ => .int
abbrev wsJ20 : List Cond := u_ws RJ2 TJ2 0
theorem nmJ2 : ∀ a, a < 0 → ∀ b, b < 0 → a ≠ b → (TJ2 a).2.1 ≠ (TJ2 b).2.1 := by decide +kernel
theorem tyJ2_ok : ∀ k, k < 0 → parseFieldDescriptor (TJ2 k).2.2.1 = some (tyJ2 k) := by decide +kernel
abbrev cJ2_getChar_3b067 : ByteArray := prog_21_method_5_code
def yJ2_getChar_3b067 : MethodName := ⟨RJ2, "getChar", "([BI)C"⟩
abbrev cJ2_length_9d52b : ByteArray := prog_21_method_6_code
def yJ2_length_9d52b : MethodName := ⟨RJ2, "length", "([B)I"⟩
abbrev cJ2_charAt_3b067 : ByteArray := prog_21_method_83_code
def yJ2_charAt_3b067 : MethodName := ⟨RJ2, "charAt", "([BI)C"⟩
abbrev cJ2_checkIndex_2214a : ByteArray := prog_21_method_91_code
def yJ2_checkIndex_2214a : MethodName := ⟨RJ2, "checkIndex", "(I[B)V"⟩
def RJ7 : String := "java/util/Arrays"
def TJ7 : u_T := fun k => match k with
  | _ => ("", "", "", false)
def tyJ7 : Nat → FieldType := fun k => match k with
  | _ => .int
abbrev wsJ70 : List Cond := u_ws RJ7 TJ7 0
theorem nmJ7 : ∀ a, a < 0 → ∀ b, b < 0 → a ≠ b → (TJ7 a).2.1 ≠ (TJ7 b).2.1 := by decide +kernel
theorem tyJ7_ok : ∀ k, k < 0 → parseFieldDescriptor (TJ7 k).2.2.1 = some (tyJ7 k) := by decide +kernel
abbrev cJ7_fill_53178 : ByteArray := prog_23_method_103_code
def yJ7_fill_53178 : MethodName := ⟨RJ7, "fill", "([II)V"⟩
def RJ3 : String := "jdk/internal/util/Preconditions"
def TJ3 : u_T := fun k => match k with
  | _ => ("", "", "", false)
def tyJ3 : Nat → FieldType := fun k => match k with
  | _ => .int
abbrev wsJ30 : List Cond := u_ws RJ3 TJ3 0
theorem nmJ3 : ∀ a, a < 0 → ∀ b, b < 0 → a ≠ b → (TJ3 a).2.1 ≠ (TJ3 b).2.1 := by decide +kernel
theorem tyJ3_ok : ∀ k, k < 0 → parseFieldDescriptor (TJ3 k).2.2.1 = some (tyJ3 k) := by decide +kernel
abbrev cJ3_checkIndex_8e157 : ByteArray := prog_25_method_11_code
def yJ3_checkIndex_8e157 : MethodName := ⟨RJ3, "checkIndex", "(IILjava/util/function/BiFunction;)I"⟩
def RL : String := "LifeRentsLaw"
abbrev cL_risk : ByteArray := method_3_code
def yL_risk : MethodName := ⟨RL, "risk", "(LLifeRents;I[J)I"⟩
abbrev cL_law : ByteArray := code
def yL_law : MethodName := ⟨RL, "law", "([I)Z"⟩
theorem tb1 : ∀ w ∈ tables_1_1, w ∈ lw_tbl := fun w h => List.mem_append_right _ (List.mem_append_left _ h)
theorem tb2 : ∀ w ∈ tables_1_2, w ∈ lw_tbl := fun w h => List.mem_append_right _ (List.mem_append_right _ (List.mem_append_left _ h))
theorem tb3 : ∀ w ∈ tables_1_3, w ∈ lw_tbl := fun w h => List.mem_append_right _ (List.mem_append_right _ (List.mem_append_right _ (List.mem_append_left _ h)))
theorem tb4 : ∀ w ∈ tables_1_4, w ∈ lw_tbl := fun w h => List.mem_append_right _ (List.mem_append_right _ (List.mem_append_right _ (List.mem_append_right _ (List.mem_append_left _ h))))
theorem tb5 : ∀ w ∈ tables_1_5, w ∈ lw_tbl := fun w h => List.mem_append_right _ (List.mem_append_right _ (List.mem_append_right _ (List.mem_append_right _ (List.mem_append_right _ (List.mem_append_left _ h)))))
theorem tb6 : ∀ w ∈ tables_1_6, w ∈ lw_tbl := fun w h => List.mem_append_right _ (List.mem_append_right _ (List.mem_append_right _ (List.mem_append_right _ (List.mem_append_right _ (List.mem_append_right _ (List.mem_append_left _ h))))))
theorem tb7 : ∀ w ∈ tables_1_7, w ∈ lw_tbl := fun w h => List.mem_append_right _ (List.mem_append_right _ (List.mem_append_right _ (List.mem_append_right _ (List.mem_append_right _ (List.mem_append_right _ (List.mem_append_right _ (h)))))))
theorem inX0 : ∀ w ∈ wsX00, w ∈ lw_tbl := fun w h => ((goodIn_r wsX00 [233, 235, 237] (by decide +kernel) (by decide +kernel)) w h).1
theorem inX1 : ∀ w ∈ wsX10, w ∈ lw_tbl := fun w h => ((goodIn_r wsX10 [283, 285, 287, 289, 291, 293, 295, 297, 299, 301] (by decide +kernel) (by decide +kernel)) w h).1
theorem inX2 : ∀ w ∈ wsX20, w ∈ lw_tbl := fun w h => ((goodIn_r wsX20 [402, 404, 406, 408, 410, 412, 414, 416, 418, 420, 422] (by decide +kernel) (by decide +kernel)) w h).1
theorem inX3 : ∀ w ∈ wsX30, w ∈ lw_tbl := fun w h => ((goodIn_r wsX30 [326, 328, 330, 332, 334, 336, 338, 340, 342, 344, 346] (by decide +kernel) (by decide +kernel)) w h).1
theorem inX4 : ∀ w ∈ wsX40, w ∈ lw_tbl := fun w h => ((goodIn_r wsX40 [202, 204, 206, 208, 210, 212, 214, 216] (by decide +kernel) (by decide +kernel)) w h).1
theorem inX5 : ∀ w ∈ wsX50, w ∈ lw_tbl := fun w h => ((goodIn_r wsX50 [255, 257, 259] (by decide +kernel) (by decide +kernel)) w h).1
theorem inX6 : ∀ w ∈ wsX60, w ∈ lw_tbl := fun w h => ((goodIn_r wsX60 [135, 137, 139, 141, 143, 145, 147, 149, 151, 153, 155, 157, 159, 161, 163, 165] (by decide +kernel) (by decide +kernel)) w h).1
theorem inX7 : ∀ w ∈ wsX70, w ∈ lw_tbl := fun w h => ((goodIn_r wsX70 [723, 725, 727, 729, 731, 733, 735] (by decide +kernel) (by decide +kernel)) w h).1
theorem inX8 : ∀ w ∈ wsX80, w ∈ lw_tbl := fun w h => ((goodIn_r wsX80 [368, 370, 372, 374, 376, 378, 380] (by decide +kernel) (by decide +kernel)) w h).1
theorem inX10 : ∀ w ∈ wsX100, w ∈ lw_tbl := fun w h => ((goodIn_r wsX100 [435, 437, 439, 441, 443, 445, 447, 449, 451, 453] (by decide +kernel) (by decide +kernel)) w h).1
theorem inX11 : ∀ w ∈ wsX110, w ∈ lw_tbl := fun w h => ((goodIn_r wsX110 [1208, 1210, 1212, 1214, 1216, 1218, 1220, 1222, 1224, 1226, 1228, 1230, 1232, 1234, 1236, 1238, 1240, 1242, 1244, 1246, 1248, 1250, 1252, 1254, 1256, 1258, 1260, 1262, 1264, 1266, 1268, 1270, 1272, 1274, 1276, 1278, 1280, 1282, 1284, 1286, 1288, 1290, 1292, 1294, 1296, 1298, 1300, 1302, 1304, 1306, 1308, 1310, 1312, 1314, 1316, 1318, 1320, 1322] (by decide +kernel) (by decide +kernel)) w h).1
end
section
def gt : List Cond := lw_tbl.filter goodWord
theorem gt_mem {w : Cond} (h : w ∈ lw_tbl) (hg : goodWord w = true) : w ∈ gt := List.mem_filter.mpr ⟨h, hg⟩
theorem gt_good {w : Cond} (h : w ∈ gt) : (w.onTables && w.keeps) = true ∨ ∃ ty, w = .arrayClass ty := good_of_word (List.mem_filter.mp h).2
theorem gt_tbl {w : Cond} (h : w ∈ gt) : w ∈ lw_tbl := (List.mem_filter.mp h).1
theorem gt_all {ws : List Cond} (h : ∀ w ∈ ws, w ∈ lw_tbl) (hg : ws.all goodWord = true) : ∀ w ∈ ws, w ∈ gt := fun w hw => gt_mem (h w hw) (List.all_eq_true.mp hg w hw)
abbrev fr_cls : List vw_C := [(RX0, TX0, 3), (RX1, TX1, 10), (RX2, TX2, 11), (RX3, TX3, 11), (RX4, TX4, 8), (RX5, TX5, 3), (RX6, TX6, 16), (RX7, TX7, 7), (RX8, TX8, 7), (RX5, TX5, 3), (RX10, TX10, 10), (RX11, TX11, 58)]
theorem fr_in {ci : Nat} {q : vw_C} (h : fr_cls[ci]? = some q) : ∀ w ∈ u_ws q.1 q.2.1 q.2.2, w ∈ gt := by
  match ci, h with
  | 0, h => cases h; exact gt_all inX0 (by decide +kernel)
  | 1, h => cases h; exact gt_all inX1 (by decide +kernel)
  | 2, h => cases h; exact gt_all inX2 (by decide +kernel)
  | 3, h => cases h; exact gt_all inX3 (by decide +kernel)
  | 4, h => cases h; exact gt_all inX4 (by decide +kernel)
  | 5, h => cases h; exact gt_all inX5 (by decide +kernel)
  | 6, h => cases h; exact gt_all inX6 (by decide +kernel)
  | 7, h => cases h; exact gt_all inX7 (by decide +kernel)
  | 8, h => cases h; exact gt_all inX8 (by decide +kernel)
  | 9, h => cases h; exact gt_all inX5 (by decide +kernel)
  | 10, h => cases h; exact gt_all inX10 (by decide +kernel)
  | 11, h => cases h; exact gt_all inX11 (by decide +kernel)
  | k + 12, h => simp [fr_cls] at h
def fr_ty (ci : Nat) : Nat → FieldType := match ci with
  | 0 => tyX0 | 1 => tyX1 | 2 => tyX2 | 3 => tyX3 | 4 => tyX4 | 5 => tyX5 | 6 => tyX6 | 7 => tyX7 | 8 => tyX8 | 9 => tyX5 | 10 => tyX10 | _ => tyX11
theorem fr_tn {ci : Nat} {q : vw_C} (h : fr_cls[ci]? = some q) : (∀ k, k < q.2.2 → parseFieldDescriptor (q.2.1 k).2.2.1 = some (fr_ty ci k)) ∧ (∀ a, a < q.2.2 → ∀ b, b < q.2.2 → a ≠ b → (q.2.1 a).2.1 ≠ (q.2.1 b).2.1) := by
  match ci, h with
  | 0, h => cases h; exact ⟨tyX0_ok, nmX0⟩
  | 1, h => cases h; exact ⟨tyX1_ok, nmX1⟩
  | 2, h => cases h; exact ⟨tyX2_ok, nmX2⟩
  | 3, h => cases h; exact ⟨tyX3_ok, nmX3⟩
  | 4, h => cases h; exact ⟨tyX4_ok, nmX4⟩
  | 5, h => cases h; exact ⟨tyX5_ok, nmX5⟩
  | 6, h => cases h; exact ⟨tyX6_ok, nmX6⟩
  | 7, h => cases h; exact ⟨tyX7_ok, nmX7⟩
  | 8, h => cases h; exact ⟨tyX8_ok, nmX8⟩
  | 9, h => cases h; exact ⟨tyX5_ok, nmX5⟩
  | 10, h => cases h; exact ⟨tyX10_ok, nmX10⟩
  | 11, h => cases h; exact ⟨tyX11_ok, nmX11⟩
  | k + 12, h => simp [fr_cls] at h
abbrev fr_V : Type := Nat → Nat → Int32
abbrev fr_U : Type := Nat → Nat → Int64
def up2 (v : fr_V) (k i : Nat) (x : Int32) : fr_V := fun a => if a = k then upd (v k) i x else v a
def up3 (u : fr_U) (k i : Nat) (x : Int64) : fr_U := fun a => if a = k then vp_updL (u k) i x else u a
/-- the kind of each field: 0 a number, 1 a fixed cell, 2 a cell that may change -/
def fk (ci j : Nat) : Nat :=
  if ci = 11 then (if [1,2,3,4,7,14,16,23,24,25,26,27,28,29,38,39,42,43,48,49,50,52].contains j then 0 else 1)
  else if ci = 10 then (if j = 3 then 0 else if j = 1 then 2 else if j = 2 then 2 else 1)
  else if ci = 0 then (if j = 1 then 0 else 1)
  else if ci = 1 then (if j = 5 then 0 else if j = 6 then 0 else 1)
  else if ci = 2 then (if [3,5,6,7,8,10].contains j then 0 else 1)
  else if ci = 3 then (if [2,8,10].contains j then 0 else 1)
  else if ci = 4 then (if j = 0 then 2 else 0)
  else if ci = 5 then (if j = 2 then 0 else 1)
  else if ci = 6 then (if j = 0 then 1 else if [3,6,7,13].contains j then 2 else 0)
  else if ci = 7 then (if j = 6 then 1 else 0)
  else if ci = 8 then (if j = 3 then 0 else if j = 4 then 0 else 1)
  else 1
def nfd (ci : Nat) : Nat := match fr_cls[ci]? with
  | some q => q.2.2
  | none => 0
/-- which cell a fixed field names: the array of the field j of the object k stands at k + 1 + j -/
def sref (k j : Nat) : Nat :=
  if k = 1000 then (if j = 0 then 600 else if j = 4 then 500 else if j = 5 then 100 else if j = 6 then 300 else if j = 7 then 900 else if j = 8 then 200 else k + 1 + j)
  else if k = 100 then (if j = 0 then 500 else k + 1 + j)
  else if k = 300 then (if j = 0 then 100 else k + 1 + j)
  else if k = 900 then (if j = 0 then 500 else if j = 1 then 100 else k + 1 + j)
  else k + 1 + j
/-- what a cell is: below 20 an object of that number, 20 ints, 21 booleans, 22 longs, 23 Lines, 24 Rents, 25 rows of ints; and its length -/
def sh (k : Nat) : Nat × Nat :=
  if 2000 ≤ k then (if k % 10 = 0 then (7, 0) else (20, 80))
  else if 1100 ≤ k then
    (if k = 1100 then (11, 0) else if k = 1101 then (20, 500) else if k = 1106 then (20, 12) else if k = 1107 then (20, 12)
     else if k = 1116 then (20, 200) else if k = 1122 then (20, 40) else if k = 1123 then (20, 75)
     else if k = 1141 then (20, 8) else if k = 1142 then (21, 4) else if k = 1145 then (21, 60) else if k = 1146 then (20, 12) else if k = 1147 then (20, 1280) else if k = 1148 then (20, 8)
     else if k = 1152 then (20, 40) else if 1154 ≤ k then (20, 12) else if 1131 ≤ k then (20, 48) else if 1118 ≤ k then (20, 60) else (20, 16))
  else if 1000 ≤ k then (if k = 1000 then (10, 0) else (22, 12))
  else if 900 ≤ k then (if k = 900 then (8, 0) else if k = 903 then (25, 4) else if k = 950 then (22, 1) else (20, 10))
  else if 600 ≤ k then (if k = 600 then (6, 0) else (20, 500))
  else if 500 ≤ k then (if k = 500 then (5, 0) else (20, 12))
  else if 400 ≤ k then (4, 0)
  else if 300 ≤ k then (if k = 300 then (3, 0) else if k = 302 then (24, 16) else if k = 310 then (20, 8) else (20, 40))
  else if 200 ≤ k then (if k = 200 then (2, 0) else (20, 12))
  else if 100 ≤ k then (if k = 100 then (1, 0) else if k = 108 then (21, 60) else if k = 109 then (21, 60) else if k = 110 then (20, 12) else (20, 60))
  else (if k = 10 then (0, 0) else if k = 20 then (0, 0) else if k = 11 then (23, 24) else if k = 21 then (23, 24) else (20, 4))
/-- the first cell of an array of cells whose rows are fixed -/
def shb (k : Nat) : Nat := if k = 11 then 400 else if k = 21 then 430 else 910
def rq (L : Nat → Nat) (x : Int32) : Option Nat := if x < 0 then none else some (L x.toNatClampNeg)
def fv (L : Nat → Nat) (k ci j : Nat) (x : Int32) : Value := if fk ci j = 0 then .int x else if fk ci j = 1 then .ref (L (sref k j)) else va_rf (rq L x)
def fsl (L : Nat → Nat) (k ci : Nat) (f : Nat → Int32) : List Value := (List.range (nfd ci)).map (fun j => fv L k ci j (f j))
def ent (L : Nat → Nat) (cA : Nat → ClassId) (k : Nat) (f : Nat → Int32) (g : Nat → Int64) : va_E :=
  if (sh k).1 = 20 then .inl (cA 0, (sh k).2, .inl f)
  else if (sh k).1 = 21 then .inl (cA 1, (sh k).2, .inl f)
  else if (sh k).1 = 22 then .inl (cA 2, (sh k).2, .inr (.inl g))
  else if (sh k).1 = 23 then .inl (cA 3, (sh k).2, .inr (.inr (.inr (.inr (fun i => some (L (shb k + i)))))))
  else if (sh k).1 = 24 then .inl (cA 4, (sh k).2, .inr (.inr (.inr (.inr (fun i => rq L (f i))))))
  else if (sh k).1 = 25 then .inl (cA 5, (sh k).2, .inr (.inr (.inr (.inr (fun i => some (L (shb k + i)))))))
  else .inr ((sh k).1, fsl L k (sh k).1 f)
def fr_tys (cA : Nat → ClassId) : List (ClassId × FieldType) := [(cA 0, .int), (cA 1, .boolean), (cA 2, .long), (cA 3, .object RX4), (cA 4, .object RX7), (cA 5, .array .int)]
def mw (L : Nat → Nat) (cA : Nat → ClassId) (I : List Nat) (v : fr_V) (u : fr_U) : va_W := I.map (fun k => (L k, ent L cA k (v k) (u k)))
def Aw (L : Nat → Nat) (I : List Nat) : Nat → Prop := fun q => ∃ k, k ∈ I ∧ q = L k
theorem mw_get {L : Nat → Nat} {cA : Nat → ClassId} {I : List Nat} {v : fr_V} {u : fr_U} {k : Nat} (h : k ∈ I) : ∃ q : Nat, I[q]? = some k ∧ (mw L cA I v u)[q]? = some (L k, ent L cA k (v k) (u k)) := by
  obtain ⟨q, hq⟩ := List.getElem?_of_mem h
  exact ⟨q, hq, by simp [mw, hq]⟩
theorem mw_nd {L : Nat → Nat} {cA : Nat → ClassId} {I : List Nat} {v : fr_V} {u : fr_U} {A : Nat → Prop} (hD : va_D A (mw L cA I v u)) {i j k : Nat} (hi : I[i]? = some k) (hj : I[j]? = some k) : i = j :=
  hD.1 i j (L k, ent L cA k (v k) (u k)) (L k, ent L cA k (v k) (u k)) (by simp [mw, hi]) (by simp [mw, hj]) rfl
theorem ml_set {α β : Type} {f g : α → β} {I : List α} {q : Nat} {k : α} {x : β} (hq : I[q]? = some k) (hnd : ∀ i, I[i]? = some k → q = i) (hk : g k = x) (h : ∀ a, a ≠ k → g a = f a) : (I.map f).set q x = I.map g := by
  apply List.ext_getElem?
  intro i
  have hql : q < I.length := (List.getElem?_eq_some_iff.mp hq).1
  by_cases hi : q = i
  · subst hi
    rw [List.getElem?_set_self (by rw [List.length_map]; exact hql), List.getElem?_map, hq, Option.map_some, hk]
  · rw [List.getElem?_set_ne hi, List.getElem?_map, List.getElem?_map]
    cases ha : I[i]? with
    | none => rfl
    | some a =>
      have hne : a ≠ k := fun e => hi (hnd i (by rw [ha, e]))
      rw [Option.map_some, Option.map_some, h a hne]
theorem mw_set {L : Nat → Nat} {cA : Nat → ClassId} {I : List Nat} {v v' : fr_V} {u u' : fr_U} {A : Nat → Prop} (hD : va_D A (mw L cA I v u)) {q k : Nat} {e : va_E} (hq : I[q]? = some k) (hk : ent L cA k (v' k) (u' k) = e) (hv : ∀ a, a ≠ k → v' a = v a) (hu : ∀ a, a ≠ k → u' a = u a) : (mw L cA I v u).set q (L k, e) = mw L cA I v' u' :=
  ml_set hq (fun i hi => mw_nd hD hq hi) (by rw [hk]) (fun a ha => by rw [hv a ha, hu a ha])
theorem mw_D {L : Nat → Nat} {cA : Nat → ClassId} {I : List Nat} {v v' : fr_V} {u u' : fr_U} {A : Nat → Prop} (hD : va_D A (mw L cA I v u)) : va_D A (mw L cA I v' u') := by
  have h : ∀ (i : Nat) (p : Nat × va_E), (mw L cA I v' u')[i]? = some p → ∃ e, (mw L cA I v u)[i]? = some (p.1, e) := by
    intro i p hp
    simp only [mw, List.getElem?_map] at hp ⊢
    cases ha : I[i]? with
    | none => rw [ha] at hp; cases hp
    | some a =>
      rw [ha] at hp
      cases hp
      exact ⟨_, rfl⟩
  refine ⟨fun i j p q hp hq hpq => ?_, fun k q hq => ?_⟩
  · obtain ⟨e1, h1⟩ := h i p hp
    obtain ⟨e2, h2⟩ := h j q hq
    exact hD.1 i j _ _ h1 h2 hpq
  · obtain ⟨e1, h1⟩ := h k q hq
    exact hD.2 k (q.1, e1) h1
end
section
def fr_nm : List String := ["MAY", "BAR", "PRICE", "LUMP", "ARREARS", "WAIT", "RATE", "CAP", "AGE", "CLASS", "HALF", "JOINT", "SINGLE", "TO", "OR"]
def fr_F : List (String × String × String × List Int32) := [("LifeRents$Word", "role", "I", [0,0,0,0,1,1,1,1,2,2,2,2,2,3,3]), ("LifeRents$Word", "least", "I", [0,0,1,0,0,0,2,1,0,0,0,0,0,0,0]), ("LifeRents$Word", "most", "I", [0,0,9999,200,40,9,99,3,130,3,79,0,0,0,0]), ("LifeRents$Word", "slot", "I", [-1,-1,-1,-1,0,1,2,3,-1,-1,-1,-1,-1,-1,-1])]
def fr_us (j : Nat) : Int32 := if j = 0 then 4 else if j = 1 then 0 else if j = 2 then 20 else 3
def fr_len : List Nat := [3,3,5,4,7,4,4,3,3,5,4,5,6,2,2]
def fr_byt : List (List Int32) := [[109,97,121],[98,97,114],[112,114,105,99,101],[108,117,109,112],[97,114,114,101,97,114,115],[119,97,105,116],[114,97,116,101],[99,97,112],[97,103,101],[99,108,97,115,115],[104,97,108,102],[106,111,105,110,116],[115,105,110,103,108,101],[116,111],[111,114]]
def fr_N (U : State) : Prop := va_Nw (.methodLinkNest "LifeRents" 9 ⟨"LifeRents$Reader", "<init>", "()V"⟩ "LifeRents") U ∧ va_Nw (.fieldLinkNest "LifeRents$Acts" 17 "LifeRents" "USUAL_SETTINGS" "[I" "LifeRents") U ∧ va_Nw (.methodLinkNest "LifeRents$Acts" 24 ⟨"LifeRents$Line", "<init>", "()V"⟩ "LifeRents") U ∧ va_Nw (.methodLinkNest "LifeRents" 28 ⟨"LifeRents$People", "<init>", "()V"⟩ "LifeRents") U ∧ va_Nw (.methodLinkNest "LifeRents" 62 ⟨"LifeRents$Buyer", "<init>", "()V"⟩ "LifeRents") U ∧ va_Nw (.fieldLinkNest "LifeRents$Reader" 104 "LifeRents" "WORDS" "[LLifeRents$Word;" "LifeRents") U ∧ va_Nw (.methodLinkNest "LifeRents$Tables" 95 ⟨"LifeRents", "groupOf", "(I)I"⟩ "LifeRents") U
theorem fr_N.warm {s U : State} (hW : s.WarmedH U.vm) (h : fr_N s) : fr_N U := ⟨va_Nw.warmM hW h.1, va_Nw.warmF hW h.2.1, va_Nw.warmM hW h.2.2.1, va_Nw.warmM hW h.2.2.2.1, va_Nw.warmM hW h.2.2.2.2.1, va_Nw.warmF hW h.2.2.2.2.2.1, va_Nw.warmM hW h.2.2.2.2.2.2⟩
theorem fr_N.same {u U : State} (e : u.vm = U.vm) (h : fr_N u) : fr_N U := ⟨va_Nw.same rfl e h.1, va_Nw.same rfl e h.2.1, va_Nw.same rfl e h.2.2.1, va_Nw.same rfl e h.2.2.2.1, va_Nw.same rfl e h.2.2.2.2.1, va_Nw.same rfl e h.2.2.2.2.2.1, va_Nw.same rfl e h.2.2.2.2.2.2⟩
def fr_X (L : Nat → Nat) (A : Nat → Prop) (U : State) (H : Heap) : Prop :=
  va_En "LifeRents$Word" "LLifeRents$Word;" fr_nm fr_F (fun i => L (3000 + i)) A U H ∧ va_Ef 15 "LifeRents$Word" "text" "Ljava/lang/String;" (fun i => .ref (L (3100 + i))) (fun i => L (3000 + i)) A U H ∧
  va_Z "LifeRents" "USUAL_SETTINGS" "[I" (.ref (L 3200)) A U H ∧ va_T .int (L 3200) 4 (fun j => .int (fr_us j)) A U H ∧
  va_Z "LifeRents" "WORDS" "[LLifeRents$Word;" (.ref (L 3201)) A U H ∧ va_T (.object "LifeRents$Word") (L 3201) 15 (fun j => .ref (L (3000 + j))) A U H ∧
  vk_S 15 fr_len fr_byt (fun i => L (3100 + i)) (fun i => L (3300 + i)) A U H ∧ va_Z "java/lang/String" "COMPACT_STRINGS" "Z" (.int 1) A U H ∧ va_Zq "jdk/internal/util/Preconditions" "SIOOBE_FORMATTER" "Ljava/util/function/BiFunction;" A U H ∧ fr_N U
theorem fr_X.moved {L : Nat → Nat} {A : Nat → Prop} {u U : State} {H : Heap} (hvm : u.vm.Alike U.vm) (hN : fr_N U) (h : fr_X L A u H) : fr_X L A U H :=
  ⟨va_En.moved hvm h.1, va_Ef.moved hvm h.2.1, va_Z.moved hvm h.2.2.1, va_T.moved hvm h.2.2.2.1, va_Z.moved hvm h.2.2.2.2.1, va_T.moved hvm h.2.2.2.2.2.1, vk_S.moved hvm h.2.2.2.2.2.2.1, va_Z.moved hvm h.2.2.2.2.2.2.2.1, va_Zq.moved hvm h.2.2.2.2.2.2.2.2.1, hN⟩
theorem fr_X.warm {L : Nat → Nat} {A : Nat → Prop} {u U : State} {H : Heap} (hW : u.WarmedH U.vm) (h : fr_X L A u H) : fr_X L A U H := h.moved hW.alike (h.2.2.2.2.2.2.2.2.2.warm hW)
theorem fr_X.same {L : Nat → Nat} {A : Nat → Prop} {u U : State} {H : Heap} (e : u.vm = U.vm) (h : fr_X L A u H) : fr_X L A U H := h.moved (e ▸ Vm.Alike.refl u.vm) (h.2.2.2.2.2.2.2.2.2.same e)
theorem fr_X.kept {L : Nat → Nat} {A : Nat → Prop} {U : State} {H H1 : Heap} (h : fr_X L A U H) (hq : ∀ a : Nat, a < H.size → ¬ A a → H1[a]? = H[a]?) : fr_X L A U H1 :=
  ⟨h.1.kept hq, h.2.1.kept hq, h.2.2.1.kept hq, h.2.2.2.1.kept hq, h.2.2.2.2.1.kept hq, h.2.2.2.2.2.1.kept hq, h.2.2.2.2.2.2.1.kept hq, h.2.2.2.2.2.2.2.1.kept hq, h.2.2.2.2.2.2.2.2.1.elim (fun z => Or.inl (z.kept hq)) (fun ⟨t, z⟩ => Or.inr ⟨t, z.kept hq⟩), h.2.2.2.2.2.2.2.2.2⟩
def cv (L : Nat → Nat) : Value → Value
  | .ref a => .ref (L a)
  | x => x
def cvp (L : Nat → Nat) (q : Nat × Value) : Nat × Value := (q.1, cv L q.2)
theorem cv_cat (L : Nat → Nat) (x : Value) : (cv L x).category = x.category := by cases x <;> rfl
theorem cv_sl (L : Nat → Nat) (xs : List Value) : (lg_sl (xs.map (cv L))).length = (lg_sl xs).length := by
  induction xs with
  | nil => rfl
  | cons a t ih =>
    simp only [lg_sl, List.map_cons, List.flatMap_cons, List.length_append, cv_cat] at ih ⊢
    rw [ih]
    split <;> rfl
theorem cv_args (L : Nat → Nat) (xs : List Value) : ∀ i, lv_args i (xs.map (cv L)) = (lv_args i xs).map (cvp L) := by
  induction xs with
  | nil => intro i; rfl
  | cons a t ih =>
    intro i
    simp only [lv_args, List.map_cons, cv_cat, ih]
    rfl
theorem cv_sum (L : Nat → Nat) (xs : List Value) : ((xs.map (cv L)).map fun v => v.category).sum = (xs.map fun v => v.category).sum := by
  induction xs with
  | nil => rfl
  | cons a t ih => simp only [List.map_cons, List.sum_cons, cv_cat, ih]
theorem cvp_filter (L : Nat → Nat) (f : Nat → Nat → Bool) (lv : List (Nat × Value)) : (lv.map (cvp L)).filter (fun q => f q.1 q.2.category) = (lv.filter (fun q => f q.1 q.2.category)).map (cvp L) := by
  induction lv with
  | nil => rfl
  | cons a t ih =>
    have h : f (cvp L a).1 (cvp L a).2.category = f a.1 a.2.category := by simp only [cvp, cv_cat]
    simp only [List.map_cons, List.filter_cons, h]
    split
    · rw [List.map_cons, ih]
    · exact ih
/-- a method: its name, its code, its locals, what it answers, the frames and the words of locals below it -/
abbrev fr_M : Type := MethodName × ByteArray × Nat × Option FieldType × Nat × Nat
def fr_rm (y : fr_M) : Room := { frames := y.2.2.2.2.1, cells := 0, slots := 0, locals := y.2.2.2.2.2 }
def fr_ws (y : fr_M) : List Cond := Cond.code y.1 y.2.1 y.2.2.1 y.2.2.2.1 :: gt
def fr_C (L : Nat → Nat) (cA : Nat → ClassId) (D : va_G) (I : List Nat) (y : fr_M) (p : Program) (s : State) (m : MethodId) (args : Array Value) (meth : Method) (c : Code) : Prop :=
  p.tables.exec = Jvm.exec ∧ c.code = y.2.1 ∧ meth.sig.returnType = y.2.2.2.1 ∧ c.maxLocals = y.2.2.1 ∧ s.vm.findClass y.1.cls = some m.cls ∧ meth.locks = false ∧ (∀ w ∈ gt, w.before args s = true) ∧ fr_X L (Aw L I) s s.heap ∧ va_K D fr_cls (fr_tys cA) s
def fr_P (L : Nat → Nat) (cA : Nat → ClassId) (D : va_G) (I : List Nat) (v : fr_V) (u : fr_U) (U : State) : Prop :=
  va_P D fr_cls (mw L cA I v u) U.heap ∧ va_K D fr_cls (fr_tys cA) U ∧ va_D (Aw L I) (mw L cA I v u) ∧ fr_X L (Aw L I) U U.heap
def fr_Q (L : Nat → Nat) (cA : Nat → ClassId) (D : va_G) (I : List Nat) (Q : Option Value → fr_V → fr_U → Prop) : Array Value → State → Outcome → State → Prop := fun _ st oc t =>
  (∃ (r : Option Value) (v : fr_V) (u : fr_U), oc = .returned (r.map (cv L)) ∧ Q r v u ∧ va_P D fr_cls (mw L cA I v u) t.heap ∧ va_K D fr_cls (fr_tys cA) t) ∧ va_F (Aw L I) st t
def J (l : Launch) (y : fr_M) (I : List Nat) (v : fr_V) (u : fr_U) (pc : Nat) (lv : List (Nat × Value)) (st : List Value) (Q : Option Value → fr_V → fr_U → Prop) : Prop :=
  ∀ (L : Nat → Nat) (cA : Nat → ClassId) (D : va_G) (p : Program) (e : Env) (s : State) (m : MethodId) (args : Array Value) (below : List Frame) (meth : Method) (c : Code) (H : Heap) (locs : List Loc) (ls : Array Slot),
    fr_C L cA D I y p s m args meth c → va_P D fr_cls (mw L cA I v u) H → va_D (Aw L I) (mw L cA I v u) → va_S (Aw L I) s.heap H locs → lv_has ls y.2.2.1 (lv.map (cvp L)) →
    W p l e (fr_rm y) s m args below meth c H locs 0 0 (MQ below (fr_Q L cA D I Q) args s 0 0 (Aw L I)) (F0 m pc ls (st.map (cv L)))
def Con (l : Launch) (y : fr_M) (I : List Nat) (v : fr_V) (u : fr_U) (args : List Value) (Q : Option Value → fr_V → fr_U → Prop) : Prop :=
  ∀ (L : Nat → Nat) (cA : Nat → ClassId) (D : va_G), Met l y.1 (fr_ws y) (fr_rm y) (va_Pc (args.map (cv L)) (fr_P L cA D I v u)) (fr_Q L cA D I Q) 0 0 (Aw L I)
section FRJ
variable {l : Launch} {y : fr_M} {I : List Nat} {v : fr_V} {u : fr_U} {Q : Option Value → fr_V → fr_U → Prop}
theorem Con.of {args : List Value} (hy : plainName y.1.cls = true) (hn : (lg_sl args).length ≤ y.2.2.1) (h : J l y I v u 0 (lv_args 0 args) [] Q) : Con l y I v u args Q := by
  intro L cA D
  refine Met.ofW (cc := y.2.1) (maxL := y.2.2.1) (ret := y.2.2.2.1) hy rfl ?_
  intro p e s m args' below meth c s₁ B hml hv
  obtain ⟨rfl, hP, hK, hD, hX⟩ := hv
  have hts := atoms_spec (ws := fr_ws y) B.pre
  have hl := lv_entry (args.map (cv L)) (n := y.2.2.1) (by rw [cv_sl]; exact hn)
  rw [lg_entry_eq]
  rw [cv_args] at hl
  exact h L cA D p e s m _ below meth c s.heap [] _ ⟨B.exec, B.bytes, B.returns, hml, findClass_of_methodNamed B.named, B.notSynchronized, fun w hw => hts w (List.mem_cons_of_mem _ hw), hX, hK⟩ hP hD va_S.rf hl
theorem Con.mono {args : List Value} {Q' : Option Value → fr_V → fr_U → Prop} (h : Con l y I v u args Q) (hq : ∀ r v' u', Q r v' u' → Q' r v' u') : Con l y I v u args Q' := by
  intro L cA D
  have hM := h L cA D
  intro p e ha hc hk s m as below hf hfit hheap hpre
  obtain ⟨k, o, h1, h2, h3, ⟨⟨r, v', u', e1, e2, e3⟩, e4⟩, e5⟩ := hM p e ha hc hk s m as below hf hfit hheap hpre
  exact ⟨k, o, h1, h2, h3, ⟨⟨r, v', u', e1, hq r v' u' e2, e3⟩, e4⟩, e5⟩
variable {pc : Nat} {lv : List (Nat × Value)} {st : List Value}
theorem J_iconst {n : Int} {x : Int32} (d : decode y.2.1 pc = .ok (.iconst n, 1)) (h : Int32.ofInt n = x) (k : J l y I v u (pc + 1) lv (.int x :: st) Q) : J l y I v u pc lv (st) Q :=
  fun L cA D p e s m args below meth c H locs ls C hP hD hS hl => lv_iconst C.1 C.2.1 d h (k L cA D p e s m args below meth c H locs ls C hP hD hS hl)
theorem J_bipush {n : Int} {x : Int32} (d : decode y.2.1 pc = .ok (.bipush n, 2)) (h : (Int8.ofInt n).toInt32 = x) (k : J l y I v u (pc + 2) lv (.int x :: st) Q) : J l y I v u pc lv (st) Q :=
  fun L cA D p e s m args below meth c H locs ls C hP hD hS hl => lv_bipush C.1 C.2.1 d h (k L cA D p e s m args below meth c H locs ls C hP hD hS hl)
theorem J_sipush {n : Int} {x : Int32} (d : decode y.2.1 pc = .ok (.sipush n, 3)) (h : (Int16.ofInt n).toInt32 = x) (k : J l y I v u (pc + 3) lv (.int x :: st) Q) : J l y I v u pc lv (st) Q :=
  fun L cA D p e s m args below meth c H locs ls C hP hD hS hl => lv_sipush C.1 C.2.1 d h (k L cA D p e s m args below meth c H locs ls C hP hD hS hl)
theorem J_lconst {n : Fin 2} {x : Int64} (d : decode y.2.1 pc = .ok (.lconst n, 1)) (h : Int64.ofNat (n : Nat) = x) (k : J l y I v u (pc + 1) lv (.long x :: st) Q) : J l y I v u pc lv (st) Q :=
  fun L cA D p e s m args below meth c H locs ls C hP hD hS hl => lv_lconst C.1 C.2.1 d h (k L cA D p e s m args below meth c H locs ls C hP hD hS hl)
theorem J_null  (d : decode y.2.1 pc = .ok (.aconst_null, 1))  (k : J l y I v u (pc + 1) lv (.null :: st) Q) : J l y I v u pc lv (st) Q :=
  fun L cA D p e s m args below meth c H locs ls C hP hD hS hl => lv_null C.1 C.2.1 d  (k L cA D p e s m args below meth c H locs ls C hP hD hS hl)
theorem J_iadd {a b : Int32} (d : decode y.2.1 pc = .ok (.iadd, 1))  (k : J l y I v u (pc + 1) lv (.int (a + b) :: st) Q) : J l y I v u pc lv (.int b :: .int a :: st) Q :=
  fun L cA D p e s m args below meth c H locs ls C hP hD hS hl => lv_iadd C.1 C.2.1 d  (k L cA D p e s m args below meth c H locs ls C hP hD hS hl)
theorem J_isub {a b : Int32} (d : decode y.2.1 pc = .ok (.isub, 1))  (k : J l y I v u (pc + 1) lv (.int (a - b) :: st) Q) : J l y I v u pc lv (.int b :: .int a :: st) Q :=
  fun L cA D p e s m args below meth c H locs ls C hP hD hS hl => lv_isub C.1 C.2.1 d  (k L cA D p e s m args below meth c H locs ls C hP hD hS hl)
theorem J_imul {a b : Int32} (d : decode y.2.1 pc = .ok (.imul, 1))  (k : J l y I v u (pc + 1) lv (.int (a * b) :: st) Q) : J l y I v u pc lv (.int b :: .int a :: st) Q :=
  fun L cA D p e s m args below meth c H locs ls C hP hD hS hl => lv_imul C.1 C.2.1 d  (k L cA D p e s m args below meth c H locs ls C hP hD hS hl)
theorem J_iand {a b : Int32} (d : decode y.2.1 pc = .ok (.iand, 1))  (k : J l y I v u (pc + 1) lv (.int (a &&& b) :: st) Q) : J l y I v u pc lv (.int b :: .int a :: st) Q :=
  fun L cA D p e s m args below meth c H locs ls C hP hD hS hl => lv_iand C.1 C.2.1 d  (k L cA D p e s m args below meth c H locs ls C hP hD hS hl)
theorem J_ior {a b : Int32} (d : decode y.2.1 pc = .ok (.ior, 1))  (k : J l y I v u (pc + 1) lv (.int (a ||| b) :: st) Q) : J l y I v u pc lv (.int b :: .int a :: st) Q :=
  fun L cA D p e s m args below meth c H locs ls C hP hD hS hl => lv_ior C.1 C.2.1 d  (k L cA D p e s m args below meth c H locs ls C hP hD hS hl)
theorem J_idiv {a b : Int32} (d : decode y.2.1 pc = .ok (.idiv, 1)) (h : ¬ b = 0) (k : J l y I v u (pc + 1) lv (.int (a / b) :: st) Q) : J l y I v u pc lv (.int b :: .int a :: st) Q :=
  fun L cA D p e s m args below meth c H locs ls C hP hD hS hl => lv_idiv C.1 C.2.1 d h (k L cA D p e s m args below meth c H locs ls C hP hD hS hl)
theorem J_lmul {a b : Int64} (d : decode y.2.1 pc = .ok (.lmul, 1))  (k : J l y I v u (pc + 1) lv (.long (a * b) :: st) Q) : J l y I v u pc lv (.long b :: .long a :: st) Q :=
  fun L cA D p e s m args below meth c H locs ls C hP hD hS hl => lv_lmul C.1 C.2.1 d  (k L cA D p e s m args below meth c H locs ls C hP hD hS hl)
theorem J_ldiv {a b : Int64} (d : decode y.2.1 pc = .ok (.ldiv, 1)) (h : ¬ b = 0) (k : J l y I v u (pc + 1) lv (.long (a / b) :: st) Q) : J l y I v u pc lv (.long b :: .long a :: st) Q :=
  fun L cA D p e s m args below meth c H locs ls C hP hD hS hl => lv_ldiv C.1 C.2.1 d h (k L cA D p e s m args below meth c H locs ls C hP hD hS hl)
theorem J_i2l {a : Int32} (d : decode y.2.1 pc = .ok (.i2l, 1))  (k : J l y I v u (pc + 1) lv (.long a.toInt64 :: st) Q) : J l y I v u pc lv (.int a :: st) Q :=
  fun L cA D p e s m args below meth c H locs ls C hP hD hS hl => lv_i2l C.1 C.2.1 d rfl (k L cA D p e s m args below meth c H locs ls C hP hD hS hl)
theorem J_lcmp {a b : Int64} (d : decode y.2.1 pc = .ok (.lcmp, 1))  (k : J l y I v u (pc + 1) lv (.int (lg_cmp a b) :: st) Q) : J l y I v u pc lv (.long b :: .long a :: st) Q :=
  fun L cA D p e s m args below meth c H locs ls C hP hD hS hl => W.lcmp C.1 C.2.1 d  (k L cA D p e s m args below meth c H locs ls C hP hD hS hl)
theorem J_ishl {a b : Int32} (d : decode y.2.1 pc = .ok (.ishl, 1))  (k : J l y I v u (pc + 1) lv (.int (a <<< (b &&& 31)) :: st) Q) : J l y I v u pc lv (.int b :: .int a :: st) Q :=
  fun L cA D p e s m args below meth c H locs ls C hP hD hS hl => lv_ishl C.1 C.2.1 d  (k L cA D p e s m args below meth c H locs ls C hP hD hS hl)
theorem J_ishr {a b : Int32} (d : decode y.2.1 pc = .ok (.ishr, 1))  (k : J l y I v u (pc + 1) lv (.int (a >>> (b &&& 31)) :: st) Q) : J l y I v u pc lv (.int b :: .int a :: st) Q :=
  fun L cA D p e s m args below meth c H locs ls C hP hD hS hl => lv_ishr C.1 C.2.1 d  (k L cA D p e s m args below meth c H locs ls C hP hD hS hl)
theorem J_iushr {a b : Int32} (d : decode y.2.1 pc = .ok (.iushr, 1))  (k : J l y I v u (pc + 1) lv (.int ((a.toUInt32 >>> (b.toUInt32 &&& Int32.toUInt32 31)).toInt32) :: st) Q) : J l y I v u pc lv (.int b :: .int a :: st) Q :=
  fun L cA D p e s m args below meth c H locs ls C hP hD hS hl => lv_iushr C.1 C.2.1 d rfl (k L cA D p e s m args below meth c H locs ls C hP hD hS hl)
theorem J_dup {a : Value} (d : decode y.2.1 pc = .ok (.dup, 1)) (h : a.category = 1) (k : J l y I v u (pc + 1) lv (a :: a :: st) Q) : J l y I v u pc lv (a :: st) Q :=
  fun L cA D p e s m args below meth c H locs ls C hP hD hS hl => lv_dup C.1 C.2.1 d ((cv_cat L a).trans h) (k L cA D p e s m args below meth c H locs ls C hP hD hS hl)
theorem J_dup2 {a b : Value} (d : decode y.2.1 pc = .ok (.dup2, 1)) (h : a.category = 1) (h2 : b.category = 1) (k : J l y I v u (pc + 1) lv (a :: b :: a :: b :: st) Q) : J l y I v u pc lv (a :: b :: st) Q :=
  fun L cA D p e s m args below meth c H locs ls C hP hD hS hl => lv_dup2_11 C.1 C.2.1 d ((cv_cat L a).trans h) ((cv_cat L b).trans h2) (k L cA D p e s m args below meth c H locs ls C hP hD hS hl)
theorem J_pop {a : Value} (d : decode y.2.1 pc = .ok (.pop, 1)) (h : a.category = 1) (k : J l y I v u (pc + 1) lv st Q) : J l y I v u pc lv (a :: st) Q :=
  fun L cA D p e s m args below meth c H locs ls C hP hD hS hl => lv_pop C.1 C.2.1 d ((cv_cat L a).trans h) (k L cA D p e s m args below meth c H locs ls C hP hD hS hl)
theorem lv_atJ {L : Nat → Nat} {ls : Array Slot} {nL i : Nat} {x : Value} (h : lv_has ls nL (lv.map (cvp L))) (q : Nat) (hq : lv[q]? = some (i, x)) : ls[i]? = some (.val (cv L x)) := lv_at h q (by rw [List.getElem?_map, hq]; rfl)
theorem J_iload_n {n : Fin 4} {i : Nat} {x : Int32} (d : decode y.2.1 pc = .ok (.iload_n n, 1)) (hi : (n : Nat) = i) (q : Nat) (h : lv[q]? = some (i, .int x)) (k : J l y I v u (pc + 1) lv (.int x :: st) Q) : J l y I v u pc lv st Q :=
  fun L cA D p e s m args below meth c H locs ls C hP hD hS hl => lv_iload_n C.1 C.2.1 d hi (lv_atJ hl q h) (k L cA D p e s m args below meth c H locs ls C hP hD hS hl)
theorem J_iload {i : Nat} {x : Int32} (d : decode y.2.1 pc = .ok (.iload i, 2)) (q : Nat) (h : lv[q]? = some (i, .int x)) (k : J l y I v u (pc + 2) lv (.int x :: st) Q) : J l y I v u pc lv st Q :=
  fun L cA D p e s m args below meth c H locs ls C hP hD hS hl => lv_iload C.1 C.2.1 d (lv_atJ hl q h) (k L cA D p e s m args below meth c H locs ls C hP hD hS hl)
theorem J_aload_n {n : Fin 4} {i : Nat} {x : Nat} (d : decode y.2.1 pc = .ok (.aload_n n, 1)) (hi : (n : Nat) = i) (q : Nat) (h : lv[q]? = some (i, .ref x)) (k : J l y I v u (pc + 1) lv (.ref x :: st) Q) : J l y I v u pc lv st Q :=
  fun L cA D p e s m args below meth c H locs ls C hP hD hS hl => lv_aload_n C.1 C.2.1 d hi (lv_atJ hl q h) (k L cA D p e s m args below meth c H locs ls C hP hD hS hl)
theorem J_aload {i : Nat} {x : Nat} (d : decode y.2.1 pc = .ok (.aload i, 2)) (q : Nat) (h : lv[q]? = some (i, .ref x)) (k : J l y I v u (pc + 2) lv (.ref x :: st) Q) : J l y I v u pc lv st Q :=
  fun L cA D p e s m args below meth c H locs ls C hP hD hS hl => lv_aload C.1 C.2.1 d (lv_atJ hl q h) (k L cA D p e s m args below meth c H locs ls C hP hD hS hl)
theorem J_lload_n {n : Fin 4} {i : Nat} {x : Int64} (d : decode y.2.1 pc = .ok (.lload_n n, 1)) (hi : (n : Nat) = i) (q : Nat) (h : lv[q]? = some (i, .long x)) (k : J l y I v u (pc + 1) lv (.long x :: st) Q) : J l y I v u pc lv st Q :=
  fun L cA D p e s m args below meth c H locs ls C hP hD hS hl => lv_lload_n C.1 C.2.1 d hi (lv_atJ hl q h) (k L cA D p e s m args below meth c H locs ls C hP hD hS hl)
theorem J_lload {i : Nat} {x : Int64} (d : decode y.2.1 pc = .ok (.lload i, 2)) (q : Nat) (h : lv[q]? = some (i, .long x)) (k : J l y I v u (pc + 2) lv (.long x :: st) Q) : J l y I v u pc lv st Q :=
  fun L cA D p e s m args below meth c H locs ls C hP hD hS hl => lv_lload C.1 C.2.1 d (lv_atJ hl q h) (k L cA D p e s m args below meth c H locs ls C hP hD hS hl)
theorem J_aload_nN {n : Fin 4} {i : Nat} (d : decode y.2.1 pc = .ok (.aload_n n, 1)) (hi : (n : Nat) = i) (q : Nat) (h : lv[q]? = some (i, .null)) (k : J l y I v u (pc + 1) lv (.null :: st) Q) : J l y I v u pc lv st Q :=
  fun L cA D p e s m args below meth c H locs ls C hP hD hS hl => lv_aload_nN C.1 C.2.1 d hi (lv_atJ hl q h) (k L cA D p e s m args below meth c H locs ls C hP hD hS hl)
theorem J_istore_n {n : Fin 4} {i : Nat} {x : Int32} {lv' : List (Nat × Value)} (d : decode y.2.1 pc = .ok (.istore_n n, 1)) (hi : (n : Nat) = i) (hn : i < y.2.2.1) (h : (i, Value.int x) :: lv.filter (fun q => !(q.1 == i) && !(q.1 + 1 == i && q.2.category == 2)) = lv') (k : J l y I v u (pc + 1) lv' st Q) : J l y I v u pc lv (.int x :: st) Q := by
  subst h
  exact fun L cA D p e s m args below meth c H locs ls C hP hD hS hl => lv_istore_n (lv' := (((i, Value.int x) :: lv.filter (fun q => !(q.1 == i) && !(q.1 + 1 == i && q.2.category == 2))).map (cvp L))) C.1 C.2.1 d hi hl hn (congrArg (List.cons _) (cvp_filter L (fun a b => !(a == i) && !(a + 1 == i && b == 2)) lv)) (fun ls hl => k L cA D p e s m args below meth c H locs ls C hP hD hS hl)
theorem J_istore {i : Nat} {x : Int32} {lv' : List (Nat × Value)} (d : decode y.2.1 pc = .ok (.istore i, 2)) (hn : i < y.2.2.1) (h : (i, Value.int x) :: lv.filter (fun q => !(q.1 == i) && !(q.1 + 1 == i && q.2.category == 2)) = lv') (k : J l y I v u (pc + 2) lv' st Q) : J l y I v u pc lv (.int x :: st) Q := by
  subst h
  exact fun L cA D p e s m args below meth c H locs ls C hP hD hS hl => lv_istore (lv' := (((i, Value.int x) :: lv.filter (fun q => !(q.1 == i) && !(q.1 + 1 == i && q.2.category == 2))).map (cvp L))) C.1 C.2.1 d hl hn (congrArg (List.cons _) (cvp_filter L (fun a b => !(a == i) && !(a + 1 == i && b == 2)) lv)) (fun ls hl => k L cA D p e s m args below meth c H locs ls C hP hD hS hl)
theorem J_astore_n {n : Fin 4} {i : Nat} {x : Nat} {lv' : List (Nat × Value)} (d : decode y.2.1 pc = .ok (.astore_n n, 1)) (hi : (n : Nat) = i) (hn : i < y.2.2.1) (h : (i, Value.ref x) :: lv.filter (fun q => !(q.1 == i) && !(q.1 + 1 == i && q.2.category == 2)) = lv') (k : J l y I v u (pc + 1) lv' st Q) : J l y I v u pc lv (.ref x :: st) Q := by
  subst h
  exact fun L cA D p e s m args below meth c H locs ls C hP hD hS hl => lv_astore_n (lv' := (((i, Value.ref x) :: lv.filter (fun q => !(q.1 == i) && !(q.1 + 1 == i && q.2.category == 2))).map (cvp L))) C.1 C.2.1 d hi hl hn (congrArg (List.cons _) (cvp_filter L (fun a b => !(a == i) && !(a + 1 == i && b == 2)) lv)) (fun ls hl => k L cA D p e s m args below meth c H locs ls C hP hD hS hl)
theorem J_astore {i : Nat} {x : Nat} {lv' : List (Nat × Value)} (d : decode y.2.1 pc = .ok (.astore i, 2)) (hn : i < y.2.2.1) (h : (i, Value.ref x) :: lv.filter (fun q => !(q.1 == i) && !(q.1 + 1 == i && q.2.category == 2)) = lv') (k : J l y I v u (pc + 2) lv' st Q) : J l y I v u pc lv (.ref x :: st) Q := by
  subst h
  exact fun L cA D p e s m args below meth c H locs ls C hP hD hS hl => lv_astore (lv' := (((i, Value.ref x) :: lv.filter (fun q => !(q.1 == i) && !(q.1 + 1 == i && q.2.category == 2))).map (cvp L))) C.1 C.2.1 d hl hn (congrArg (List.cons _) (cvp_filter L (fun a b => !(a == i) && !(a + 1 == i && b == 2)) lv)) (fun ls hl => k L cA D p e s m args below meth c H locs ls C hP hD hS hl)
theorem J_lstore_n {n : Fin 4} {i : Nat} {x : Int64} {lv' : List (Nat × Value)} (d : decode y.2.1 pc = .ok (.lstore_n n, 1)) (hi : (n : Nat) = i) (hn : i + 1 < y.2.2.1) (h : (i, Value.long x) :: lv.filter (fun q => !(q.1 == i) && (!(q.1 == i + 1) && !(q.1 + 1 == i && q.2.category == 2))) = lv') (k : J l y I v u (pc + 1) lv' st Q) : J l y I v u pc lv (.long x :: st) Q := by
  subst h
  exact fun L cA D p e s m args below meth c H locs ls C hP hD hS hl => lv_lstore_n (lv' := (((i, Value.long x) :: lv.filter (fun q => !(q.1 == i) && (!(q.1 == i + 1) && !(q.1 + 1 == i && q.2.category == 2)))).map (cvp L))) C.1 C.2.1 d hi hl hn (congrArg (List.cons _) (cvp_filter L (fun a b => !(a == i) && (!(a == i + 1) && !(a + 1 == i && b == 2))) lv)) (fun ls hl => k L cA D p e s m args below meth c H locs ls C hP hD hS hl)
theorem J_lstore {i : Nat} {x : Int64} {lv' : List (Nat × Value)} (d : decode y.2.1 pc = .ok (.lstore i, 2)) (hn : i + 1 < y.2.2.1) (h : (i, Value.long x) :: lv.filter (fun q => !(q.1 == i) && (!(q.1 == i + 1) && !(q.1 + 1 == i && q.2.category == 2))) = lv') (k : J l y I v u (pc + 2) lv' st Q) : J l y I v u pc lv (.long x :: st) Q := by
  subst h
  exact fun L cA D p e s m args below meth c H locs ls C hP hD hS hl => lv_lstore (lv' := (((i, Value.long x) :: lv.filter (fun q => !(q.1 == i) && (!(q.1 == i + 1) && !(q.1 + 1 == i && q.2.category == 2)))).map (cvp L))) C.1 C.2.1 d hl hn (congrArg (List.cons _) (cvp_filter L (fun a b => !(a == i) && (!(a == i + 1) && !(a + 1 == i && b == 2))) lv)) (fun ls hl => k L cA D p e s m args below meth c H locs ls C hP hD hS hl)
theorem J_iinc {i q : Nat} {n : Int} {x z : Int32} {lv' : List (Nat × Value)} (d : decode y.2.1 pc = .ok (.iinc i n, 3)) (hq : lv[q]? = some (i, .int x)) (hz : x + Int32.ofInt n = z) (hn : i < y.2.2.1) (h : (i, Value.int z) :: lv.filter (fun q => !(q.1 == i) && !(q.1 + 1 == i && q.2.category == 2)) = lv') (k : J l y I v u (pc + 3) lv' st Q) : J l y I v u pc lv st Q := by
  subst h
  exact fun L cA D p e s m args below meth c H locs ls C hP hD hS hl => lv_iinc (k := q) (v := z) (lv' := (((i, Value.int z) :: lv.filter (fun q => !(q.1 == i) && !(q.1 + 1 == i && q.2.category == 2))).map (cvp L))) C.1 C.2.1 d hl (by rw [List.getElem?_map, hq]; rfl) hz hn (congrArg (List.cons _) (cvp_filter L (fun a b => !(a == i) && !(a + 1 == i && b == 2)) lv)) (fun ls hl => k L cA D p e s m args below meth c H locs ls C hP hD hS hl)
theorem J_lv {lv' : List (Nat × Value)} (ks : List Nat) (h : lv_pick lv ks = lv') (k : J l y I v u pc lv' st Q) : J l y I v u pc lv st Q := by
  subst h
  refine fun L cA D p e s m args below meth c H locs ls C hP hD hS hl => k L cA D p e s m args below meth c H locs ls C hP hD hS (lv_sub hl ks ?_)
  unfold lv_pick
  rw [List.map_filterMap]
  congr 1
  funext i
  rw [List.getElem?_map]
theorem J_icmp_eq {a b : Int32} {off : Int} {tgt : Nat} (d : decode y.2.1 pc = .ok (.if_icmp .eq off, 3)) (ht : (pc : Int) + off = (tgt : Int)) (kt : a = b → J l y I v u tgt lv st Q) (kf : ¬ (a = b) → J l y I v u (pc + 3) lv st Q) : J l y I v u pc lv (.int b :: .int a :: st) Q :=
  fun L cA D p e s m args below meth c H locs ls C hP hD hS hl => lv_icmp_eq C.1 C.2.1 d ht (fun h => kt h L cA D p e s m args below meth c H locs ls C hP hD hS hl) (fun h => kf h L cA D p e s m args below meth c H locs ls C hP hD hS hl)
theorem J_if_eq {a : Int32} {off : Int} {tgt : Nat} (d : decode y.2.1 pc = .ok (.ifCond .eq off, 3)) (ht : (pc : Int) + off = (tgt : Int)) (kt : a = 0 → J l y I v u tgt lv st Q) (kf : ¬ (a = 0) → J l y I v u (pc + 3) lv st Q) : J l y I v u pc lv (.int a :: st) Q :=
  fun L cA D p e s m args below meth c H locs ls C hP hD hS hl => lv_if_eq C.1 C.2.1 d ht (fun h => kt h L cA D p e s m args below meth c H locs ls C hP hD hS hl) (fun h => kf h L cA D p e s m args below meth c H locs ls C hP hD hS hl)
theorem J_icmp_ne {a b : Int32} {off : Int} {tgt : Nat} (d : decode y.2.1 pc = .ok (.if_icmp .ne off, 3)) (ht : (pc : Int) + off = (tgt : Int)) (kt : ¬ a = b → J l y I v u tgt lv st Q) (kf : a = b → J l y I v u (pc + 3) lv st Q) : J l y I v u pc lv (.int b :: .int a :: st) Q :=
  fun L cA D p e s m args below meth c H locs ls C hP hD hS hl => lv_icmp_ne C.1 C.2.1 d ht (fun h => kt h L cA D p e s m args below meth c H locs ls C hP hD hS hl) (fun h => kf h L cA D p e s m args below meth c H locs ls C hP hD hS hl)
theorem J_if_ne {a : Int32} {off : Int} {tgt : Nat} (d : decode y.2.1 pc = .ok (.ifCond .ne off, 3)) (ht : (pc : Int) + off = (tgt : Int)) (kt : ¬ a = 0 → J l y I v u tgt lv st Q) (kf : a = 0 → J l y I v u (pc + 3) lv st Q) : J l y I v u pc lv (.int a :: st) Q :=
  fun L cA D p e s m args below meth c H locs ls C hP hD hS hl => lv_if_ne C.1 C.2.1 d ht (fun h => kt h L cA D p e s m args below meth c H locs ls C hP hD hS hl) (fun h => kf h L cA D p e s m args below meth c H locs ls C hP hD hS hl)
theorem J_icmp_lt {a b : Int32} {off : Int} {tgt : Nat} (d : decode y.2.1 pc = .ok (.if_icmp .lt off, 3)) (ht : (pc : Int) + off = (tgt : Int)) (kt : a < b → J l y I v u tgt lv st Q) (kf : ¬ (a < b) → J l y I v u (pc + 3) lv st Q) : J l y I v u pc lv (.int b :: .int a :: st) Q :=
  fun L cA D p e s m args below meth c H locs ls C hP hD hS hl => lv_icmp_lt C.1 C.2.1 d ht (fun h => kt h L cA D p e s m args below meth c H locs ls C hP hD hS hl) (fun h => kf h L cA D p e s m args below meth c H locs ls C hP hD hS hl)
theorem J_if_lt {a : Int32} {off : Int} {tgt : Nat} (d : decode y.2.1 pc = .ok (.ifCond .lt off, 3)) (ht : (pc : Int) + off = (tgt : Int)) (kt : a < 0 → J l y I v u tgt lv st Q) (kf : ¬ (a < 0) → J l y I v u (pc + 3) lv st Q) : J l y I v u pc lv (.int a :: st) Q :=
  fun L cA D p e s m args below meth c H locs ls C hP hD hS hl => lv_if_lt C.1 C.2.1 d ht (fun h => kt h L cA D p e s m args below meth c H locs ls C hP hD hS hl) (fun h => kf h L cA D p e s m args below meth c H locs ls C hP hD hS hl)
theorem J_icmp_ge {a b : Int32} {off : Int} {tgt : Nat} (d : decode y.2.1 pc = .ok (.if_icmp .ge off, 3)) (ht : (pc : Int) + off = (tgt : Int)) (kt : b ≤ a → J l y I v u tgt lv st Q) (kf : ¬ (b ≤ a) → J l y I v u (pc + 3) lv st Q) : J l y I v u pc lv (.int b :: .int a :: st) Q :=
  fun L cA D p e s m args below meth c H locs ls C hP hD hS hl => lv_icmp_ge C.1 C.2.1 d ht (fun h => kt h L cA D p e s m args below meth c H locs ls C hP hD hS hl) (fun h => kf h L cA D p e s m args below meth c H locs ls C hP hD hS hl)
theorem J_if_ge {a : Int32} {off : Int} {tgt : Nat} (d : decode y.2.1 pc = .ok (.ifCond .ge off, 3)) (ht : (pc : Int) + off = (tgt : Int)) (kt : 0 ≤ a → J l y I v u tgt lv st Q) (kf : ¬ (0 ≤ a) → J l y I v u (pc + 3) lv st Q) : J l y I v u pc lv (.int a :: st) Q :=
  fun L cA D p e s m args below meth c H locs ls C hP hD hS hl => lv_if_ge C.1 C.2.1 d ht (fun h => kt h L cA D p e s m args below meth c H locs ls C hP hD hS hl) (fun h => kf h L cA D p e s m args below meth c H locs ls C hP hD hS hl)
theorem J_icmp_gt {a b : Int32} {off : Int} {tgt : Nat} (d : decode y.2.1 pc = .ok (.if_icmp .gt off, 3)) (ht : (pc : Int) + off = (tgt : Int)) (kt : b < a → J l y I v u tgt lv st Q) (kf : ¬ (b < a) → J l y I v u (pc + 3) lv st Q) : J l y I v u pc lv (.int b :: .int a :: st) Q :=
  fun L cA D p e s m args below meth c H locs ls C hP hD hS hl => lv_icmp_gt C.1 C.2.1 d ht (fun h => kt h L cA D p e s m args below meth c H locs ls C hP hD hS hl) (fun h => kf h L cA D p e s m args below meth c H locs ls C hP hD hS hl)
theorem J_if_gt {a : Int32} {off : Int} {tgt : Nat} (d : decode y.2.1 pc = .ok (.ifCond .gt off, 3)) (ht : (pc : Int) + off = (tgt : Int)) (kt : 0 < a → J l y I v u tgt lv st Q) (kf : ¬ (0 < a) → J l y I v u (pc + 3) lv st Q) : J l y I v u pc lv (.int a :: st) Q :=
  fun L cA D p e s m args below meth c H locs ls C hP hD hS hl => lv_if_gt C.1 C.2.1 d ht (fun h => kt h L cA D p e s m args below meth c H locs ls C hP hD hS hl) (fun h => kf h L cA D p e s m args below meth c H locs ls C hP hD hS hl)
theorem J_icmp_le {a b : Int32} {off : Int} {tgt : Nat} (d : decode y.2.1 pc = .ok (.if_icmp .le off, 3)) (ht : (pc : Int) + off = (tgt : Int)) (kt : a ≤ b → J l y I v u tgt lv st Q) (kf : ¬ (a ≤ b) → J l y I v u (pc + 3) lv st Q) : J l y I v u pc lv (.int b :: .int a :: st) Q :=
  fun L cA D p e s m args below meth c H locs ls C hP hD hS hl => lv_icmp_le C.1 C.2.1 d ht (fun h => kt h L cA D p e s m args below meth c H locs ls C hP hD hS hl) (fun h => kf h L cA D p e s m args below meth c H locs ls C hP hD hS hl)
theorem J_if_le {a : Int32} {off : Int} {tgt : Nat} (d : decode y.2.1 pc = .ok (.ifCond .le off, 3)) (ht : (pc : Int) + off = (tgt : Int)) (kt : a ≤ 0 → J l y I v u tgt lv st Q) (kf : ¬ (a ≤ 0) → J l y I v u (pc + 3) lv st Q) : J l y I v u pc lv (.int a :: st) Q :=
  fun L cA D p e s m args below meth c H locs ls C hP hD hS hl => lv_if_le C.1 C.2.1 d ht (fun h => kt h L cA D p e s m args below meth c H locs ls C hP hD hS hl) (fun h => kf h L cA D p e s m args below meth c H locs ls C hP hD hS hl)
theorem J_goto {off : Int} {tgt : Nat} (d : decode y.2.1 pc = .ok (.goto off, 3)) (ht : (pc : Int) + off = (tgt : Int)) (k : J l y I v u tgt lv st Q) : J l y I v u pc lv st Q :=
  fun L cA D p e s m args below meth c H locs ls C hP hD hS hl => lv_goto C.1 C.2.1 d ht (k L cA D p e s m args below meth c H locs ls C hP hD hS hl)
theorem J_tableOut {dflt lo hi : Int} {offs : Array Int} {len : Nat} {x : Int32} {tgt : Nat} (d : decode y.2.1 pc = .ok (.tableswitch dflt lo hi offs, len)) (h : x.toInt < lo ∨ hi < x.toInt) (ht : (pc : Int) + dflt = (tgt : Int)) (k : J l y I v u tgt lv st Q) : J l y I v u pc lv (.int x :: st) Q :=
  fun L cA D p e s m args below meth c H locs ls C hP hD hS hl => lv_tableOut C.1 C.2.1 d h ht (k L cA D p e s m args below meth c H locs ls C hP hD hS hl)
theorem J_tableIn {dflt lo hi : Int} {offs : Array Int} {len : Nat} {x : Int32} {off : Int} {tgt : Nat} (d : decode y.2.1 pc = .ok (.tableswitch dflt lo hi offs, len)) (h1 : ¬ x.toInt < lo) (h2 : ¬ hi < x.toInt) (ho : offs[(x.toInt - lo).toNat]? = some off) (ht : (pc : Int) + off = (tgt : Int)) (k : J l y I v u tgt lv st Q) : J l y I v u pc lv (.int x :: st) Q :=
  fun L cA D p e s m args below meth c H locs ls C hP hD hS hl => lv_tableIn C.1 C.2.1 d h1 h2 ho ht (k L cA D p e s m args below meth c H locs ls C hP hD hS hl)
theorem J_ldc {idx : Nat} {x : Int32} (d : decode y.2.1 pc = .ok (.ldc idx, 2)) (hw : Cond.constant y.1.cls idx x ∈ gt) (k : J l y I v u (pc + 2) lv (.int x :: st) Q) : J l y I v u pc lv st Q :=
  fun L cA D p e s m args below meth c H locs ls C hP hD hS hl => lv_ldc C.1 C.2.1 C.2.2.2.2.1 (C.2.2.2.2.2.2.1 _ hw) d (k L cA D p e s m args below meth c H locs ls C hP hD hS hl)
theorem J_ldc2 {idx : Nat} {x : Int64} (d : decode y.2.1 pc = .ok (.ldc2_w idx, 3)) (hw : Cond.constantLong y.1.cls idx x ∈ gt) (k : J l y I v u (pc + 3) lv (.long x :: st) Q) : J l y I v u pc lv st Q :=
  fun L cA D p e s m args below meth c H locs ls C hP hD hS hl => lv_ldc2 C.1 C.2.1 C.2.2.2.2.1 (C.2.2.2.2.2.2.1 _ hw) d (k L cA D p e s m args below meth c H locs ls C hP hD hS hl)
theorem J_topi {a : Int32} (k : ∀ z : Int32, z = a → J l y I v u pc lv (.int z :: st) Q) : J l y I v u pc lv (.int a :: st) Q := k a rfl
theorem J_pc {pc2 : Nat} (h : pc = pc2) (k : J l y I v u pc2 lv st Q) : J l y I v u pc lv st Q := by subst h; exact k
theorem J_topl {a : Int64} (k : ∀ z : Int64, z = a → J l y I v u pc lv (.long z :: st) Q) : J l y I v u pc lv (.long a :: st) Q := k a rfl
theorem J_vn (k : ∀ w : fr_V, w = v → J l y I w u pc lv st Q) : J l y I v u pc lv st Q := k v rfl
theorem J_un (k : ∀ w : fr_U, w = u → J l y I v w pc lv st Q) : J l y I v u pc lv st Q := k u rfl
theorem J_irem {a b : Int32} (d : decode y.2.1 pc = .ok (.irem, 1)) (h : ¬ b = 0) (k : J l y I v u (pc + 1) lv (.int (a - a / b * b) :: st) Q) : J l y I v u pc lv (.int b :: .int a :: st) Q :=
  fun L cA D p e s m args below meth c H locs ls C hP hD hS hl => lv_irem C.1 C.2.1 d h (k L cA D p e s m args below meth c H locs ls C hP hD hS hl)
end FRJ
end
section
theorem fsl_get {L : Nat → Nat} {k ci j : Nat} {f : Nat → Int32} (h : j < nfd ci) : (fsl L k ci f)[j]? = some (fv L k ci j (f j)) := by
  simp [fsl, h]
theorem fsl_set {L : Nat → Nat} {k ci j : Nat} {f : Nat → Int32} {x : Int32} (h : j < nfd ci) : (fsl L k ci f).set j (fv L k ci j x) = fsl L k ci (upd f j x) := by
  apply List.ext_getElem?
  intro i
  by_cases hi : j = i
  · subst hi
    rw [List.getElem?_set_self (by simpa [fsl] using h), fsl_get h]
    simp [upd]
  · rw [List.getElem?_set_ne hi]
    by_cases hl : i < nfd ci
    · rw [fsl_get hl, fsl_get hl]
      have : upd f j x i = f i := by unfold upd; rw [if_neg (fun e => hi e.symm)]
      rw [this]
    · rw [List.getElem?_eq_none (by simpa [fsl] using hl), List.getElem?_eq_none (by simpa [fsl] using hl)]
theorem up2_self (v : fr_V) (k i : Nat) (x : Int32) : up2 v k i x k = upd (v k) i x := by simp [up2]
theorem up2_ne {v : fr_V} {k i a : Nat} {x : Int32} (h : a ≠ k) : up2 v k i x a = v a := by simp [up2, h]
theorem up3_self (v : fr_U) (k i : Nat) (x : Int64) : up3 v k i x k = vp_updL (v k) i x := by simp [up3]
theorem up3_ne {v : fr_U} {k i a : Nat} {x : Int64} (h : a ≠ k) : up3 v k i x a = v a := by simp [up3, h]
theorem ent_o {L : Nat → Nat} {cA : Nat → ClassId} {k ci : Nat} {f : Nat → Int32} {g : Nat → Int64} (h : (sh k).1 = ci) (hc : ci < 20) : ent L cA k f g = .inr (ci, fsl L k ci f) := by
  subst h
  unfold ent
  rw [if_neg (by omega), if_neg (by omega), if_neg (by omega), if_neg (by omega), if_neg (by omega), if_neg (by omega)]
theorem ent_i {L : Nat → Nat} {cA : Nat → ClassId} {k n : Nat} {f : Nat → Int32} {g : Nat → Int64} (h : sh k = (20, n)) : ent L cA k f g = .inl (cA 0, n, .inl f) := by simp [ent, h]
theorem ent_z {L : Nat → Nat} {cA : Nat → ClassId} {k n : Nat} {f : Nat → Int32} {g : Nat → Int64} (h : sh k = (21, n)) : ent L cA k f g = .inl (cA 1, n, .inl f) := by simp [ent, h]
theorem ent_l {L : Nat → Nat} {cA : Nat → ClassId} {k n : Nat} {f : Nat → Int32} {g : Nat → Int64} (h : sh k = (22, n)) : ent L cA k f g = .inl (cA 2, n, .inr (.inl g)) := by simp [ent, h]
/-- a field's link: the pool's place idx of the code of 'own' names the field j of the kind ci -/
def FL (own : String) (idx ci j : Nat) : Prop := ∃ q : vw_C, fr_cls[ci]? = some q ∧ j < q.2.2 ∧ Cond.fieldLink own idx (q.2.1 j).1 (q.2.1 j).2.1 (q.2.1 j).2.2.1 ∈ gt
theorem FL.of {own : String} {idx ci j : Nat} {q : vw_C} (h : fr_cls[ci]? = some q) (hj : j < q.2.2) (hw : Cond.fieldLink own idx (q.2.1 j).1 (q.2.1 j).2.1 (q.2.1 j).2.2.1 ∈ lw_tbl) : FL own idx ci j := ⟨q, h, hj, gt_mem hw rfl⟩
section FRH
variable {l : Launch} {y : fr_M} {I : List Nat} {v : fr_V} {u : fr_U} {Q : Option Value → fr_V → fr_U → Prop} {pc : Nat} {lv : List (Nat × Value)} {st : List Value}
theorem J_getf {idx ci j k : Nat} {x : Value} (d : decode y.2.1 pc = .ok (.getfield idx, 3)) (hf : FL y.1.cls idx ci j) (hk : k ∈ I) (hs : (sh k).1 = ci) (hx : ∀ L : Nat → Nat, fv L k ci j (v k j) = cv L x) (kk : J l y I v u (pc + 3) lv (x :: st) Q) : J l y I v u pc lv (.ref k :: st) Q := by
  intro L cA D p e s m args below meth c H locs ls C hP hD hS hl
  obtain ⟨q, hc, hj, hw⟩ := hf
  have hci : ci < 12 := (List.getElem?_eq_some_iff.mp hc).1
  have hn : nfd ci = q.2.2 := by unfold nfd; rw [hc]
  obtain ⟨q0, -, hq0⟩ := mw_get (L := L) (cA := cA) (v := v) (u := u) hk
  rw [ent_o hs (by omega)] at hq0
  exact va_get (C := q.1) (T := q.2.1) (N := q.2.2) C.1 C.2.1 C.2.2.2.2.2.2.1 (fr_in hc) C.2.2.2.2.1 C.2.2.2.2.2.2.2.2 hP q0 hq0 hc j hj (C.2.2.2.2.2.2.1 _ hw) (fun _ h9 => h9) (by rw [fsl_get (by rw [hn]; exact hj), hx L]) d (kk L cA D p e s m args below meth c H locs ls C hP hD hS hl)
/-- a number -/
theorem J_geti {idx ci j k : Nat} (d : decode y.2.1 pc = .ok (.getfield idx, 3)) (hf : FL y.1.cls idx ci j) (hk : k ∈ I) (hs : (sh k).1 = ci) (h0 : fk ci j = 0) (kk : J l y I v u (pc + 3) lv (.int (v k j) :: st) Q) : J l y I v u pc lv (.ref k :: st) Q :=
  J_getf (x := .int (v k j)) d hf hk hs (fun L => by simp [fv, h0, cv]) kk
/-- a fixed cell -/
theorem J_getr {idx ci j k t : Nat} (d : decode y.2.1 pc = .ok (.getfield idx, 3)) (hf : FL y.1.cls idx ci j) (hk : k ∈ I) (hs : (sh k).1 = ci) (h0 : fk ci j = 1) (ht : sref k j = t) (kk : J l y I v u (pc + 3) lv (.ref t :: st) Q) : J l y I v u pc lv (.ref k :: st) Q :=
  J_getf (x := .ref t) d hf hk hs (fun L => by simp [fv, h0, cv, ht]) kk
/-- a cell that may change -/
theorem J_getd {idx ci j k t : Nat} (d : decode y.2.1 pc = .ok (.getfield idx, 3)) (hf : FL y.1.cls idx ci j) (hk : k ∈ I) (hs : (sh k).1 = ci) (h0 : fk ci j = 2) (ht : ¬ v k j < 0) (ht2 : (v k j).toNatClampNeg = t) (kk : J l y I v u (pc + 3) lv (.ref t :: st) Q) : J l y I v u pc lv (.ref k :: st) Q :=
  J_getf (x := .ref t) d hf hk hs (fun L => by simp [fv, h0, cv, rq, ht, ht2, va_rf]) kk
theorem J_getn {idx ci j k : Nat} (d : decode y.2.1 pc = .ok (.getfield idx, 3)) (hf : FL y.1.cls idx ci j) (hk : k ∈ I) (hs : (sh k).1 = ci) (h0 : fk ci j = 2) (ht : v k j < 0) (kk : J l y I v u (pc + 3) lv (.null :: st) Q) : J l y I v u pc lv (.ref k :: st) Q :=
  J_getf (x := .null) d hf hk hs (fun L => by simp [fv, h0, cv, rq, ht, va_rf]) kk
theorem J_putf {idx ci j k : Nat} {x : Value} {z : Int32} (d : decode y.2.1 pc = .ok (.putfield idx, 3)) (hf : FL y.1.cls idx ci j) (hk : k ∈ I) (hs : (sh k).1 = ci) (hx : ∀ L : Nat → Nat, cv L x = fv L k ci j z) (hfin : ∀ q : vw_C, fr_cls[ci]? = some q → (q.2.1 j).2.2.2 = false) (hn : ∀ L : Nat → Nat, narrow (fr_ty ci j) (cv L x) = cv L x) (hfit : ∀ L : Nat → Nat, fits (fr_ty ci j) (cv L x) = true) (kk : J l y I (up2 v k j z) u (pc + 3) lv st Q) : J l y I v u pc lv (x :: .ref k :: st) Q := by
  intro L cA D p e s m args below meth c H locs ls C hP hD hS hl
  obtain ⟨q, hc, hj, hw⟩ := hf
  have hci : ci < 12 := (List.getElem?_eq_some_iff.mp hc).1
  have hnf : nfd ci = q.2.2 := by unfold nfd; rw [hc]
  obtain ⟨q0, hi0, hq0⟩ := mw_get (L := L) (cA := cA) (v := v) (u := u) hk
  rw [ent_o hs (by omega)] at hq0
  refine va_put (C := q.1) (T := q.2.1) (N := q.2.2) (ty := fr_ty ci j) C.1 C.2.1 C.2.2.2.2.2.2.1 (fr_in hc) (fr_ty ci) (fr_tn hc).1 (fr_tn hc).2 C.2.2.2.2.1 C.2.2.2.2.2.2.2.2 hP hD hS q0 hq0 hc j hj (C.2.2.2.2.2.2.1 _ hw) (fun _ h9 => h9) (hfin q hc) ((fr_tn hc).1 j hj) (hn L) (hfit L) (by simp [fsl, hnf, hj]) d (fun H1 locs1 hP1 hD1 hS1 => ?_)
  have hset : (mw L cA I v u).set q0 (L k, .inr (ci, (fsl L k ci (v k)).set j (cv L x))) = mw L cA I (up2 v k j z) u :=
    mw_set hD hi0 (by rw [ent_o hs (by omega), up2_self, hx L, fsl_set (by rw [hnf]; exact hj)]) (fun a ha => up2_ne ha) (fun a ha => rfl)
  rw [hset] at hP1 hD1
  exact kk L cA D p e s m args below meth c H1 locs1 ls C hP1 hD1 hS1 hl
theorem J_puti {idx ci j k : Nat} {x : Int32} (d : decode y.2.1 pc = .ok (.putfield idx, 3)) (hf : FL y.1.cls idx ci j) (hk : k ∈ I) (hs : (sh k).1 = ci) (h0 : fk ci j = 0) (hfin : ∀ q : vw_C, fr_cls[ci]? = some q → (q.2.1 j).2.2.2 = false) (hty : fr_ty ci j = .int) (kk : J l y I (up2 v k j x) u (pc + 3) lv st Q) : J l y I v u pc lv (.int x :: .ref k :: st) Q :=
  J_putf (x := .int x) (z := x) d hf hk hs (fun L => by simp [fv, h0, cv]) hfin (fun L => by rw [hty]; rfl) (fun L => by rw [hty]; rfl) kk
theorem J_iald {k n : Nat} {i : Int32} (d : decode y.2.1 pc = .ok (.iaload, 1)) (hk : k ∈ I) (hs : sh k = (20, n)) (hin : vp_in i n) (kk : J l y I v u (pc + 1) lv (.int (v k i.toNatClampNeg) :: st) Q) : J l y I v u pc lv (.int i :: .ref k :: st) Q := by
  intro L cA D p e s m args below meth c H locs ls C hP hD hS hl
  obtain ⟨q0, -, hq0⟩ := mw_get (L := L) (cA := cA) (v := v) (u := u) hk
  rw [ent_i hs] at hq0
  exact va_iald C.1 C.2.1 C.2.2.2.2.2.2.2.2 hP q0 0 hq0 rfl hin d (kk L cA D p e s m args below meth c H locs ls C hP hD hS hl)
theorem J_zald {k n : Nat} {i : Int32} (d : decode y.2.1 pc = .ok (.baload, 1)) (hk : k ∈ I) (hs : sh k = (21, n)) (hin : vp_in i n) (kk : J l y I v u (pc + 1) lv (.int (v k i.toNatClampNeg) :: st) Q) : J l y I v u pc lv (.int i :: .ref k :: st) Q := by
  intro L cA D p e s m args below meth c H locs ls C hP hD hS hl
  obtain ⟨q0, -, hq0⟩ := mw_get (L := L) (cA := cA) (v := v) (u := u) hk
  rw [ent_z hs] at hq0
  exact va_zald C.1 C.2.1 C.2.2.2.2.2.2.2.2 hP q0 1 hq0 rfl hin d (kk L cA D p e s m args below meth c H locs ls C hP hD hS hl)
theorem J_lald {k n : Nat} {i : Int32} (d : decode y.2.1 pc = .ok (.laload, 1)) (hk : k ∈ I) (hs : sh k = (22, n)) (hin : vp_in i n) (kk : J l y I v u (pc + 1) lv (.long (u k i.toNatClampNeg) :: st) Q) : J l y I v u pc lv (.int i :: .ref k :: st) Q := by
  intro L cA D p e s m args below meth c H locs ls C hP hD hS hl
  obtain ⟨q0, -, hq0⟩ := mw_get (L := L) (cA := cA) (v := v) (u := u) hk
  rw [ent_l hs] at hq0
  exact va_lald C.1 C.2.1 C.2.2.2.2.2.2.2.2 hP q0 2 hq0 rfl hin d (kk L cA D p e s m args below meth c H locs ls C hP hD hS hl)
theorem J_iast {k n : Nat} {i x : Int32} (d : decode y.2.1 pc = .ok (.iastore, 1)) (hk : k ∈ I) (hs : sh k = (20, n)) (hin : vp_in i n) (kk : J l y I (up2 v k i.toNatClampNeg x) u (pc + 1) lv st Q) : J l y I v u pc lv (.int x :: .int i :: .ref k :: st) Q := by
  intro L cA D p e s m args below meth c H locs ls C hP hD hS hl
  obtain ⟨q0, hi0, hq0⟩ := mw_get (L := L) (cA := cA) (v := v) (u := u) hk
  rw [ent_i hs] at hq0
  refine va_iast C.1 C.2.1 C.2.2.2.2.2.2.2.2 hP hD hS q0 0 hq0 rfl hin d (fun H1 locs1 hP1 hD1 hS1 => ?_)
  have hset : (mw L cA I v u).set q0 (L k, .inl (cA 0, n, .inl (upd (v k) i.toNatClampNeg x))) = mw L cA I (up2 v k i.toNatClampNeg x) u :=
    mw_set hD hi0 (by rw [ent_i hs, up2_self]) (fun a ha => up2_ne ha) (fun a ha => rfl)
  rw [hset] at hP1 hD1
  exact kk L cA D p e s m args below meth c H1 locs1 ls C hP1 hD1 hS1 hl
theorem J_zast {k n : Nat} {i x : Int32} (d : decode y.2.1 pc = .ok (.bastore, 1)) (hk : k ∈ I) (hs : sh k = (21, n)) (hin : vp_in i n) (hx : vp_nar .boolean x = x) (kk : J l y I (up2 v k i.toNatClampNeg x) u (pc + 1) lv st Q) : J l y I v u pc lv (.int x :: .int i :: .ref k :: st) Q := by
  intro L cA D p e s m args below meth c H locs ls C hP hD hS hl
  obtain ⟨q0, hi0, hq0⟩ := mw_get (L := L) (cA := cA) (v := v) (u := u) hk
  rw [ent_z hs] at hq0
  refine va_zast C.1 C.2.1 C.2.2.2.2.2.2.2.2 hP hD hS q0 1 hq0 rfl hin d (fun H1 locs1 hP1 hD1 hS1 => ?_)
  have hset : (mw L cA I v u).set q0 (L k, .inl (cA 1, n, .inl (upd (v k) i.toNatClampNeg (vp_nar .boolean x)))) = mw L cA I (up2 v k i.toNatClampNeg x) u :=
    mw_set hD hi0 (by rw [ent_z hs, up2_self, hx]) (fun a ha => up2_ne ha) (fun a ha => rfl)
  rw [hset] at hP1 hD1
  exact kk L cA D p e s m args below meth c H1 locs1 ls C hP1 hD1 hS1 hl
theorem J_last {k n : Nat} {i : Int32} {x : Int64} (d : decode y.2.1 pc = .ok (.lastore, 1)) (hk : k ∈ I) (hs : sh k = (22, n)) (hin : vp_in i n) (kk : J l y I v (up3 u k i.toNatClampNeg x) (pc + 1) lv st Q) : J l y I v u pc lv (.long x :: .int i :: .ref k :: st) Q := by
  intro L cA D p e s m args below meth c H locs ls C hP hD hS hl
  obtain ⟨q0, hi0, hq0⟩ := mw_get (L := L) (cA := cA) (v := v) (u := u) hk
  rw [ent_l hs] at hq0
  refine va_last C.1 C.2.1 C.2.2.2.2.2.2.2.2 hP hD hS q0 2 hq0 rfl hin d (fun H1 locs1 hP1 hD1 hS1 => ?_)
  have hset : (mw L cA I v u).set q0 (L k, .inl (cA 2, n, .inr (.inl (vp_updL (u k) i.toNatClampNeg x)))) = mw L cA I v (up3 u k i.toNatClampNeg x) :=
    mw_set hD hi0 (by rw [ent_l hs, up3_self]) (fun a ha => rfl) (fun a ha => up3_ne ha)
  rw [hset] at hP1 hD1
  exact kk L cA D p e s m args below meth c H1 locs1 ls C hP1 hD1 hS1 hl
theorem J_alen {k n : Nat} {x : Int32} (d : decode y.2.1 pc = .ok (.arraylength, 1)) (hk : k ∈ I) (hs : sh k = (20, n)) (hx : Int32.ofNat n = x) (kk : J l y I v u (pc + 1) lv (.int x :: st) Q) : J l y I v u pc lv (.ref k :: st) Q := by
  intro L cA D p e s m args below meth c H locs ls C hP hD hS hl
  obtain ⟨q0, -, hq0⟩ := mw_get (L := L) (cA := cA) (v := v) (u := u) hk
  rw [ent_i hs] at hq0
  exact va_alen C.1 C.2.1 C.2.2.2.2.2.2.2.2 hP q0 0 hq0 rfl hx d (kk L cA D p e s m args below meth c H locs ls C hP hD hS hl)
theorem J_iret {x : Int32} (d : decode y.2.1 pc = .ok (.ireturn, 1)) (hr : y.2.2.2.1 = some .int) (hq : Q (some (.int x)) v u) : J l y I v u pc lv [.int x] Q := by
  intro L cA D p e s m args below meth c H locs ls C hP hD hS hl
  exact W.iret (v := x) C.1 C.2.1 (C.2.2.1.trans hr) (fun t ht hW => ⟨⟨some (.int x), v, u, rfl, hq, by rw [ht]; exact hP, va_K.moved hW.alike C.2.2.2.2.2.2.2.2⟩, hS.F ht⟩) hS.2.2 d C.2.2.2.2.2.1
theorem J_zret {x : Int32} (d : decode y.2.1 pc = .ok (.ireturn, 1)) (hr : y.2.2.2.1 = some .boolean) (hx : narrow .boolean (.int x) = .int x) (hq : Q (some (.int x)) v u) : J l y I v u pc lv [.int x] Q := by
  intro L cA D p e s m args below meth c H locs ls C hP hD hS hl
  exact W.zret (v := x) C.1 C.2.1 (C.2.2.1.trans hr) hx (fun t ht hW => ⟨⟨some (.int x), v, u, rfl, hq, by rw [ht]; exact hP, va_K.moved hW.alike C.2.2.2.2.2.2.2.2⟩, hS.F ht⟩) hS.2.2 d C.2.2.2.2.2.1
theorem J_lret {x : Int64} (d : decode y.2.1 pc = .ok (.lreturn, 1)) (hr : y.2.2.2.1 = some .long) (hq : Q (some (.long x)) v u) : J l y I v u pc lv [.long x] Q := by
  intro L cA D p e s m args below meth c H locs ls C hP hD hS hl
  exact W.lret (v := x) C.1 C.2.1 (C.2.2.1.trans hr) (fun t ht hW => ⟨⟨some (.long x), v, u, rfl, hq, by rw [ht]; exact hP, va_K.moved hW.alike C.2.2.2.2.2.2.2.2⟩, hS.F ht⟩) hS.2.2 d C.2.2.2.2.2.1
theorem J_vret (d : decode y.2.1 pc = .ok (.return_, 1)) (hr : y.2.2.2.1 = none) (hq : Q none v u) : J l y I v u pc lv [] Q := by
  intro L cA D p e s m args below meth c H locs ls C hP hD hS hl
  exact W.vret C.1 C.2.1 (C.2.2.1.trans hr) (fun t ht hW => ⟨⟨none, v, u, rfl, hq, by rw [ht]; exact hP, va_K.moved hW.alike C.2.2.2.2.2.2.2.2⟩, hS.F ht⟩) hS.2.2 d C.2.2.2.2.2.1
theorem J_aret {x : Value} (d : decode y.2.1 pc = .ok (.areturn, 1)) {C9 : String} (hr : y.2.2.2.1 = some (.object C9)) (hx : x = .null ∨ ∃ a, x = .ref a) (hq : Q (some x) v u) : J l y I v u pc lv [x] Q := by
  intro L cA D p e s m args below meth c H locs ls C hP hD hS hl
  exact W.aret (v := cv L x) C.1 C.2.1 (C.2.2.1.trans hr) (Or.inl ⟨_, rfl⟩) (hx.elim (fun h => Or.inl (by rw [h]; rfl)) (fun ⟨a, h⟩ => Or.inr ⟨L a, by rw [h]; rfl⟩)) (fun t ht hW => ⟨⟨some x, v, u, rfl, hq, by rw [ht]; exact hP, va_K.moved hW.alike C.2.2.2.2.2.2.2.2⟩, hS.F ht⟩) hS.2.2 d C.2.2.2.2.2.1
/-- what the tables say of a method that is called: n its number of arguments -/
def MOK (z : fr_M) (n : Nat) : Prop := Cond.code z.1 z.2.1 z.2.2.1 z.2.2.2.1 ∈ gt ∧ Cond.initialized z.1.cls ∈ gt ∧ (z.1.cls ≠ "java/lang/invoke/MethodHandle" ∧ z.1.cls ≠ "java/lang/invoke/VarHandle" ∧ (parseMethodDescriptor z.1.desc).map (fun d => d.parameters.length) = some n)
theorem fr_good {z : fr_M} {n : Nat} (h : MOK z n) : GoodIn gt (fr_ws z) := fun w hw => by
  rcases List.mem_cons.mp hw with rfl | hw
  · exact ⟨h.1, gt_good h.1⟩
  · exact ⟨hw, gt_good hw⟩
theorem fr_blind {L : Nat → Nat} {cA : Nat → ClassId} {D : va_G} {av : List Value} : FrameBlind (va_Pc av (fr_P L cA D I v u)) := by
  intro a U g mk q
  obtain ⟨q0, qP, qK, qD, qX⟩ := q
  exact ⟨q0, qP, va_K.moved (u := U) (U := U.calling g mk a) (Vm.Alike.refl U.vm) qK, qD, fr_X.same (u := U) (U := U.calling g mk a) rfl qX⟩
theorem fr_pre {L : Nat → Nat} {cA : Nat → ClassId} {D : va_G} {av : List Value} {s : State} {H : Heap} {locs : List Loc} (hP : va_P D fr_cls (mw L cA I v u) H) (hD : va_D (Aw L I) (mw L cA I v u)) (hS : va_S (Aw L I) s.heap H locs) (hK : va_K D fr_cls (fr_tys cA) s) (hX : fr_X L (Aw L I) s s.heap) : ∀ U : State, U.heap = H → s.WarmedH U.vm → va_Pc av (fr_P L cA D I v u) av.toArray U := by
  intro U hU hW
  refine ⟨rfl, by rw [hU]; exact hP, va_K.moved hW.alike hK, hD, ?_⟩
  rw [hU]
  exact fr_X.warm hW (hX.kept hS.2.1)
theorem J_back {z : fr_M} {L : Nat → Nat} {cA : Nat → ClassId} {D : va_G} {p : Program} {e : Env} {s : State} {m : MethodId} {args : Array Value} {below : List Frame} {meth : Method} {c : Code} {H : Heap} {locs : List Loc} {ls : Array Slot} {a9 : Array Value} {st0 rest : List Value} {Qz : Option Value → fr_V → fr_U → Prop}
    (hr : va_Run p l e (fr_rm y) s m args below meth c H locs 0 0 0 0 (F0 m pc ls st0) (rest.map (cv L)) (fr_Q L cA D I Qz a9) (Aw L I)) (C : fr_C L cA D I y p s m args meth c) (hD : va_D (Aw L I) (mw L cA I v u)) (hS : va_S (Aw L I) s.heap H locs) (hl : lv_has ls y.2.2.1 (lv.map (cvp L)))
    (k : ∀ r v' u', Qz r v' u' → J l y I v' u' (pc + 3) lv (r.toList ++ rest) Q) : W p l e (fr_rm y) s m args below meth c H locs 0 0 (MQ below (fr_Q L cA D I Q) args s 0 0 (Aw L I)) (F0 m pc ls st0) := by
  intro T hT X
  obtain ⟨r9, st₀, t, T', L9, h0, X', hL9, e1, e2, ⟨⟨r, v', u', hv, hq, hP', hK'⟩, hz, hk⟩, stp⟩ := hr T hT X
  have hv2 : r9 = r.map (cv L) := Outcome.returned.inj hv
  subst hv2
  rw [h0] at hz hk
  have hS1 : va_S (Aw L I) s.heap T'.heap (locs ++ L9) := ⟨Nat.le_trans hS.1 (by rw [e1]; exact hz), fun q h1 h2 => by rw [e1, hk q (Nat.lt_of_lt_of_le h1 hS.1) h2]; exact hS.2.1 q h1 h2, fun q hq => by
      rcases List.mem_append.mp hq with h | h
      · exact hS.2.2 q h
      · exact hL9 q h⟩
  have hW := k r v' u' hq L cA D p e s m args below meth c T'.heap (locs ++ L9) ls C (by rw [e1]; exact hP') (mw_D hD) hS1 hl
  obtain ⟨t2, a1, b1⟩ := hW T' rfl X'
  refine ⟨t2, stp t2 ?_, b1⟩
  have he : (r.toList ++ rest).map (cv L) = (r.map (cv L)).toList ++ rest.map (cv L) := by cases r <;> simp
  rw [he] at a1
  exact a1
theorem J_callV {z : fr_M} {idx o ci n : Nat} {As rest : List Value} {Qz : Option Value → fr_V → fr_U → Prop} (d : decode y.2.1 pc = .ok (.invokevirtual idx, 3)) (hw : Cond.methodLink y.1.cls idx z.1 ∈ gt) (hz : MOK z n) (hv : Cond.instanceMethod z.1 ∈ gt ∧ Cond.selects z.1.cls z.1 z.1 ∈ gt) (hR : z.2.2.2.2.1 + 1 ≤ y.2.2.2.2.1 ∧ 8 + (z.2.2.1 + 11) + z.2.2.2.2.2 ≤ y.2.2.2.2.2)
    (ho : o ∈ I) (hs : (sh o).1 = ci) (hc : (fr_cls[ci]?).map (fun q => q.1) = some z.1.cls) (hst : st = As.reverse ++ .ref o :: rest) (hn : As.length = n) (hsum : (rest.map fun x => x.category).sum ≤ 8) (hC : Con l z I v u (.ref o :: As) Qz)
    (k : ∀ r v' u', Qz r v' u' → J l y I v' u' (pc + 3) lv (r.toList ++ rest) Q) : J l y I v u pc lv st Q := by
  intro L cA D p e s m args below meth c H locs ls C hP hD hS hl
  subst hst
  obtain ⟨q, hcq, hq1⟩ : ∃ q : vw_C, fr_cls[ci]? = some q ∧ q.1 = z.1.cls := by
    cases h : fr_cls[ci]? with
    | none => rw [h] at hc; cases hc
    | some q => rw [h] at hc; exact ⟨q, rfl, Option.some.inj hc⟩
  have hci : ci < 12 := (List.getElem?_eq_some_iff.mp hcq).1
  obtain ⟨q0, -, hq0⟩ := mw_get (L := L) (cA := cA) (v := v) (u := u) ho
  rw [ent_o hs (by omega)] at hq0
  have hT := C.2.2.2.2.2.2.1
  have cb : CallB (fr_rm y) s args y.1.cls idx z.1 z.2.1 z.2.2.1 z.2.2.2.1 (fr_ws z) (fr_rm z) 0 0 n := callB_of n hT (fr_good hz) rfl rfl rfl (hT _ hz.2.1) (hT _ hw) hz.2.2 hR
  have hrun := va_runV (l := l) (e := e) (below := below) (meth := meth) (H := H) (locs := locs) (cells := 0) (slots := 0) (b := L o) (As := As.map (cv L)) (rest := rest.map (cv L)) (g := F0 m pc ls ((As.reverse ++ .ref o :: rest).map (cv L))) ⟨C.1, C.2.1, C.2.2.2.1, C.2.2.2.2.1, hT⟩ (hC L cA D) (C := z.1.cls) ⟨cb, hT _ hv.1, hT _ hv.2⟩
    ⟨fr_blind, by have hrc := va_recv C.2.2.2.2.2.2.2.2 hP hcq hq0; rw [hq1] at hrc; exact hrc, fr_pre (av := (Value.ref o :: As).map (cv L)) hP hD hS C.2.2.2.2.2.2.2.2 C.2.2.2.2.2.2.2.1⟩ rfl (by rw [List.length_map]; exact hn) hl.1 (by simp [cv, List.map_reverse]) (lv_room (by rw [cv_sum]; exact hsum)) d ⟨Nat.le_refl _, Nat.le_refl _⟩
  exact J_back (z := z) (v := v) (u := u) hrun C hD hS hl k
theorem J_callS {z : fr_M} {idx n : Nat} {As rest : List Value} {Qz : Option Value → fr_V → fr_U → Prop} (d : decode y.2.1 pc = .ok (.invokestatic idx, 3)) (hw : Cond.methodLink y.1.cls idx z.1 ∈ gt) (hz : MOK z n) (hv : Cond.static z.1 ∈ gt) (hR : z.2.2.2.2.1 + 1 ≤ y.2.2.2.2.1 ∧ 8 + (z.2.2.1 + 11) + z.2.2.2.2.2 ≤ y.2.2.2.2.2)
    (hst : st = As.reverse ++ rest) (hn : As.length = n) (hsum : (rest.map fun x => x.category).sum ≤ 8) (hC : Con l z I v u As Qz)
    (k : ∀ r v' u', Qz r v' u' → J l y I v' u' (pc + 3) lv (r.toList ++ rest) Q) : J l y I v u pc lv st Q := by
  intro L cA D p e s m args below meth c H locs ls C hP hD hS hl
  subst hst
  have hT := C.2.2.2.2.2.2.1
  have cb : CallB (fr_rm y) s args y.1.cls idx z.1 z.2.1 z.2.2.1 z.2.2.2.1 (fr_ws z) (fr_rm z) 0 0 n := callB_of n hT (fr_good hz) rfl rfl rfl (hT _ hz.2.1) (hT _ hw) hz.2.2 hR
  have hrun := va_runS (l := l) (e := e) (below := below) (meth := meth) (H := H) (locs := locs) (cells := 0) (slots := 0) (As := As.map (cv L)) (rest := rest.map (cv L)) (g := F0 m pc ls ((As.reverse ++ rest).map (cv L))) ⟨C.1, C.2.1, C.2.2.2.1, C.2.2.2.2.1, hT⟩ (hC L cA D) ⟨cb, hT _ hv⟩
    ⟨fr_blind, fr_pre (av := As.map (cv L)) hP hD hS C.2.2.2.2.2.2.2.2 C.2.2.2.2.2.2.2.1⟩ rfl (by rw [List.length_map]; exact hn) hl.1 (by simp [List.map_reverse]) (lv_room (by rw [cv_sum]; exact hsum)) d ⟨Nat.le_refl _, Nat.le_refl _⟩
  exact J_back (z := z) (v := v) (u := u) hrun C hD hS hl k
end FRH
end
section
def QI (v : fr_V) (u : fr_U) (P : Int32 → Prop) : Option Value → fr_V → fr_U → Prop := fun r v' u' => ∃ x : Int32, r = some (.int x) ∧ v' = v ∧ u' = u ∧ P x
def QL (v : fr_V) (u : fr_U) (P : Int64 → Prop) : Option Value → fr_V → fr_U → Prop := fun r v' u' => ∃ x : Int64, r = some (.long x) ∧ v' = v ∧ u' = u ∧ P x
def QN (u : fr_U) (P : fr_V → Prop) : Option Value → fr_V → fr_U → Prop := fun r v' u' => r = none ∧ u' = u ∧ P v'
def QX (u : fr_U) (P : Int32 → fr_V → Prop) : Option Value → fr_V → fr_U → Prop := fun r v' u' => ∃ x : Int32, r = some (.int x) ∧ u' = u ∧ P x v'
def QY (u : fr_U) (P : Int64 → fr_V → Prop) : Option Value → fr_V → fr_U → Prop := fun r v' u' => ∃ x : Int64, r = some (.long x) ∧ u' = u ∧ P x v'
section FRC
variable {l : Launch} {y : fr_M} {I : List Nat} {v : fr_V} {u : fr_U} {Q : Option Value → fr_V → fr_U → Prop} {pc : Nat} {lv : List (Nat × Value)} {st : List Value}
variable {z : fr_M} {idx o ci n : Nat} {As rest : List Value}
theorem J_putz {idx ci j k : Nat} {x : Int32} (d : decode y.2.1 pc = .ok (.putfield idx, 3)) (hf : FL y.1.cls idx ci j) (hk : k ∈ I) (hs : (sh k).1 = ci) (h0 : fk ci j = 0) (hfin : ∀ q : vw_C, fr_cls[ci]? = some q → (q.2.1 j).2.2.2 = false) (hty : fr_ty ci j = .boolean) (hx : narrow .boolean (.int x) = .int x ∧ fits .boolean (.int x) = true) (kk : J l y I (up2 v k j x) u (pc + 3) lv st Q) : J l y I v u pc lv (.int x :: .ref k :: st) Q :=
  J_putf (x := .int x) (z := x) d hf hk hs (fun L => by simp [fv, h0, cv]) hfin (fun L => by rw [hty]; exact hx.1) (fun L => by rw [hty]; exact hx.2) kk
theorem J_cVI {P : Int32 → Prop} (d : decode y.2.1 pc = .ok (.invokevirtual idx, 3)) (hw : Cond.methodLink y.1.cls idx z.1 ∈ gt) (hz : MOK z n) (hv : Cond.instanceMethod z.1 ∈ gt ∧ Cond.selects z.1.cls z.1 z.1 ∈ gt) (hR : z.2.2.2.2.1 + 1 ≤ y.2.2.2.2.1 ∧ 8 + (z.2.2.1 + 11) + z.2.2.2.2.2 ≤ y.2.2.2.2.2) (ho : o ∈ I) (hs : (sh o).1 = ci) (hc : (fr_cls[ci]?).map (fun q => q.1) = some z.1.cls) (hst : st = As.reverse ++ .ref o :: rest) (hn : As.length = n) (hsum : (rest.map fun x => x.category).sum ≤ 8) (hC : Con l z I v u (.ref o :: As) (QI v u P)) (k : ∀ x : Int32, P x → J l y I v u (pc + 3) lv (.int x :: rest) Q) : J l y I v u pc lv st Q := by
  refine J_callV d hw hz hv hR ho hs hc hst hn hsum hC (fun r v' u' hq => ?_)
  obtain ⟨x, rfl, rfl, rfl, hp⟩ := hq
  exact k x hp
theorem J_cVL {P : Int64 → Prop} (d : decode y.2.1 pc = .ok (.invokevirtual idx, 3)) (hw : Cond.methodLink y.1.cls idx z.1 ∈ gt) (hz : MOK z n) (hv : Cond.instanceMethod z.1 ∈ gt ∧ Cond.selects z.1.cls z.1 z.1 ∈ gt) (hR : z.2.2.2.2.1 + 1 ≤ y.2.2.2.2.1 ∧ 8 + (z.2.2.1 + 11) + z.2.2.2.2.2 ≤ y.2.2.2.2.2) (ho : o ∈ I) (hs : (sh o).1 = ci) (hc : (fr_cls[ci]?).map (fun q => q.1) = some z.1.cls) (hst : st = As.reverse ++ .ref o :: rest) (hn : As.length = n) (hsum : (rest.map fun x => x.category).sum ≤ 8) (hC : Con l z I v u (.ref o :: As) (QL v u P)) (k : ∀ x : Int64, P x → J l y I v u (pc + 3) lv (.long x :: rest) Q) : J l y I v u pc lv st Q := by
  refine J_callV d hw hz hv hR ho hs hc hst hn hsum hC (fun r v' u' hq => ?_)
  obtain ⟨x, rfl, rfl, rfl, hp⟩ := hq
  exact k x hp
theorem J_cVN {P : fr_V → Prop} (d : decode y.2.1 pc = .ok (.invokevirtual idx, 3)) (hw : Cond.methodLink y.1.cls idx z.1 ∈ gt) (hz : MOK z n) (hv : Cond.instanceMethod z.1 ∈ gt ∧ Cond.selects z.1.cls z.1 z.1 ∈ gt) (hR : z.2.2.2.2.1 + 1 ≤ y.2.2.2.2.1 ∧ 8 + (z.2.2.1 + 11) + z.2.2.2.2.2 ≤ y.2.2.2.2.2) (ho : o ∈ I) (hs : (sh o).1 = ci) (hc : (fr_cls[ci]?).map (fun q => q.1) = some z.1.cls) (hst : st = As.reverse ++ .ref o :: rest) (hn : As.length = n) (hsum : (rest.map fun x => x.category).sum ≤ 8) (hC : Con l z I v u (.ref o :: As) (QN u P)) (k : ∀ v' : fr_V, P v' → J l y I v' u (pc + 3) lv rest Q) : J l y I v u pc lv st Q := by
  refine J_callV d hw hz hv hR ho hs hc hst hn hsum hC (fun r v' u' hq => ?_)
  obtain ⟨rfl, rfl, hp⟩ := hq
  exact k v' hp
theorem J_cVX {P : Int32 → fr_V → Prop} (d : decode y.2.1 pc = .ok (.invokevirtual idx, 3)) (hw : Cond.methodLink y.1.cls idx z.1 ∈ gt) (hz : MOK z n) (hv : Cond.instanceMethod z.1 ∈ gt ∧ Cond.selects z.1.cls z.1 z.1 ∈ gt) (hR : z.2.2.2.2.1 + 1 ≤ y.2.2.2.2.1 ∧ 8 + (z.2.2.1 + 11) + z.2.2.2.2.2 ≤ y.2.2.2.2.2) (ho : o ∈ I) (hs : (sh o).1 = ci) (hc : (fr_cls[ci]?).map (fun q => q.1) = some z.1.cls) (hst : st = As.reverse ++ .ref o :: rest) (hn : As.length = n) (hsum : (rest.map fun x => x.category).sum ≤ 8) (hC : Con l z I v u (.ref o :: As) (QX u P)) (k : ∀ (x : Int32) (v' : fr_V), P x v' → J l y I v' u (pc + 3) lv (.int x :: rest) Q) : J l y I v u pc lv st Q := by
  refine J_callV d hw hz hv hR ho hs hc hst hn hsum hC (fun r v' u' hq => ?_)
  obtain ⟨x, rfl, rfl, hp⟩ := hq
  exact k x v' hp
theorem J_cSI {P : Int32 → Prop} (d : decode y.2.1 pc = .ok (.invokestatic idx, 3)) (hw : Cond.methodLink y.1.cls idx z.1 ∈ gt) (hz : MOK z n) (hv : Cond.static z.1 ∈ gt) (hR : z.2.2.2.2.1 + 1 ≤ y.2.2.2.2.1 ∧ 8 + (z.2.2.1 + 11) + z.2.2.2.2.2 ≤ y.2.2.2.2.2) (hst : st = As.reverse ++ rest) (hn : As.length = n) (hsum : (rest.map fun x => x.category).sum ≤ 8) (hC : Con l z I v u As (QI v u P)) (k : ∀ x : Int32, P x → J l y I v u (pc + 3) lv (.int x :: rest) Q) : J l y I v u pc lv st Q := by
  refine J_callS d hw hz hv hR hst hn hsum hC (fun r v' u' hq => ?_)
  obtain ⟨x, rfl, rfl, rfl, hp⟩ := hq
  exact k x hp
theorem J_cSL {P : Int64 → Prop} (d : decode y.2.1 pc = .ok (.invokestatic idx, 3)) (hw : Cond.methodLink y.1.cls idx z.1 ∈ gt) (hz : MOK z n) (hv : Cond.static z.1 ∈ gt) (hR : z.2.2.2.2.1 + 1 ≤ y.2.2.2.2.1 ∧ 8 + (z.2.2.1 + 11) + z.2.2.2.2.2 ≤ y.2.2.2.2.2) (hst : st = As.reverse ++ rest) (hn : As.length = n) (hsum : (rest.map fun x => x.category).sum ≤ 8) (hC : Con l z I v u As (QL v u P)) (k : ∀ x : Int64, P x → J l y I v u (pc + 3) lv (.long x :: rest) Q) : J l y I v u pc lv st Q := by
  refine J_callS d hw hz hv hR hst hn hsum hC (fun r v' u' hq => ?_)
  obtain ⟨x, rfl, rfl, rfl, hp⟩ := hq
  exact k x hp
theorem J_cSN {P : fr_V → Prop} (d : decode y.2.1 pc = .ok (.invokestatic idx, 3)) (hw : Cond.methodLink y.1.cls idx z.1 ∈ gt) (hz : MOK z n) (hv : Cond.static z.1 ∈ gt) (hR : z.2.2.2.2.1 + 1 ≤ y.2.2.2.2.1 ∧ 8 + (z.2.2.1 + 11) + z.2.2.2.2.2 ≤ y.2.2.2.2.2) (hst : st = As.reverse ++ rest) (hn : As.length = n) (hsum : (rest.map fun x => x.category).sum ≤ 8) (hC : Con l z I v u As (QN u P)) (k : ∀ v' : fr_V, P v' → J l y I v' u (pc + 3) lv rest Q) : J l y I v u pc lv st Q := by
  refine J_callS d hw hz hv hR hst hn hsum hC (fun r v' u' hq => ?_)
  obtain ⟨rfl, rfl, hp⟩ := hq
  exact k v' hp
theorem J_cSX {P : Int32 → fr_V → Prop} (d : decode y.2.1 pc = .ok (.invokestatic idx, 3)) (hw : Cond.methodLink y.1.cls idx z.1 ∈ gt) (hz : MOK z n) (hv : Cond.static z.1 ∈ gt) (hR : z.2.2.2.2.1 + 1 ≤ y.2.2.2.2.1 ∧ 8 + (z.2.2.1 + 11) + z.2.2.2.2.2 ≤ y.2.2.2.2.2) (hst : st = As.reverse ++ rest) (hn : As.length = n) (hsum : (rest.map fun x => x.category).sum ≤ 8) (hC : Con l z I v u As (QX u P)) (k : ∀ (x : Int32) (v' : fr_V), P x v' → J l y I v' u (pc + 3) lv (.int x :: rest) Q) : J l y I v u pc lv st Q := by
  refine J_callS d hw hz hv hR hst hn hsum hC (fun r v' u' hq => ?_)
  obtain ⟨x, rfl, rfl, hp⟩ := hq
  exact k x v' hp
end FRC
end
section
section FRE
variable {l : Launch} {y : fr_M} {I : List Nat} {v : fr_V} {u : fr_U} {Q : Option Value → fr_V → fr_U → Prop} {pc : Nat} {lv : List (Nat × Value)} {st : List Value}
variable {z : fr_M} {idx o ci n : Nat} {As rest : List Value}
theorem J_gete {idx ci j k : Nat} {x : Int32} (d : decode y.2.1 pc = .ok (.getfield idx, 3)) (hf : FL y.1.cls idx ci j) (hk : k ∈ I) (hs : (sh k).1 = ci) (h0 : fk ci j = 0) (hx : v k j = x) (kk : J l y I v u (pc + 3) lv (.int x :: st) Q) : J l y I v u pc lv (.ref k :: st) Q := by
  subst hx; exact J_geti d hf hk hs h0 kk
theorem J_iale {k n : Nat} {i x : Int32} (d : decode y.2.1 pc = .ok (.iaload, 1)) (hk : k ∈ I) (hs : sh k = (20, n)) (hin : vp_in i n) (hx : v k i.toNatClampNeg = x) (kk : J l y I v u (pc + 1) lv (.int x :: st) Q) : J l y I v u pc lv (.int i :: .ref k :: st) Q := by
  subst hx; exact J_iald d hk hs hin kk
theorem J_zale {k n : Nat} {i x : Int32} (d : decode y.2.1 pc = .ok (.baload, 1)) (hk : k ∈ I) (hs : sh k = (21, n)) (hin : vp_in i n) (hx : v k i.toNatClampNeg = x) (kk : J l y I v u (pc + 1) lv (.int x :: st) Q) : J l y I v u pc lv (.int i :: .ref k :: st) Q := by
  subst hx; exact J_zald d hk hs hin kk
theorem J_ve {w : fr_V} (h : v = w) (k : J l y I w u pc lv st Q) : J l y I v u pc lv st Q := by subst h; exact k
theorem J_te {a b : Int32} (h : a = b) (k : J l y I v u pc lv (.int b :: st) Q) : J l y I v u pc lv (.int a :: st) Q := by subst h; exact k
theorem J_eVI {x : Int32} (d : decode y.2.1 pc = .ok (.invokevirtual idx, 3)) (hw : Cond.methodLink y.1.cls idx z.1 ∈ gt) (hz : MOK z n) (hv : Cond.instanceMethod z.1 ∈ gt ∧ Cond.selects z.1.cls z.1 z.1 ∈ gt) (hR : z.2.2.2.2.1 + 1 ≤ y.2.2.2.2.1 ∧ 8 + (z.2.2.1 + 11) + z.2.2.2.2.2 ≤ y.2.2.2.2.2) (ho : o ∈ I) (hs : (sh o).1 = ci) (hc : (fr_cls[ci]?).map (fun q => q.1) = some z.1.cls) (hst : st = As.reverse ++ .ref o :: rest) (hn : As.length = n) (hsum : (rest.map fun x => x.category).sum ≤ 8) (hC : Con l z I v u (.ref o :: As) (QI v u (fun a => a = x))) (k : J l y I v u (pc + 3) lv (.int x :: rest) Q) : J l y I v u pc lv st Q := J_cVI d hw hz hv hR ho hs hc hst hn hsum hC (fun a h => by subst h; exact k)
theorem J_eVL {x : Int64} (d : decode y.2.1 pc = .ok (.invokevirtual idx, 3)) (hw : Cond.methodLink y.1.cls idx z.1 ∈ gt) (hz : MOK z n) (hv : Cond.instanceMethod z.1 ∈ gt ∧ Cond.selects z.1.cls z.1 z.1 ∈ gt) (hR : z.2.2.2.2.1 + 1 ≤ y.2.2.2.2.1 ∧ 8 + (z.2.2.1 + 11) + z.2.2.2.2.2 ≤ y.2.2.2.2.2) (ho : o ∈ I) (hs : (sh o).1 = ci) (hc : (fr_cls[ci]?).map (fun q => q.1) = some z.1.cls) (hst : st = As.reverse ++ .ref o :: rest) (hn : As.length = n) (hsum : (rest.map fun x => x.category).sum ≤ 8) (hC : Con l z I v u (.ref o :: As) (QL v u (fun a => a = x))) (k : J l y I v u (pc + 3) lv (.long x :: rest) Q) : J l y I v u pc lv st Q := J_cVL d hw hz hv hR ho hs hc hst hn hsum hC (fun a h => by subst h; exact k)
theorem J_eVN {w : fr_V} (d : decode y.2.1 pc = .ok (.invokevirtual idx, 3)) (hw : Cond.methodLink y.1.cls idx z.1 ∈ gt) (hz : MOK z n) (hv : Cond.instanceMethod z.1 ∈ gt ∧ Cond.selects z.1.cls z.1 z.1 ∈ gt) (hR : z.2.2.2.2.1 + 1 ≤ y.2.2.2.2.1 ∧ 8 + (z.2.2.1 + 11) + z.2.2.2.2.2 ≤ y.2.2.2.2.2) (ho : o ∈ I) (hs : (sh o).1 = ci) (hc : (fr_cls[ci]?).map (fun q => q.1) = some z.1.cls) (hst : st = As.reverse ++ .ref o :: rest) (hn : As.length = n) (hsum : (rest.map fun x => x.category).sum ≤ 8) (hC : Con l z I v u (.ref o :: As) (QN u (fun a => a = w))) (k : J l y I w u (pc + 3) lv rest Q) : J l y I v u pc lv st Q := J_cVN d hw hz hv hR ho hs hc hst hn hsum hC (fun a h => by subst h; exact k)
theorem J_eVX {x : Int32} {w : fr_V} (d : decode y.2.1 pc = .ok (.invokevirtual idx, 3)) (hw : Cond.methodLink y.1.cls idx z.1 ∈ gt) (hz : MOK z n) (hv : Cond.instanceMethod z.1 ∈ gt ∧ Cond.selects z.1.cls z.1 z.1 ∈ gt) (hR : z.2.2.2.2.1 + 1 ≤ y.2.2.2.2.1 ∧ 8 + (z.2.2.1 + 11) + z.2.2.2.2.2 ≤ y.2.2.2.2.2) (ho : o ∈ I) (hs : (sh o).1 = ci) (hc : (fr_cls[ci]?).map (fun q => q.1) = some z.1.cls) (hst : st = As.reverse ++ .ref o :: rest) (hn : As.length = n) (hsum : (rest.map fun x => x.category).sum ≤ 8) (hC : Con l z I v u (.ref o :: As) (QX u (fun a b => a = x ∧ b = w))) (k : J l y I w u (pc + 3) lv (.int x :: rest) Q) : J l y I v u pc lv st Q := J_cVX d hw hz hv hR ho hs hc hst hn hsum hC (fun a c h => by obtain ⟨h1, h2⟩ := h; subst h1; subst h2; exact k)
theorem J_eSI {x : Int32} (d : decode y.2.1 pc = .ok (.invokestatic idx, 3)) (hw : Cond.methodLink y.1.cls idx z.1 ∈ gt) (hz : MOK z n) (hv : Cond.static z.1 ∈ gt) (hR : z.2.2.2.2.1 + 1 ≤ y.2.2.2.2.1 ∧ 8 + (z.2.2.1 + 11) + z.2.2.2.2.2 ≤ y.2.2.2.2.2) (hst : st = As.reverse ++ rest) (hn : As.length = n) (hsum : (rest.map fun x => x.category).sum ≤ 8) (hC : Con l z I v u As (QI v u (fun a => a = x))) (k : J l y I v u (pc + 3) lv (.int x :: rest) Q) : J l y I v u pc lv st Q := J_cSI d hw hz hv hR hst hn hsum hC (fun a h => by subst h; exact k)
theorem J_eSL {x : Int64} (d : decode y.2.1 pc = .ok (.invokestatic idx, 3)) (hw : Cond.methodLink y.1.cls idx z.1 ∈ gt) (hz : MOK z n) (hv : Cond.static z.1 ∈ gt) (hR : z.2.2.2.2.1 + 1 ≤ y.2.2.2.2.1 ∧ 8 + (z.2.2.1 + 11) + z.2.2.2.2.2 ≤ y.2.2.2.2.2) (hst : st = As.reverse ++ rest) (hn : As.length = n) (hsum : (rest.map fun x => x.category).sum ≤ 8) (hC : Con l z I v u As (QL v u (fun a => a = x))) (k : J l y I v u (pc + 3) lv (.long x :: rest) Q) : J l y I v u pc lv st Q := J_cSL d hw hz hv hR hst hn hsum hC (fun a h => by subst h; exact k)
theorem J_eSN {w : fr_V} (d : decode y.2.1 pc = .ok (.invokestatic idx, 3)) (hw : Cond.methodLink y.1.cls idx z.1 ∈ gt) (hz : MOK z n) (hv : Cond.static z.1 ∈ gt) (hR : z.2.2.2.2.1 + 1 ≤ y.2.2.2.2.1 ∧ 8 + (z.2.2.1 + 11) + z.2.2.2.2.2 ≤ y.2.2.2.2.2) (hst : st = As.reverse ++ rest) (hn : As.length = n) (hsum : (rest.map fun x => x.category).sum ≤ 8) (hC : Con l z I v u As (QN u (fun a => a = w))) (k : J l y I w u (pc + 3) lv rest Q) : J l y I v u pc lv st Q := J_cSN d hw hz hv hR hst hn hsum hC (fun a h => by subst h; exact k)
theorem J_eSX {x : Int32} {w : fr_V} (d : decode y.2.1 pc = .ok (.invokestatic idx, 3)) (hw : Cond.methodLink y.1.cls idx z.1 ∈ gt) (hz : MOK z n) (hv : Cond.static z.1 ∈ gt) (hR : z.2.2.2.2.1 + 1 ≤ y.2.2.2.2.1 ∧ 8 + (z.2.2.1 + 11) + z.2.2.2.2.2 ≤ y.2.2.2.2.2) (hst : st = As.reverse ++ rest) (hn : As.length = n) (hsum : (rest.map fun x => x.category).sum ≤ 8) (hC : Con l z I v u As (QX u (fun a b => a = x ∧ b = w))) (k : J l y I w u (pc + 3) lv (.int x :: rest) Q) : J l y I v u pc lv st Q := J_cSX d hw hz hv hR hst hn hsum hC (fun a c h => by obtain ⟨h1, h2⟩ := h; subst h1; subst h2; exact k)
end FRE
end
section
theorem zz_end : True := trivial
end
