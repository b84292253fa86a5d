section
-- ===== PART A: goes FIRST, ahead of the names: the tables' words, and 'selects' of the private methods out of them =====
/-- a private method of a class that the tables say can be made, by its rows of tables_1 -/
def lw_okq (q : MethodName × Nat) : Prop := (q.1.cls ≠ "java/lang/invoke/MethodHandle" ∧ q.1.cls ≠ "java/lang/invoke/VarHandle") ∧ Cond.instantiable q.1.cls q.2 ∈ tables_1 ∧ Cond.privateMethod q.1 ∈ tables_1 ∧ Cond.instanceMethod q.1 ∈ tables_1
theorem lw_p0 : lw_okq (⟨"LesseningGains", "setFromData", "(III)I"⟩, 10) := ⟨⟨by decide +kernel, by decide +kernel⟩, List.mem_of_getElem? (i := 18) (by decide +kernel), List.mem_of_getElem? (i := 270) (by decide +kernel), List.mem_of_getElem? (i := 271) (by decide +kernel)⟩
theorem lw_p1 : lw_okq (⟨"LesseningGains$World", "loadOut", "(I)I"⟩, 9) := ⟨⟨by decide +kernel, by decide +kernel⟩, List.mem_of_getElem? (i := 26) (by decide +kernel), List.mem_of_getElem? (i := 282) (by decide +kernel), List.mem_of_getElem? (i := 283) (by decide +kernel)⟩
theorem lw_p2 : lw_okq (⟨"LesseningGains$World", "worthMet", "(I)I"⟩, 9) := ⟨⟨by decide +kernel, by decide +kernel⟩, List.mem_of_getElem? (i := 26) (by decide +kernel), List.mem_of_getElem? (i := 289) (by decide +kernel), List.mem_of_getElem? (i := 290) (by decide +kernel)⟩
theorem lw_p3 : lw_okq (⟨"LesseningGains$World", "cappedSize", "(I)I"⟩, 9) := ⟨⟨by decide +kernel, by decide +kernel⟩, List.mem_of_getElem? (i := 26) (by decide +kernel), List.mem_of_getElem? (i := 293) (by decide +kernel), List.mem_of_getElem? (i := 294) (by decide +kernel)⟩
theorem lw_p4 : lw_okq (⟨"LesseningGains", "settle", "(II)V"⟩, 10) := ⟨⟨by decide +kernel, by decide +kernel⟩, List.mem_of_getElem? (i := 18) (by decide +kernel), List.mem_of_getElem? (i := 304) (by decide +kernel), List.mem_of_getElem? (i := 305) (by decide +kernel)⟩
theorem lw_p5 : lw_okq (⟨"LesseningGains", "settleIfInRange", "(I)I"⟩, 10) := ⟨⟨by decide +kernel, by decide +kernel⟩, List.mem_of_getElem? (i := 18) (by decide +kernel), List.mem_of_getElem? (i := 331) (by decide +kernel), List.mem_of_getElem? (i := 332) (by decide +kernel)⟩
theorem lw_p6 : lw_okq (⟨"LesseningGains", "errorOfPair", "(II)I"⟩, 10) := ⟨⟨by decide +kernel, by decide +kernel⟩, List.mem_of_getElem? (i := 18) (by decide +kernel), List.mem_of_getElem? (i := 342) (by decide +kernel), List.mem_of_getElem? (i := 343) (by decide +kernel)⟩
theorem lw_p7 : lw_okq (⟨"LesseningGains", "errorOf", "(I)I"⟩, 10) := ⟨⟨by decide +kernel, by decide +kernel⟩, List.mem_of_getElem? (i := 18) (by decide +kernel), List.mem_of_getElem? (i := 346) (by decide +kernel), List.mem_of_getElem? (i := 347) (by decide +kernel)⟩
theorem lw_p8 : lw_okq (⟨"LesseningGains", "leastOverSubsets", "([II)I"⟩, 10) := ⟨⟨by decide +kernel, by decide +kernel⟩, List.mem_of_getElem? (i := 18) (by decide +kernel), List.mem_of_getElem? (i := 355) (by decide +kernel), List.mem_of_getElem? (i := 356) (by decide +kernel)⟩
theorem lw_p9 : lw_okq (⟨"LesseningGains$SetFunction", "gainGrows", "(III)Z"⟩, 2) := ⟨⟨by decide +kernel, by decide +kernel⟩, List.mem_of_getElem? (i := 33) (by decide +kernel), List.mem_of_getElem? (i := 381) (by decide +kernel), List.mem_of_getElem? (i := 382) (by decide +kernel)⟩
theorem lw_p10 : lw_okq (⟨"LesseningGains", "isOrder", "(I)Z"⟩, 10) := ⟨⟨by decide +kernel, by decide +kernel⟩, List.mem_of_getElem? (i := 18) (by decide +kernel), List.mem_of_getElem? (i := 443) (by decide +kernel), List.mem_of_getElem? (i := 444) (by decide +kernel)⟩
theorem lw_p11 : lw_okq (⟨"LesseningGains", "unrank", "(I)V"⟩, 10) := ⟨⟨by decide +kernel, by decide +kernel⟩, List.mem_of_getElem? (i := 18) (by decide +kernel), List.mem_of_getElem? (i := 450) (by decide +kernel), List.mem_of_getElem? (i := 451) (by decide +kernel)⟩
theorem lw_p12 : lw_okq (⟨"LesseningGains", "errorOfChoice", "(II)I"⟩, 10) := ⟨⟨by decide +kernel, by decide +kernel⟩, List.mem_of_getElem? (i := 18) (by decide +kernel), List.mem_of_getElem? (i := 462) (by decide +kernel), List.mem_of_getElem? (i := 463) (by decide +kernel)⟩
theorem lw_p13 : lw_okq (⟨"LesseningGains$SetFunction", "isSmallerCut", "(II)Z"⟩, 2) := ⟨⟨by decide +kernel, by decide +kernel⟩, List.mem_of_getElem? (i := 33) (by decide +kernel), List.mem_of_getElem? (i := 524) (by decide +kernel), List.mem_of_getElem? (i := 525) (by decide +kernel)⟩
theorem lw_p14 : lw_okq (⟨"LesseningGains$Tape", "readCommand", "(I)Z"⟩, 6) := ⟨⟨by decide +kernel, by decide +kernel⟩, List.mem_of_getElem? (i := 113) (by decide +kernel), List.mem_of_getElem? (i := 566) (by decide +kernel), List.mem_of_getElem? (i := 567) (by decide +kernel)⟩
theorem lw_p15 : lw_okq (⟨"LesseningGains$Tape", "endOfWord", "(I)I"⟩, 6) := ⟨⟨by decide +kernel, by decide +kernel⟩, List.mem_of_getElem? (i := 113) (by decide +kernel), List.mem_of_getElem? (i := 570) (by decide +kernel), List.mem_of_getElem? (i := 571) (by decide +kernel)⟩
def lw_privs_1 : List (MethodName × Nat) := [(⟨"LesseningGains", "setFromData", "(III)I"⟩, 10), (⟨"LesseningGains$World", "loadOut", "(I)I"⟩, 9), (⟨"LesseningGains$World", "worthMet", "(I)I"⟩, 9), (⟨"LesseningGains$World", "cappedSize", "(I)I"⟩, 9), (⟨"LesseningGains", "settle", "(II)V"⟩, 10), (⟨"LesseningGains", "settleIfInRange", "(I)I"⟩, 10), (⟨"LesseningGains", "errorOfPair", "(II)I"⟩, 10), (⟨"LesseningGains", "errorOf", "(I)I"⟩, 10), (⟨"LesseningGains", "leastOverSubsets", "([II)I"⟩, 10), (⟨"LesseningGains$SetFunction", "gainGrows", "(III)Z"⟩, 2), (⟨"LesseningGains", "isOrder", "(I)Z"⟩, 10), (⟨"LesseningGains", "unrank", "(I)V"⟩, 10), (⟨"LesseningGains", "errorOfChoice", "(II)I"⟩, 10), (⟨"LesseningGains$SetFunction", "isSmallerCut", "(II)Z"⟩, 2), (⟨"LesseningGains$Tape", "readCommand", "(I)Z"⟩, 6), (⟨"LesseningGains$Tape", "endOfWord", "(I)I"⟩, 6)]
theorem lw_r1 : ∀ q ∈ lw_privs_1, lw_okq q := List.forall_mem_cons.mpr ⟨lw_p0, List.forall_mem_cons.mpr ⟨lw_p1, List.forall_mem_cons.mpr ⟨lw_p2, List.forall_mem_cons.mpr ⟨lw_p3, List.forall_mem_cons.mpr ⟨lw_p4, List.forall_mem_cons.mpr ⟨lw_p5, List.forall_mem_cons.mpr ⟨lw_p6, List.forall_mem_cons.mpr ⟨lw_p7, List.forall_mem_cons.mpr ⟨lw_p8, List.forall_mem_cons.mpr ⟨lw_p9, List.forall_mem_cons.mpr ⟨lw_p10, List.forall_mem_cons.mpr ⟨lw_p11, List.forall_mem_cons.mpr ⟨lw_p12, List.forall_mem_cons.mpr ⟨lw_p13, List.forall_mem_cons.mpr ⟨lw_p14, List.forall_mem_cons.mpr ⟨lw_p15, fun _ h => absurd h List.not_mem_nil⟩⟩⟩⟩⟩⟩⟩⟩⟩⟩⟩⟩⟩⟩⟩⟩
theorem lw_p16 : lw_okq (⟨"LesseningGains$Tape", "findWord", "(II)I"⟩, 6) := ⟨⟨by decide +kernel, by decide +kernel⟩, List.mem_of_getElem? (i := 113) (by decide +kernel), List.mem_of_getElem? (i := 574) (by decide +kernel), List.mem_of_getElem? (i := 575) (by decide +kernel)⟩
theorem lw_p17 : lw_okq (⟨"LesseningGains$Tape", "isSame", "(Ljava/lang/String;II)Z"⟩, 6) := ⟨⟨by decide +kernel, by decide +kernel⟩, List.mem_of_getElem? (i := 113) (by decide +kernel), List.mem_of_getElem? (i := 592) (by decide +kernel), List.mem_of_getElem? (i := 593) (by decide +kernel)⟩
theorem lw_p18 : lw_okq (⟨"LesseningGains$Tape", "readNumber", "(I)Z"⟩, 6) := ⟨⟨by decide +kernel, by decide +kernel⟩, List.mem_of_getElem? (i := 113) (by decide +kernel), List.mem_of_getElem? (i := 646) (by decide +kernel), List.mem_of_getElem? (i := 647) (by decide +kernel)⟩
theorem lw_p19 : lw_okq (⟨"LesseningGains$Tape", "isNext", "(C)Z"⟩, 6) := ⟨⟨by decide +kernel, by decide +kernel⟩, List.mem_of_getElem? (i := 113) (by decide +kernel), List.mem_of_getElem? (i := 650) (by decide +kernel), List.mem_of_getElem? (i := 651) (by decide +kernel)⟩
theorem lw_p20 : lw_okq (⟨"LesseningGains$Tape", "isDigitNext", "()Z"⟩, 6) := ⟨⟨by decide +kernel, by decide +kernel⟩, List.mem_of_getElem? (i := 113) (by decide +kernel), List.mem_of_getElem? (i := 654) (by decide +kernel), List.mem_of_getElem? (i := 655) (by decide +kernel)⟩
theorem lw_p21 : lw_okq (⟨"LesseningGains", "obey", "(I)Z"⟩, 10) := ⟨⟨by decide +kernel, by decide +kernel⟩, List.mem_of_getElem? (i := 18) (by decide +kernel), List.mem_of_getElem? (i := 658) (by decide +kernel), List.mem_of_getElem? (i := 659) (by decide +kernel)⟩
theorem lw_p22 : lw_okq (⟨"LesseningGainsModel", "empties", "()V"⟩, 27) := ⟨⟨by decide +kernel, by decide +kernel⟩, List.mem_of_getElem? (i := 756) (by decide +kernel), List.mem_of_getElem? (i := 764) (by decide +kernel), List.mem_of_getElem? (i := 765) (by decide +kernel)⟩
theorem lw_p23 : lw_okq (⟨"LesseningGainsModel", "isPoint", "(I)Z"⟩, 27) := ⟨⟨by decide +kernel, by decide +kernel⟩, List.mem_of_getElem? (i := 756) (by decide +kernel), List.mem_of_getElem? (i := 862) (by decide +kernel), List.mem_of_getElem? (i := 863) (by decide +kernel)⟩
theorem lw_p24 : lw_okq (⟨"LesseningGainsModel", "isSet", "(I)Z"⟩, 27) := ⟨⟨by decide +kernel, by decide +kernel⟩, List.mem_of_getElem? (i := 756) (by decide +kernel), List.mem_of_getElem? (i := 872) (by decide +kernel), List.mem_of_getElem? (i := 873) (by decide +kernel)⟩
theorem lw_p25 : lw_okq (⟨"LesseningGainsModel", "all", "()I"⟩, 27) := ⟨⟨by decide +kernel, by decide +kernel⟩, List.mem_of_getElem? (i := 756) (by decide +kernel), List.mem_of_getElem? (i := 876) (by decide +kernel), List.mem_of_getElem? (i := 877) (by decide +kernel)⟩
theorem lw_p26 : lw_okq (⟨"LesseningGainsModel", "sets", "()I"⟩, 27) := ⟨⟨by decide +kernel, by decide +kernel⟩, List.mem_of_getElem? (i := 756) (by decide +kernel), List.mem_of_getElem? (i := 880) (by decide +kernel), List.mem_of_getElem? (i := 881) (by decide +kernel)⟩
theorem lw_p27 : lw_okq (⟨"LesseningGainsModel", "makes", "(III)I"⟩, 27) := ⟨⟨by decide +kernel, by decide +kernel⟩, List.mem_of_getElem? (i := 756) (by decide +kernel), List.mem_of_getElem? (i := 919) (by decide +kernel), List.mem_of_getElem? (i := 920) (by decide +kernel)⟩
theorem lw_p28 : lw_okq (⟨"LesseningGainsModel", "cutOf", "(I)I"⟩, 27) := ⟨⟨by decide +kernel, by decide +kernel⟩, List.mem_of_getElem? (i := 756) (by decide +kernel), List.mem_of_getElem? (i := 923) (by decide +kernel), List.mem_of_getElem? (i := 924) (by decide +kernel)⟩
theorem lw_p29 : lw_okq (⟨"LesseningGainsModel", "coverOf", "(I)I"⟩, 27) := ⟨⟨by decide +kernel, by decide +kernel⟩, List.mem_of_getElem? (i := 756) (by decide +kernel), List.mem_of_getElem? (i := 930) (by decide +kernel), List.mem_of_getElem? (i := 931) (by decide +kernel)⟩
theorem lw_p30 : lw_okq (⟨"LesseningGainsModel", "cappedOf", "(I)I"⟩, 27) := ⟨⟨by decide +kernel, by decide +kernel⟩, List.mem_of_getElem? (i := 756) (by decide +kernel), List.mem_of_getElem? (i := 934) (by decide +kernel), List.mem_of_getElem? (i := 935) (by decide +kernel)⟩
theorem lw_p31 : lw_okq (⟨"LesseningGainsModel", "weightOf", "(I)I"⟩, 27) := ⟨⟨by decide +kernel, by decide +kernel⟩, List.mem_of_getElem? (i := 756) (by decide +kernel), List.mem_of_getElem? (i := 939) (by decide +kernel), List.mem_of_getElem? (i := 940) (by decide +kernel)⟩
def lw_privs_2 : List (MethodName × Nat) := [(⟨"LesseningGains$Tape", "findWord", "(II)I"⟩, 6), (⟨"LesseningGains$Tape", "isSame", "(Ljava/lang/String;II)Z"⟩, 6), (⟨"LesseningGains$Tape", "readNumber", "(I)Z"⟩, 6), (⟨"LesseningGains$Tape", "isNext", "(C)Z"⟩, 6), (⟨"LesseningGains$Tape", "isDigitNext", "()Z"⟩, 6), (⟨"LesseningGains", "obey", "(I)Z"⟩, 10), (⟨"LesseningGainsModel", "empties", "()V"⟩, 27), (⟨"LesseningGainsModel", "isPoint", "(I)Z"⟩, 27), (⟨"LesseningGainsModel", "isSet", "(I)Z"⟩, 27), (⟨"LesseningGainsModel", "all", "()I"⟩, 27), (⟨"LesseningGainsModel", "sets", "()I"⟩, 27), (⟨"LesseningGainsModel", "makes", "(III)I"⟩, 27), (⟨"LesseningGainsModel", "cutOf", "(I)I"⟩, 27), (⟨"LesseningGainsModel", "coverOf", "(I)I"⟩, 27), (⟨"LesseningGainsModel", "cappedOf", "(I)I"⟩, 27), (⟨"LesseningGainsModel", "weightOf", "(I)I"⟩, 27)]
theorem lw_r2 : ∀ q ∈ lw_privs_2, lw_okq q := List.forall_mem_cons.mpr ⟨lw_p16, List.forall_mem_cons.mpr ⟨lw_p17, List.forall_mem_cons.mpr ⟨lw_p18, List.forall_mem_cons.mpr ⟨lw_p19, List.forall_mem_cons.mpr ⟨lw_p20, List.forall_mem_cons.mpr ⟨lw_p21, List.forall_mem_cons.mpr ⟨lw_p22, List.forall_mem_cons.mpr ⟨lw_p23, List.forall_mem_cons.mpr ⟨lw_p24, List.forall_mem_cons.mpr ⟨lw_p25, List.forall_mem_cons.mpr ⟨lw_p26, List.forall_mem_cons.mpr ⟨lw_p27, List.forall_mem_cons.mpr ⟨lw_p28, List.forall_mem_cons.mpr ⟨lw_p29, List.forall_mem_cons.mpr ⟨lw_p30, List.forall_mem_cons.mpr ⟨lw_p31, fun _ h => absurd h List.not_mem_nil⟩⟩⟩⟩⟩⟩⟩⟩⟩⟩⟩⟩⟩⟩⟩⟩
theorem lw_p32 : lw_okq (⟨"LesseningGainsModel", "becomes", "(II)V"⟩, 27) := ⟨⟨by decide +kernel, by decide +kernel⟩, List.mem_of_getElem? (i := 756) (by decide +kernel), List.mem_of_getElem? (i := 943) (by decide +kernel), List.mem_of_getElem? (i := 944) (by decide +kernel)⟩
theorem lw_p33 : lw_okq (⟨"LesseningGainsModel", "isThere", "(I)Z"⟩, 27) := ⟨⟨by decide +kernel, by decide +kernel⟩, List.mem_of_getElem? (i := 756) (by decide +kernel), List.mem_of_getElem? (i := 963) (by decide +kernel), List.mem_of_getElem? (i := 964) (by decide +kernel)⟩
theorem lw_p34 : lw_okq (⟨"LesseningGainsModel", "comes", "(I)I"⟩, 27) := ⟨⟨by decide +kernel, by decide +kernel⟩, List.mem_of_getElem? (i := 756) (by decide +kernel), List.mem_of_getElem? (i := 967) (by decide +kernel), List.mem_of_getElem? (i := 968) (by decide +kernel)⟩
theorem lw_p35 : lw_okq (⟨"LesseningGainsModel", "areValues", "()Z"⟩, 27) := ⟨⟨by decide +kernel, by decide +kernel⟩, List.mem_of_getElem? (i := 756) (by decide +kernel), List.mem_of_getElem? (i := 971) (by decide +kernel), List.mem_of_getElem? (i := 972) (by decide +kernel)⟩
theorem lw_p36 : lw_okq (⟨"LesseningGainsModel", "failing", "(I)I"⟩, 27) := ⟨⟨by decide +kernel, by decide +kernel⟩, List.mem_of_getElem? (i := 756) (by decide +kernel), List.mem_of_getElem? (i := 1000) (by decide +kernel), List.mem_of_getElem? (i := 1001) (by decide +kernel)⟩
theorem lw_p37 : lw_okq (⟨"LesseningGainsModel", "lessens", "(IIII)Z"⟩, 27) := ⟨⟨by decide +kernel, by decide +kernel⟩, List.mem_of_getElem? (i := 756) (by decide +kernel), List.mem_of_getElem? (i := 1004) (by decide +kernel), List.mem_of_getElem? (i := 1005) (by decide +kernel)⟩
theorem lw_p38 : lw_okq (⟨"LesseningGainsModel", "gainOf", "(III)I"⟩, 27) := ⟨⟨by decide +kernel, by decide +kernel⟩, List.mem_of_getElem? (i := 756) (by decide +kernel), List.mem_of_getElem? (i := 1008) (by decide +kernel), List.mem_of_getElem? (i := 1009) (by decide +kernel)⟩
theorem lw_p39 : lw_okq (⟨"LesseningGainsModel", "isRising", "(I)Z"⟩, 27) := ⟨⟨by decide +kernel, by decide +kernel⟩, List.mem_of_getElem? (i := 756) (by decide +kernel), List.mem_of_getElem? (i := 1015) (by decide +kernel), List.mem_of_getElem? (i := 1016) (by decide +kernel)⟩
theorem lw_p40 : lw_okq (⟨"LesseningGainsModel", "isEven", "(I)Z"⟩, 27) := ⟨⟨by decide +kernel, by decide +kernel⟩, List.mem_of_getElem? (i := 756) (by decide +kernel), List.mem_of_getElem? (i := 1019) (by decide +kernel), List.mem_of_getElem? (i := 1020) (by decide +kernel)⟩
theorem lw_p41 : lw_okq (⟨"LesseningGainsModel", "isPlain", "(I)Z"⟩, 27) := ⟨⟨by decide +kernel, by decide +kernel⟩, List.mem_of_getElem? (i := 756) (by decide +kernel), List.mem_of_getElem? (i := 1023) (by decide +kernel), List.mem_of_getElem? (i := 1024) (by decide +kernel)⟩
theorem lw_p42 : lw_okq (⟨"LesseningGainsModel", "isOrder", "(I)Z"⟩, 27) := ⟨⟨by decide +kernel, by decide +kernel⟩, List.mem_of_getElem? (i := 756) (by decide +kernel), List.mem_of_getElem? (i := 1053) (by decide +kernel), List.mem_of_getElem? (i := 1054) (by decide +kernel)⟩
theorem lw_p43 : lw_okq (⟨"LesseningGainsModel", "layOrder", "(I)V"⟩, 27) := ⟨⟨by decide +kernel, by decide +kernel⟩, List.mem_of_getElem? (i := 756) (by decide +kernel), List.mem_of_getElem? (i := 1060) (by decide +kernel), List.mem_of_getElem? (i := 1061) (by decide +kernel)⟩
theorem lw_p44 : lw_okq (⟨"LesseningGainsModel", "baseOf", "(II)I"⟩, 27) := ⟨⟨by decide +kernel, by decide +kernel⟩, List.mem_of_getElem? (i := 756) (by decide +kernel), List.mem_of_getElem? (i := 1064) (by decide +kernel), List.mem_of_getElem? (i := 1065) (by decide +kernel)⟩
theorem lw_p45 : lw_okq (⟨"LesseningGainsModel", "isBase", "(I)Z"⟩, 27) := ⟨⟨by decide +kernel, by decide +kernel⟩, List.mem_of_getElem? (i := 756) (by decide +kernel), List.mem_of_getElem? (i := 1077) (by decide +kernel), List.mem_of_getElem? (i := 1078) (by decide +kernel)⟩
theorem lw_p46 : lw_okq (⟨"LesseningGainsModel", "spare", "(II)I"⟩, 27) := ⟨⟨by decide +kernel, by decide +kernel⟩, List.mem_of_getElem? (i := 756) (by decide +kernel), List.mem_of_getElem? (i := 1081) (by decide +kernel), List.mem_of_getElem? (i := 1082) (by decide +kernel)⟩
theorem lw_p47 : lw_okq (⟨"LesseningGainsModel", "leastOf", "(I)I"⟩, 27) := ⟨⟨by decide +kernel, by decide +kernel⟩, List.mem_of_getElem? (i := 756) (by decide +kernel), List.mem_of_getElem? (i := 1089) (by decide +kernel), List.mem_of_getElem? (i := 1090) (by decide +kernel)⟩
def lw_privs_3 : List (MethodName × Nat) := [(⟨"LesseningGainsModel", "becomes", "(II)V"⟩, 27), (⟨"LesseningGainsModel", "isThere", "(I)Z"⟩, 27), (⟨"LesseningGainsModel", "comes", "(I)I"⟩, 27), (⟨"LesseningGainsModel", "areValues", "()Z"⟩, 27), (⟨"LesseningGainsModel", "failing", "(I)I"⟩, 27), (⟨"LesseningGainsModel", "lessens", "(IIII)Z"⟩, 27), (⟨"LesseningGainsModel", "gainOf", "(III)I"⟩, 27), (⟨"LesseningGainsModel", "isRising", "(I)Z"⟩, 27), (⟨"LesseningGainsModel", "isEven", "(I)Z"⟩, 27), (⟨"LesseningGainsModel", "isPlain", "(I)Z"⟩, 27), (⟨"LesseningGainsModel", "isOrder", "(I)Z"⟩, 27), (⟨"LesseningGainsModel", "layOrder", "(I)V"⟩, 27), (⟨"LesseningGainsModel", "baseOf", "(II)I"⟩, 27), (⟨"LesseningGainsModel", "isBase", "(I)Z"⟩, 27), (⟨"LesseningGainsModel", "spare", "(II)I"⟩, 27), (⟨"LesseningGainsModel", "leastOf", "(I)I"⟩, 27)]
theorem lw_r3 : ∀ q ∈ lw_privs_3, lw_okq q := List.forall_mem_cons.mpr ⟨lw_p32, List.forall_mem_cons.mpr ⟨lw_p33, List.forall_mem_cons.mpr ⟨lw_p34, List.forall_mem_cons.mpr ⟨lw_p35, List.forall_mem_cons.mpr ⟨lw_p36, List.forall_mem_cons.mpr ⟨lw_p37, List.forall_mem_cons.mpr ⟨lw_p38, List.forall_mem_cons.mpr ⟨lw_p39, List.forall_mem_cons.mpr ⟨lw_p40, List.forall_mem_cons.mpr ⟨lw_p41, List.forall_mem_cons.mpr ⟨lw_p42, List.forall_mem_cons.mpr ⟨lw_p43, List.forall_mem_cons.mpr ⟨lw_p44, List.forall_mem_cons.mpr ⟨lw_p45, List.forall_mem_cons.mpr ⟨lw_p46, List.forall_mem_cons.mpr ⟨lw_p47, fun _ h => absurd h List.not_mem_nil⟩⟩⟩⟩⟩⟩⟩⟩⟩⟩⟩⟩⟩⟩⟩⟩
theorem lw_p48 : lw_okq (⟨"LesseningGainsModel", "areClosed", "(II)Z"⟩, 27) := ⟨⟨by decide +kernel, by decide +kernel⟩, List.mem_of_getElem? (i := 756) (by decide +kernel), List.mem_of_getElem? (i := 1097) (by decide +kernel), List.mem_of_getElem? (i := 1098) (by decide +kernel)⟩
theorem lw_p49 : lw_okq (⟨"LesseningGainsModel", "layLevels", "(I)V"⟩, 27) := ⟨⟨by decide +kernel, by decide +kernel⟩, List.mem_of_getElem? (i := 756) (by decide +kernel), List.mem_of_getElem? (i := 1109) (by decide +kernel), List.mem_of_getElem? (i := 1110) (by decide +kernel)⟩
theorem lw_p50 : lw_okq (⟨"LesseningGainsModel", "isLower", "(IIII)Z"⟩, 27) := ⟨⟨by decide +kernel, by decide +kernel⟩, List.mem_of_getElem? (i := 756) (by decide +kernel), List.mem_of_getElem? (i := 1113) (by decide +kernel), List.mem_of_getElem? (i := 1114) (by decide +kernel)⟩
theorem lw_p51 : lw_okq (⟨"LesseningGainsModel", "areUnlike", "(II)Z"⟩, 27) := ⟨⟨by decide +kernel, by decide +kernel⟩, List.mem_of_getElem? (i := 756) (by decide +kernel), List.mem_of_getElem? (i := 1133) (by decide +kernel), List.mem_of_getElem? (i := 1134) (by decide +kernel)⟩
theorem lw_p52 : lw_okq (⟨"LesseningGainsModel", "wallOf", "(III)I"⟩, 27) := ⟨⟨by decide +kernel, by decide +kernel⟩, List.mem_of_getElem? (i := 756) (by decide +kernel), List.mem_of_getElem? (i := 1137) (by decide +kernel), List.mem_of_getElem? (i := 1138) (by decide +kernel)⟩
theorem lw_p53 : lw_okq (⟨"LesseningGainsModel", "greed", "(II)I"⟩, 27) := ⟨⟨by decide +kernel, by decide +kernel⟩, List.mem_of_getElem? (i := 756) (by decide +kernel), List.mem_of_getElem? (i := 1149) (by decide +kernel), List.mem_of_getElem? (i := 1150) (by decide +kernel)⟩
theorem lw_p54 : lw_okq (⟨"LesseningGainsModel", "best", "(II)I"⟩, 27) := ⟨⟨by decide +kernel, by decide +kernel⟩, List.mem_of_getElem? (i := 756) (by decide +kernel), List.mem_of_getElem? (i := 1153) (by decide +kernel), List.mem_of_getElem? (i := 1154) (by decide +kernel)⟩
theorem lw_p55 : lw_okq (⟨"LesseningGainsModel", "takesAll", "()Z"⟩, 27) := ⟨⟨by decide +kernel, by decide +kernel⟩, List.mem_of_getElem? (i := 756) (by decide +kernel), List.mem_of_getElem? (i := 1166) (by decide +kernel), List.mem_of_getElem? (i := 1167) (by decide +kernel)⟩
theorem lw_p56 : lw_okq (⟨"LesseningGainsModel", "takesDeed", "()Z"⟩, 27) := ⟨⟨by decide +kernel, by decide +kernel⟩, List.mem_of_getElem? (i := 756) (by decide +kernel), List.mem_of_getElem? (i := 1170) (by decide +kernel), List.mem_of_getElem? (i := 1171) (by decide +kernel)⟩
theorem lw_p57 : lw_okq (⟨"LesseningGainsModel", "takesWord", "()Z"⟩, 27) := ⟨⟨by decide +kernel, by decide +kernel⟩, List.mem_of_getElem? (i := 756) (by decide +kernel), List.mem_of_getElem? (i := 1174) (by decide +kernel), List.mem_of_getElem? (i := 1175) (by decide +kernel)⟩
theorem lw_p58 : lw_okq (⟨"LesseningGainsModel", "isAt", "(CC)Z"⟩, 27) := ⟨⟨by decide +kernel, by decide +kernel⟩, List.mem_of_getElem? (i := 756) (by decide +kernel), List.mem_of_getElem? (i := 1178) (by decide +kernel), List.mem_of_getElem? (i := 1179) (by decide +kernel)⟩
theorem lw_p59 : lw_okq (⟨"LesseningGainsModel", "isWord", "(II)Z"⟩, 27) := ⟨⟨by decide +kernel, by decide +kernel⟩, List.mem_of_getElem? (i := 756) (by decide +kernel), List.mem_of_getElem? (i := 1182) (by decide +kernel), List.mem_of_getElem? (i := 1183) (by decide +kernel)⟩
theorem lw_p60 : lw_okq (⟨"LesseningGainsModel", "takesNumber", "(I)Z"⟩, 27) := ⟨⟨by decide +kernel, by decide +kernel⟩, List.mem_of_getElem? (i := 756) (by decide +kernel), List.mem_of_getElem? (i := 1205) (by decide +kernel), List.mem_of_getElem? (i := 1206) (by decide +kernel)⟩
theorem lw_p61 : lw_okq (⟨"LesseningGainsModel", "isDone", "(I)Z"⟩, 27) := ⟨⟨by decide +kernel, by decide +kernel⟩, List.mem_of_getElem? (i := 756) (by decide +kernel), List.mem_of_getElem? (i := 1209) (by decide +kernel), List.mem_of_getElem? (i := 1210) (by decide +kernel)⟩
theorem lw_p62 : lw_okq (⟨"LesseningGainsModel", "says", "(I)V"⟩, 27) := ⟨⟨by decide +kernel, by decide +kernel⟩, List.mem_of_getElem? (i := 756) (by decide +kernel), List.mem_of_getElem? (i := 1229) (by decide +kernel), List.mem_of_getElem? (i := 1230) (by decide +kernel)⟩
theorem lw_p63 : lw_okq (⟨"LesseningGainsModel", "saysNumber", "(I)V"⟩, 27) := ⟨⟨by decide +kernel, by decide +kernel⟩, List.mem_of_getElem? (i := 756) (by decide +kernel), List.mem_of_getElem? (i := 1233) (by decide +kernel), List.mem_of_getElem? (i := 1234) (by decide +kernel)⟩
def lw_privs_4 : List (MethodName × Nat) := [(⟨"LesseningGainsModel", "areClosed", "(II)Z"⟩, 27), (⟨"LesseningGainsModel", "layLevels", "(I)V"⟩, 27), (⟨"LesseningGainsModel", "isLower", "(IIII)Z"⟩, 27), (⟨"LesseningGainsModel", "areUnlike", "(II)Z"⟩, 27), (⟨"LesseningGainsModel", "wallOf", "(III)I"⟩, 27), (⟨"LesseningGainsModel", "greed", "(II)I"⟩, 27), (⟨"LesseningGainsModel", "best", "(II)I"⟩, 27), (⟨"LesseningGainsModel", "takesAll", "()Z"⟩, 27), (⟨"LesseningGainsModel", "takesDeed", "()Z"⟩, 27), (⟨"LesseningGainsModel", "takesWord", "()Z"⟩, 27), (⟨"LesseningGainsModel", "isAt", "(CC)Z"⟩, 27), (⟨"LesseningGainsModel", "isWord", "(II)Z"⟩, 27), (⟨"LesseningGainsModel", "takesNumber", "(I)Z"⟩, 27), (⟨"LesseningGainsModel", "isDone", "(I)Z"⟩, 27), (⟨"LesseningGainsModel", "says", "(I)V"⟩, 27), (⟨"LesseningGainsModel", "saysNumber", "(I)V"⟩, 27)]
theorem lw_r4 : ∀ q ∈ lw_privs_4, lw_okq q := List.forall_mem_cons.mpr ⟨lw_p48, List.forall_mem_cons.mpr ⟨lw_p49, List.forall_mem_cons.mpr ⟨lw_p50, List.forall_mem_cons.mpr ⟨lw_p51, List.forall_mem_cons.mpr ⟨lw_p52, List.forall_mem_cons.mpr ⟨lw_p53, List.forall_mem_cons.mpr ⟨lw_p54, List.forall_mem_cons.mpr ⟨lw_p55, List.forall_mem_cons.mpr ⟨lw_p56, List.forall_mem_cons.mpr ⟨lw_p57, List.forall_mem_cons.mpr ⟨lw_p58, List.forall_mem_cons.mpr ⟨lw_p59, List.forall_mem_cons.mpr ⟨lw_p60, List.forall_mem_cons.mpr ⟨lw_p61, List.forall_mem_cons.mpr ⟨lw_p62, List.forall_mem_cons.mpr ⟨lw_p63, fun _ h => absurd h List.not_mem_nil⟩⟩⟩⟩⟩⟩⟩⟩⟩⟩⟩⟩⟩⟩⟩⟩
theorem lw_p64 : lw_okq (⟨"LesseningGainsModel", "rowOf", "(I)[I"⟩, 27) := ⟨⟨by decide +kernel, by decide +kernel⟩, List.mem_of_getElem? (i := 756) (by decide +kernel), List.mem_of_getElem? (i := 1268) (by decide +kernel), List.mem_of_getElem? (i := 1269) (by decide +kernel)⟩
theorem lw_p65 : lw_okq (⟨"LesseningGainsModel", "functions", "()I"⟩, 27) := ⟨⟨by decide +kernel, by decide +kernel⟩, List.mem_of_getElem? (i := 756) (by decide +kernel), List.mem_of_getElem? (i := 1273) (by decide +kernel), List.mem_of_getElem? (i := 1274) (by decide +kernel)⟩
def lw_privs_5 : List (MethodName × Nat) := [(⟨"LesseningGainsModel", "rowOf", "(I)[I"⟩, 27), (⟨"LesseningGainsModel", "functions", "()I"⟩, 27)]
theorem lw_r5 : ∀ q ∈ lw_privs_5, lw_okq q := List.forall_mem_cons.mpr ⟨lw_p64, List.forall_mem_cons.mpr ⟨lw_p65, fun _ h => absurd h List.not_mem_nil⟩⟩
def lw_privs : List (MethodName × Nat) := lw_privs_1 ++ (lw_privs_2 ++ (lw_privs_3 ++ (lw_privs_4 ++ (lw_privs_5))))
def lw_tbl : List Cond := k2_sels lw_privs ++ tables_1
theorem lw_privs_ok : ∀ q ∈ lw_privs, lw_okq q := by
  show ∀ q ∈ lw_privs_1 ++ (lw_privs_2 ++ (lw_privs_3 ++ (lw_privs_4 ++ (lw_privs_5)))), lw_okq q
  exact List.forall_mem_append.mpr ⟨lw_r1, List.forall_mem_append.mpr ⟨lw_r2, List.forall_mem_append.mpr ⟨lw_r3, List.forall_mem_append.mpr ⟨lw_r4, lw_r5⟩⟩⟩⟩
-- ===== end of PART A; then your names; then what follows =====
end
section
/-! ===== BEGIN words of one list among another's, by their places ===== -/
theorem goodIn_r {big : List Cond} (ws : List Cond) (ps : List Nat) (hp : ws = ps.filterMap (fun i => big[i]?)) (h : ws.all goodWord = true) : GoodIn big ws := by
  intro w hw
  have h1 := List.all_eq_true.mp h w hw
  rw [hp] at hw
  obtain ⟨i, -, hi⟩ := List.mem_filterMap.mp hw
  have hm : w ∈ big := by first | exact List.mem_of_getElem? hi | exact List.getElem?_mem hi
  exact ⟨hm, good_of_word h1⟩
theorem goodIn_app {big a b : List Cond} (ha : GoodIn big a) (hb : GoodIn big b) : GoodIn big (a ++ b) := fun w h => (List.mem_append.mp h).elim (ha w) (hb w)
theorem goodIn_ca {big a b : List Cond} {c : Cond} (ha : GoodIn big (c :: a)) (hb : GoodIn big b) : GoodIn big (c :: (a ++ b)) := fun w h => (List.mem_cons.mp h).elim (fun e => ha w (List.mem_cons.mpr (Or.inl e))) (fun h => (List.mem_append.mp h).elim (fun h => ha w (List.mem_cons.mpr (Or.inr h))) (hb w))
theorem goodIn_sub {big ws : List Cond} (hm : ∀ w ∈ ws, w ∈ big) (h : ws.all goodWord = true) : GoodIn big ws := fun w hw => ⟨hm w hw, good_of_word (List.all_eq_true.mp h w hw)⟩
/-! ===== END ===== -/


/-! ===== BEGIN printed: names, fields, word lists, decode rows ===== -/
def RX0 : String := "LesseningGains$NumberList"
def TX0 : u_T := fun k => match k with
  | 0 => ("LesseningGains$NumberList", "length", "I", false)
  | _ => ("LesseningGains$NumberList", "numbers", "[I", true)
def tyX0 : Nat → FieldType := fun k => match k with
  | 0 => .int
  | _ => .array .int
abbrev wsX00 : List Cond := u_ws RX0 TX0 2
theorem nmX0 : ∀ a, a < 2 → ∀ b, b < 2 → a ≠ b → (TX0 a).2.1 ≠ (TX0 b).2.1 := by decide +kernel
theorem tyX0_ok : ∀ k, k < 2 → parseFieldDescriptor (TX0 k).2.2.1 = some (tyX0 k) := by decide +kernel
abbrev cX0_init : ByteArray := prog_2_method_1_code
def yX0_init : MethodName := ⟨RX0, "<init>", "()V"⟩
abbrev cX0_isMissing : ByteArray := prog_2_method_2_code
def yX0_isMissing : MethodName := ⟨RX0, "isMissing", "()Z"⟩
def RX1 : String := "LesseningGains$Paper"
def TX1 : u_T := fun k => match k with
  | 0 => ("LesseningGains$Paper", "length", "I", false)
  | _ => ("LesseningGains$Paper", "bytes", "[B", true)
def tyX1 : Nat → FieldType := fun k => match k with
  | 0 => .int
  | _ => .array .byte
abbrev wsX10 : List Cond := u_ws RX1 TX1 2
theorem nmX1 : ∀ a, a < 2 → ∀ b, b < 2 → a ≠ b → (TX1 a).2.1 ≠ (TX1 b).2.1 := by decide +kernel
theorem tyX1_ok : ∀ k, k < 2 → parseFieldDescriptor (TX1 k).2.2.1 = some (tyX1 k) := by decide +kernel
abbrev cX1_init : ByteArray := prog_3_method_1_code
def yX1_init : MethodName := ⟨RX1, "<init>", "()V"⟩
abbrev cX1_append : ByteArray := prog_3_method_2_code
def yX1_append : MethodName := ⟨RX1, "append", "(C)V"⟩
abbrev cX1_appendNumber : ByteArray := prog_3_method_3_code
def yX1_appendNumber : MethodName := ⟨RX1, "appendNumber", "(I)V"⟩
def RX2 : String := "LesseningGains$Sequence"
def TX2 : u_T := fun k => match k with
  | 0 => ("LesseningGains$Sequence", "members", "I", false)
  | 1 => ("LesseningGains$Sequence", "sets", "[I", true)
  | 2 => ("LesseningGains$Sequence", "rises", "[I", true)
  | _ => ("LesseningGains$Sequence", "sizes", "[I", true)
def tyX2 : Nat → FieldType := fun k => match k with
  | 0 => .int
  | 1 => .array .int
  | 2 => .array .int
  | _ => .array .int
abbrev wsX20 : List Cond := u_ws RX2 TX2 4
theorem nmX2 : ∀ a, a < 4 → ∀ b, b < 4 → a ≠ b → (TX2 a).2.1 ≠ (TX2 b).2.1 := by decide +kernel
theorem tyX2_ok : ∀ k, k < 4 → parseFieldDescriptor (TX2 k).2.2.1 = some (tyX2 k) := by decide +kernel
abbrev cX2_init : ByteArray := prog_4_method_1_code
def yX2_init : MethodName := ⟨RX2, "<init>", "()V"⟩
abbrev cX2_follow : ByteArray := prog_4_method_2_code
def yX2_follow : MethodName := ⟨RX2, "follow", "([II)V"⟩
abbrev cX2_nextMember : ByteArray := prog_4_method_3_code
def yX2_nextMember : MethodName := ⟨RX2, "nextMember", "([III)I"⟩
abbrev cX2_isBetter : ByteArray := prog_4_method_4_code
def yX2_isBetter : MethodName := ⟨RX2, "isBetter", "([IIII)Z"⟩
abbrev cX2_commonDivisor : ByteArray := prog_4_method_5_code
def yX2_commonDivisor : MethodName := ⟨RX2, "commonDivisor", "(I)I"⟩
def RX3 : String := "LesseningGains$SetFunction"
def TX3 : u_T := fun k => match k with
  | 0 => ("LesseningGains$SetFunction", "kind", "I", false)
  | _ => ("LesseningGains$SetFunction", "values", "[I", true)
def tyX3 : Nat → FieldType := fun k => match k with
  | 0 => .int
  | _ => .array .int
abbrev wsX30 : List Cond := u_ws RX3 TX3 2
theorem nmX3 : ∀ a, a < 2 → ∀ b, b < 2 → a ≠ b → (TX3 a).2.1 ≠ (TX3 b).2.1 := by decide +kernel
theorem tyX3_ok : ∀ k, k < 2 → parseFieldDescriptor (TX3 k).2.2.1 = some (tyX3 k) := by decide +kernel
abbrev cX3_init : ByteArray := prog_5_method_1_code
def yX3_init : MethodName := ⟨RX3, "<init>", "()V"⟩
abbrev cX3_isMissing : ByteArray := prog_5_method_2_code
def yX3_isMissing : MethodName := ⟨RX3, "isMissing", "()Z"⟩
abbrev cX3_vanish : ByteArray := prog_5_method_3_code
def yX3_vanish : MethodName := ⟨RX3, "vanish", "()V"⟩
abbrev cX3_copyFrom : ByteArray := prog_5_method_4_code
def yX3_copyFrom : MethodName := ⟨RX3, "copyFrom", "(LLesseningGains$SetFunction;)V"⟩
abbrev cX3_gainAt : ByteArray := prog_5_method_5_code
def yX3_gainAt : MethodName := ⟨RX3, "gainAt", "(II)I"⟩
abbrev cX3_firstFailure : ByteArray := prog_5_method_6_code
def yX3_firstFailure : MethodName := ⟨RX3, "firstFailure", "(I)I"⟩
abbrev cX3_gainGrows : ByteArray := prog_5_method_7_code
def yX3_gainGrows : MethodName := ⟨RX3, "gainGrows", "(III)Z"⟩
abbrev cX3_setOfFailure : ByteArray := prog_5_method_8_code
def yX3_setOfFailure : MethodName := ⟨RX3, "setOfFailure", "(I)I"⟩
abbrev cX3_firstPointOfFailure : ByteArray := prog_5_method_9_code
def yX3_firstPointOfFailure : MethodName := ⟨RX3, "firstPointOfFailure", "(I)I"⟩
abbrev cX3_secondPointOfFailure : ByteArray := prog_5_method_10_code
def yX3_secondPointOfFailure : MethodName := ⟨RX3, "secondPointOfFailure", "(I)I"⟩
abbrev cX3_isIncreasing : ByteArray := prog_5_method_11_code
def yX3_isIncreasing : MethodName := ⟨RX3, "isIncreasing", "(I)Z"⟩
abbrev cX3_isSymmetric : ByteArray := prog_5_method_12_code
def yX3_isSymmetric : MethodName := ⟨RX3, "isSymmetric", "(I)Z"⟩
abbrev cX3_isModular : ByteArray := prog_5_method_13_code
def yX3_isModular : MethodName := ⟨RX3, "isModular", "(I)Z"⟩
abbrev cX3_leastValue : ByteArray := prog_5_method_14_code
def yX3_leastValue : MethodName := ⟨RX3, "leastValue", "(I)I"⟩
abbrev cX3_minimisersAreClosed : ByteArray := prog_5_method_15_code
def yX3_minimisersAreClosed : MethodName := ⟨RX3, "minimisersAreClosed", "(I)Z"⟩
abbrev cX3_leastApart : ByteArray := prog_5_method_16_code
def yX3_leastApart : MethodName := ⟨RX3, "leastApart", "(III)I"⟩
abbrev cX3_isSmallerCut : ByteArray := prog_5_method_17_code
def yX3_isSmallerCut : MethodName := ⟨RX3, "isSmallerCut", "(II)Z"⟩
abbrev cX3_greedyChoice : ByteArray := prog_5_method_18_code
def yX3_greedyChoice : MethodName := ⟨RX3, "greedyChoice", "(II)I"⟩
abbrev cX3_bestChoice : ByteArray := prog_5_method_19_code
def yX3_bestChoice : MethodName := ⟨RX3, "bestChoice", "(II)I"⟩
def RX4 : String := "LesseningGains$Tape"
def TX4 : u_T := fun k => match k with
  | 0 => ("LesseningGains$Tape", "length", "I", false)
  | 1 => ("LesseningGains$Tape", "commands", "I", false)
  | 2 => ("LesseningGains$Tape", "words", "[I", true)
  | 3 => ("LesseningGains$Tape", "numbers", "[I", true)
  | 4 => ("LesseningGains$Tape", "bytes", "[B", true)
  | _ => ("LesseningGains$Tape", "at", "I", false)
def tyX4 : Nat → FieldType := fun k => match k with
  | 0 => .int
  | 1 => .int
  | 2 => .array .int
  | 3 => .array .int
  | 4 => .array .byte
  | _ => .int
abbrev wsX40 : List Cond := u_ws RX4 TX4 6
theorem nmX4 : ∀ a, a < 6 → ∀ b, b < 6 → a ≠ b → (TX4 a).2.1 ≠ (TX4 b).2.1 := by decide +kernel
theorem tyX4_ok : ∀ k, k < 6 → parseFieldDescriptor (TX4 k).2.2.1 = some (tyX4 k) := by decide +kernel
abbrev cX4_init : ByteArray := prog_6_method_1_code
def yX4_init : MethodName := ⟨RX4, "<init>", "()V"⟩
abbrev cX4_isFull : ByteArray := prog_6_method_2_code
def yX4_isFull : MethodName := ⟨RX4, "isFull", "()Z"⟩
abbrev cX4_append : ByteArray := prog_6_method_3_code
def yX4_append : MethodName := ⟨RX4, "append", "(I)V"⟩
abbrev cX4_number : ByteArray := prog_6_method_4_code
def yX4_number : MethodName := ⟨RX4, "number", "(II)I"⟩
abbrev cX4_parse : ByteArray := prog_6_method_5_code
def yX4_parse : MethodName := ⟨RX4, "parse", "()I"⟩
abbrev cX4_readCommand : ByteArray := prog_6_method_6_code
def yX4_readCommand : MethodName := ⟨RX4, "readCommand", "(I)Z"⟩
abbrev cX4_readNumber : ByteArray := prog_6_method_7_code
def yX4_readNumber : MethodName := ⟨RX4, "readNumber", "(I)Z"⟩
abbrev cX4_isNext : ByteArray := prog_6_method_8_code
def yX4_isNext : MethodName := ⟨RX4, "isNext", "(C)Z"⟩
abbrev cX4_isDigitNext : ByteArray := prog_6_method_9_code
def yX4_isDigitNext : MethodName := ⟨RX4, "isDigitNext", "()Z"⟩
abbrev cX4_endOfWord : ByteArray := prog_6_method_10_code
def yX4_endOfWord : MethodName := ⟨RX4, "endOfWord", "(I)I"⟩
abbrev cX4_findWord : ByteArray := prog_6_method_11_code
def yX4_findWord : MethodName := ⟨RX4, "findWord", "(II)I"⟩
abbrev cX4_isSame : ByteArray := prog_6_method_12_code
def yX4_isSame : MethodName := ⟨RX4, "isSame", "(Ljava/lang/String;II)Z"⟩
abbrev cX4_spelling : ByteArray := prog_6_method_13_code
def yX4_spelling : MethodName := ⟨RX4, "spelling", "(I)Ljava/lang/String;"⟩
def RX5 : String := "LesseningGains$World"
def TX5 : u_T := fun k => match k with
  | 0 => ("LesseningGains$World", "n", "I", false)
  | 1 => ("LesseningGains$World", "loads", "[I", true)
  | 2 => ("LesseningGains$World", "worths", "[I", true)
  | 3 => ("LesseningGains$World", "itemSets", "[I", true)
  | 4 => ("LesseningGains$World", "blocks", "[I", true)
  | 5 => ("LesseningGains$World", "caps", "[I", true)
  | 6 => ("LesseningGains$World", "weights", "[I", true)
  | 7 => ("LesseningGains$World", "functions", "[LLesseningGains$SetFunction;", true)
  | _ => ("LesseningGains$World", "blockSizes", "[I", true)
def tyX5 : Nat → FieldType := fun k => match k with
  | 0 => .int
  | 1 => .array .int
  | 2 => .array .int
  | 3 => .array .int
  | 4 => .array .int
  | 5 => .array .int
  | 6 => .array .int
  | 7 => .array (.object "LesseningGains$SetFunction")
  | _ => .array .int
abbrev wsX50 : List Cond := u_ws RX5 TX5 9
theorem nmX5 : ∀ a, a < 9 → ∀ b, b < 9 → a ≠ b → (TX5 a).2.1 ≠ (TX5 b).2.1 := by decide +kernel
theorem tyX5_ok : ∀ k, k < 9 → parseFieldDescriptor (TX5 k).2.2.1 = some (tyX5 k) := by decide +kernel
abbrev cX5_init : ByteArray := prog_7_method_1_code
def yX5_init : MethodName := ⟨RX5, "<init>", "()V"⟩
abbrev cX5_startAnew : ByteArray := prog_7_method_2_code
def yX5_startAnew : MethodName := ⟨RX5, "startAnew", "(I)V"⟩
abbrev cX5_copyFrom : ByteArray := prog_7_method_3_code
def yX5_copyFrom : MethodName := ⟨RX5, "copyFrom", "(LLesseningGains$World;)V"⟩
abbrev cX5_sets : ByteArray := prog_7_method_4_code
def yX5_sets : MethodName := ⟨RX5, "sets", "()I"⟩
abbrev cX5_all : ByteArray := prog_7_method_5_code
def yX5_all : MethodName := ⟨RX5, "all", "()I"⟩
abbrev cX5_hasPoint : ByteArray := prog_7_method_6_code
def yX5_hasPoint : MethodName := ⟨RX5, "hasPoint", "(I)Z"⟩
abbrev cX5_hasSet : ByteArray := prog_7_method_7_code
def yX5_hasSet : MethodName := ⟨RX5, "hasSet", "(I)Z"⟩
abbrev cX5_presentFunctions : ByteArray := prog_7_method_8_code
def yX5_presentFunctions : MethodName := ⟨RX5, "presentFunctions", "()I"⟩
abbrev cX5_valueFromData : ByteArray := prog_7_method_9_code
def yX5_valueFromData : MethodName := ⟨RX5, "valueFromData", "(II)I"⟩
abbrev cX5_loadOut : ByteArray := prog_7_method_10_code
def yX5_loadOut : MethodName := ⟨RX5, "loadOut", "(I)I"⟩
abbrev cX5_worthMet : ByteArray := prog_7_method_11_code
def yX5_worthMet : MethodName := ⟨RX5, "worthMet", "(I)I"⟩
abbrev cX5_cappedSize : ByteArray := prog_7_method_12_code
def yX5_cappedSize : MethodName := ⟨RX5, "cappedSize", "(I)I"⟩
abbrev cX5_totalWeight : ByteArray := prog_7_method_13_code
def yX5_totalWeight : MethodName := ⟨RX5, "totalWeight", "(I)I"⟩
def RX6 : String := "LesseningGains"
def TX6 : u_T := fun k => match k with
  | 0 => ("LesseningGains", "now", "LLesseningGains$World;", true)
  | 1 => ("LesseningGains", "saved", "LLesseningGains$World;", true)
  | 2 => ("LesseningGains", "hasImage", "Z", false)
  | 3 => ("LesseningGains", "lists", "[LLesseningGains$NumberList;", true)
  | 4 => ("LesseningGains", "tape", "LLesseningGains$Tape;", true)
  | 5 => ("LesseningGains", "sheet", "LLesseningGains$Paper;", true)
  | 6 => ("LesseningGains", "sequence", "LLesseningGains$Sequence;", true)
  | 7 => ("LesseningGains", "draft", "[I", true)
  | 8 => ("LesseningGains", "setWeights", "[I", true)
  | _ => ("LesseningGains", "orderRow", "[I", true)
def tyX6 : Nat → FieldType := fun k => match k with
  | 0 => .object "LesseningGains$World"
  | 1 => .object "LesseningGains$World"
  | 2 => .boolean
  | 3 => .array (.object "LesseningGains$NumberList")
  | 4 => .object "LesseningGains$Tape"
  | 5 => .object "LesseningGains$Paper"
  | 6 => .object "LesseningGains$Sequence"
  | 7 => .array .int
  | 8 => .array .int
  | _ => .array .int
abbrev wsX60 : List Cond := u_ws RX6 TX6 10
theorem nmX6 : ∀ a, a < 10 → ∀ b, b < 10 → a ≠ b → (TX6 a).2.1 ≠ (TX6 b).2.1 := by decide +kernel
theorem tyX6_ok : ∀ k, k < 10 → parseFieldDescriptor (TX6 k).2.2.1 = some (tyX6 k) := by decide +kernel
abbrev cX6_init : ByteArray := prog_1_method_1_code
def yX6_init : MethodName := ⟨RX6, "<init>", "()V"⟩
abbrev cX6_points : ByteArray := prog_1_method_2_code
def yX6_points : MethodName := ⟨RX6, "points", "(I)I"⟩
abbrev cX6_arc : ByteArray := prog_1_method_3_code
def yX6_arc : MethodName := ⟨RX6, "arc", "(III)I"⟩
abbrev cX6_item : ByteArray := prog_1_method_4_code
def yX6_item : MethodName := ⟨RX6, "item", "(III)I"⟩
abbrev cX6_block : ByteArray := prog_1_method_5_code
def yX6_block : MethodName := ⟨RX6, "block", "(II)I"⟩
abbrev cX6_cap : ByteArray := prog_1_method_6_code
def yX6_cap : MethodName := ⟨RX6, "cap", "(II)I"⟩
abbrev cX6_weight : ByteArray := prog_1_method_7_code
def yX6_weight : MethodName := ⟨RX6, "weight", "(II)I"⟩
abbrev cX6_tell : ByteArray := prog_1_method_8_code
def yX6_tell : MethodName := ⟨RX6, "tell", "(III)I"⟩
abbrev cX6_cut : ByteArray := prog_1_method_9_code
def yX6_cut : MethodName := ⟨RX6, "cut", "(I)I"⟩
abbrev cX6_cover : ByteArray := prog_1_method_10_code
def yX6_cover : MethodName := ⟨RX6, "cover", "(I)I"⟩
abbrev cX6_capped : ByteArray := prog_1_method_11_code
def yX6_capped : MethodName := ⟨RX6, "capped", "(I)I"⟩
abbrev cX6_weighed : ByteArray := prog_1_method_12_code
def yX6_weighed : MethodName := ⟨RX6, "weighed", "(I)I"⟩
abbrev cX6_sum : ByteArray := prog_1_method_13_code
def yX6_sum : MethodName := ⟨RX6, "sum", "(III)I"⟩
abbrev cX6_turn : ByteArray := prog_1_method_14_code
def yX6_turn : MethodName := ⟨RX6, "turn", "(II)I"⟩
abbrev cX6_cutBack : ByteArray := prog_1_method_15_code
def yX6_cutBack : MethodName := ⟨RX6, "cutBack", "(II)I"⟩
abbrev cX6_part : ByteArray := prog_1_method_16_code
def yX6_part : MethodName := ⟨RX6, "part", "(IIII)I"⟩
abbrev cX6_held : ByteArray := prog_1_method_17_code
def yX6_held : MethodName := ⟨RX6, "held", "(III)I"⟩
abbrev cX6_clear : ByteArray := prog_1_method_18_code
def yX6_clear : MethodName := ⟨RX6, "clear", "(I)I"⟩
abbrev cX6_of : ByteArray := prog_1_method_19_code
def yX6_of : MethodName := ⟨RX6, "of", "(II)I"⟩
abbrev cX6_taken : ByteArray := prog_1_method_20_code
def yX6_taken : MethodName := ⟨RX6, "taken", "(II)I"⟩
abbrev cX6_value : ByteArray := prog_1_method_21_code
def yX6_value : MethodName := ⟨RX6, "value", "(II)I"⟩
abbrev cX6_gain : ByteArray := prog_1_method_22_code
def yX6_gain : MethodName := ⟨RX6, "gain", "(III)J"⟩
abbrev cX6_fails : ByteArray := prog_1_method_23_code
def yX6_fails : MethodName := ⟨RX6, "fails", "(II)I"⟩
abbrev cX6_base : ByteArray := prog_1_method_24_code
def yX6_base : MethodName := ⟨RX6, "base", "(III)J"⟩
abbrev cX6_negative : ByteArray := prog_1_method_25_code
def yX6_negative : MethodName := ⟨RX6, "negative", "(II)J"⟩
abbrev cX6_based : ByteArray := prog_1_method_26_code
def yX6_based : MethodName := ⟨RX6, "based", "(II)I"⟩
abbrev cX6_least : ByteArray := prog_1_method_27_code
def yX6_least : MethodName := ⟨RX6, "least", "(I)J"⟩
abbrev cX6_leastSets : ByteArray := prog_1_method_28_code
def yX6_leastSets : MethodName := ⟨RX6, "leastSets", "(II)I"⟩
abbrev cX6_ring : ByteArray := prog_1_method_29_code
def yX6_ring : MethodName := ⟨RX6, "ring", "(II)I"⟩
abbrev cX6_level : ByteArray := prog_1_method_30_code
def yX6_level : MethodName := ⟨RX6, "level", "(II)I"⟩
abbrev cX6_height : ByteArray := prog_1_method_31_code
def yX6_height : MethodName := ⟨RX6, "height", "(III)J"⟩
abbrev cX6_wall : ByteArray := prog_1_method_32_code
def yX6_wall : MethodName := ⟨RX6, "wall", "(III)I"⟩
abbrev cX6_wallValue : ByteArray := prog_1_method_33_code
def yX6_wallValue : MethodName := ⟨RX6, "wallValue", "(III)J"⟩
abbrev cX6_most : ByteArray := prog_1_method_34_code
def yX6_most : MethodName := ⟨RX6, "most", "(III)I"⟩
abbrev cX6_feed : ByteArray := prog_1_method_35_code
def yX6_feed : MethodName := ⟨RX6, "feed", "(I)I"⟩
abbrev cX6_deeds : ByteArray := prog_1_method_36_code
def yX6_deeds : MethodName := ⟨RX6, "deeds", "()I"⟩
abbrev cX6_write : ByteArray := prog_1_method_37_code
def yX6_write : MethodName := ⟨RX6, "write", "(I)I"⟩
abbrev cX6_paper : ByteArray := prog_1_method_38_code
def yX6_paper : MethodName := ⟨RX6, "paper", "(I)I"⟩
abbrev cX6_list : ByteArray := prog_1_method_39_code
def yX6_list : MethodName := ⟨RX6, "list", "(II)I"⟩
abbrev cX6_put : ByteArray := prog_1_method_40_code
def yX6_put : MethodName := ⟨RX6, "put", "(III)I"⟩
abbrev cX6_get : ByteArray := prog_1_method_41_code
def yX6_get : MethodName := ⟨RX6, "get", "(II)J"⟩
abbrev cX6_lay : ByteArray := prog_1_method_42_code
def yX6_lay : MethodName := ⟨RX6, "lay", "(II)I"⟩
abbrev cX6_judge : ByteArray := prog_1_method_43_code
def yX6_judge : MethodName := ⟨RX6, "judge", "(II)I"⟩
abbrev cX6_image : ByteArray := prog_1_method_44_code
def yX6_image : MethodName := ⟨RX6, "image", "()I"⟩
abbrev cX6_back : ByteArray := prog_1_method_45_code
def yX6_back : MethodName := ⟨RX6, "back", "()I"⟩
abbrev cX6_count : ByteArray := prog_1_method_46_code
def yX6_count : MethodName := ⟨RX6, "count", "(I)I"⟩
abbrev cX6_isFunction : ByteArray := prog_1_method_47_code
def yX6_isFunction : MethodName := ⟨RX6, "isFunction", "(I)Z"⟩
abbrev cX6_isBlock : ByteArray := prog_1_method_48_code
def yX6_isBlock : MethodName := ⟨RX6, "isBlock", "(I)Z"⟩
abbrev cX6_isList : ByteArray := prog_1_method_49_code
def yX6_isList : MethodName := ⟨RX6, "isList", "(I)Z"⟩
abbrev cX6_isValue : ByteArray := prog_1_method_50_code
def yX6_isValue : MethodName := ⟨RX6, "isValue", "(I)Z"⟩
abbrev cX6_holds : ByteArray := prog_1_method_51_code
def yX6_holds : MethodName := ⟨RX6, "holds", "(II)Z"⟩
abbrev cX6_oneIf : ByteArray := prog_1_method_52_code
def yX6_oneIf : MethodName := ⟨RX6, "oneIf", "(Z)I"⟩
abbrev cX6_nonZero : ByteArray := prog_1_method_53_code
def yX6_nonZero : MethodName := ⟨RX6, "nonZero", "([I)I"⟩
abbrev cX6_allInRange : ByteArray := prog_1_method_54_code
def yX6_allInRange : MethodName := ⟨RX6, "allInRange", "([II)Z"⟩
abbrev cX6_isSubkind : ByteArray := prog_1_method_55_code
def yX6_isSubkind : MethodName := ⟨RX6, "isSubkind", "(II)Z"⟩
abbrev cX6_errorOf : ByteArray := prog_1_method_56_code
def yX6_errorOf : MethodName := ⟨RX6, "errorOf", "(I)I"⟩
abbrev cX6_errorOfPair : ByteArray := prog_1_method_57_code
def yX6_errorOfPair : MethodName := ⟨RX6, "errorOfPair", "(II)I"⟩
abbrev cX6_errorOfChoice : ByteArray := prog_1_method_58_code
def yX6_errorOfChoice : MethodName := ⟨RX6, "errorOfChoice", "(II)I"⟩
abbrev cX6_setFromData : ByteArray := prog_1_method_59_code
def yX6_setFromData : MethodName := ⟨RX6, "setFromData", "(III)I"⟩
abbrev cX6_leastOverSubsets : ByteArray := prog_1_method_60_code
def yX6_leastOverSubsets : MethodName := ⟨RX6, "leastOverSubsets", "([II)I"⟩
abbrev cX6_settleIfInRange : ByteArray := prog_1_method_61_code
def yX6_settleIfInRange : MethodName := ⟨RX6, "settleIfInRange", "(I)I"⟩
abbrev cX6_settle : ByteArray := prog_1_method_62_code
def yX6_settle : MethodName := ⟨RX6, "settle", "(II)V"⟩
abbrev cX6_factorial : ByteArray := prog_1_method_63_code
def yX6_factorial : MethodName := ⟨RX6, "factorial", "(I)I"⟩
abbrev cX6_isOrder : ByteArray := prog_1_method_64_code
def yX6_isOrder : MethodName := ⟨RX6, "isOrder", "(I)Z"⟩
abbrev cX6_unrank : ByteArray := prog_1_method_65_code
def yX6_unrank : MethodName := ⟨RX6, "unrank", "(I)V"⟩
abbrev cX6_obey : ByteArray := prog_1_method_66_code
def yX6_obey : MethodName := ⟨RX6, "obey", "(I)Z"⟩
def RX7 : String := "LesseningGainsModel"
def TX7 : u_T := fun k => match k with
  | 0 => ("LesseningGainsModel", "n", "I", false)
  | 1 => ("LesseningGainsModel", "loads", "[I", true)
  | 2 => ("LesseningGainsModel", "worths", "[I", true)
  | 3 => ("LesseningGainsModel", "itemSets", "[I", true)
  | 4 => ("LesseningGainsModel", "blocks", "[I", true)
  | 5 => ("LesseningGainsModel", "caps", "[I", true)
  | 6 => ("LesseningGainsModel", "weights", "[I", true)
  | 7 => ("LesseningGainsModel", "kinds", "[I", true)
  | 8 => ("LesseningGainsModel", "values", "[[I", true)
  | 9 => ("LesseningGainsModel", "made", "[I", true)
  | 10 => ("LesseningGainsModel", "row", "[I", true)
  | 11 => ("LesseningGainsModel", "levels", "[I", true)
  | 12 => ("LesseningGainsModel", "leveled", "I", false)
  | 13 => ("LesseningGainsModel", "tape", "[B", true)
  | 14 => ("LesseningGainsModel", "taped", "I", false)
  | 15 => ("LesseningGainsModel", "at", "I", false)
  | 16 => ("LesseningGainsModel", "told", "I", false)
  | 17 => ("LesseningGainsModel", "words", "[I", true)
  | 18 => ("LesseningGainsModel", "numbers", "[I", true)
  | 19 => ("LesseningGainsModel", "paper", "[B", true)
  | 20 => ("LesseningGainsModel", "papered", "I", false)
  | 21 => ("LesseningGainsModel", "lengths", "[I", true)
  | 22 => ("LesseningGainsModel", "lists", "[[I", true)
  | 23 => ("LesseningGainsModel", "isKept", "Z", false)
  | 24 => ("LesseningGainsModel", "keptN", "I", false)
  | 25 => ("LesseningGainsModel", "keptRows", "[[I", true)
  | _ => ("LesseningGainsModel", "keptValues", "[[I", true)
def tyX7 : Nat → FieldType := fun k => match k with
  | 0 => .int
  | 1 => .array .int
  | 2 => .array .int
  | 3 => .array .int
  | 4 => .array .int
  | 5 => .array .int
  | 6 => .array .int
  | 7 => .array .int
  | 8 => .array (.array .int)
  | 9 => .array .int
  | 10 => .array .int
  | 11 => .array .int
  | 12 => .int
  | 13 => .array .byte
  | 14 => .int
  | 15 => .int
  | 16 => .int
  | 17 => .array .int
  | 18 => .array .int
  | 19 => .array .byte
  | 20 => .int
  | 21 => .array .int
  | 22 => .array (.array .int)
  | 23 => .boolean
  | 24 => .int
  | 25 => .array (.array .int)
  | _ => .array (.array .int)
abbrev wsX70 : List Cond := u_ws RX7 TX7 27
theorem nmX7 : ∀ a, a < 27 → ∀ b, b < 27 → a ≠ b → (TX7 a).2.1 ≠ (TX7 b).2.1 := by decide +kernel
theorem tyX7_ok : ∀ k, k < 27 → parseFieldDescriptor (TX7 k).2.2.1 = some (tyX7 k) := by decide +kernel
abbrev cX7_init : ByteArray := prog_9_method_1_code
def yX7_init : MethodName := ⟨RX7, "<init>", "()V"⟩
abbrev cX7_empties : ByteArray := prog_9_method_2_code
def yX7_empties : MethodName := ⟨RX7, "empties", "()V"⟩
abbrev cX7_in : ByteArray := prog_9_method_3_code
def yX7_in : MethodName := ⟨RX7, "in", "(JJJ)Z"⟩
abbrev cX7_isPoint : ByteArray := prog_9_method_4_code
def yX7_isPoint : MethodName := ⟨RX7, "isPoint", "(I)Z"⟩
abbrev cX7_sets : ByteArray := prog_9_method_5_code
def yX7_sets : MethodName := ⟨RX7, "sets", "()I"⟩
abbrev cX7_all : ByteArray := prog_9_method_6_code
def yX7_all : MethodName := ⟨RX7, "all", "()I"⟩
abbrev cX7_isSet : ByteArray := prog_9_method_7_code
def yX7_isSet : MethodName := ⟨RX7, "isSet", "(I)Z"⟩
abbrev cX7_has : ByteArray := prog_9_method_8_code
def yX7_has : MethodName := ⟨RX7, "has", "(II)Z"⟩
abbrev cX7_many : ByteArray := prog_9_method_9_code
def yX7_many : MethodName := ⟨RX7, "many", "(I)I"⟩
abbrev cX7_points : ByteArray := prog_9_method_10_code
def yX7_points : MethodName := ⟨RX7, "points", "(I)I"⟩
abbrev cX7_arc : ByteArray := prog_9_method_11_code
def yX7_arc : MethodName := ⟨RX7, "arc", "(III)I"⟩
abbrev cX7_item : ByteArray := prog_9_method_12_code
def yX7_item : MethodName := ⟨RX7, "item", "(III)I"⟩
abbrev cX7_isBlock : ByteArray := prog_9_method_13_code
def yX7_isBlock : MethodName := ⟨RX7, "isBlock", "(I)Z"⟩
abbrev cX7_block : ByteArray := prog_9_method_14_code
def yX7_block : MethodName := ⟨RX7, "block", "(II)I"⟩
abbrev cX7_cap : ByteArray := prog_9_method_15_code
def yX7_cap : MethodName := ⟨RX7, "cap", "(II)I"⟩
abbrev cX7_weight : ByteArray := prog_9_method_16_code
def yX7_weight : MethodName := ⟨RX7, "weight", "(II)I"⟩
abbrev cX7_cutOf : ByteArray := prog_9_method_17_code
def yX7_cutOf : MethodName := ⟨RX7, "cutOf", "(I)I"⟩
abbrev cX7_coverOf : ByteArray := prog_9_method_18_code
def yX7_coverOf : MethodName := ⟨RX7, "coverOf", "(I)I"⟩
abbrev cX7_cappedOf : ByteArray := prog_9_method_19_code
def yX7_cappedOf : MethodName := ⟨RX7, "cappedOf", "(I)I"⟩
abbrev cX7_weightOf : ByteArray := prog_9_method_20_code
def yX7_weightOf : MethodName := ⟨RX7, "weightOf", "(I)I"⟩
abbrev cX7_isFunction : ByteArray := prog_9_method_21_code
def yX7_isFunction : MethodName := ⟨RX7, "isFunction", "(I)Z"⟩
abbrev cX7_isThere : ByteArray := prog_9_method_22_code
def yX7_isThere : MethodName := ⟨RX7, "isThere", "(I)Z"⟩
abbrev cX7_isValue : ByteArray := prog_9_method_23_code
def yX7_isValue : MethodName := ⟨RX7, "isValue", "(J)Z"⟩
abbrev cX7_becomes : ByteArray := prog_9_method_24_code
def yX7_becomes : MethodName := ⟨RX7, "becomes", "(II)V"⟩
abbrev cX7_areValues : ByteArray := prog_9_method_25_code
def yX7_areValues : MethodName := ⟨RX7, "areValues", "()Z"⟩
abbrev cX7_comes : ByteArray := prog_9_method_26_code
def yX7_comes : MethodName := ⟨RX7, "comes", "(I)I"⟩
abbrev cX7_tell : ByteArray := prog_9_method_27_code
def yX7_tell : MethodName := ⟨RX7, "tell", "(III)I"⟩
abbrev cX7_makes : ByteArray := prog_9_method_28_code
def yX7_makes : MethodName := ⟨RX7, "makes", "(III)I"⟩
abbrev cX7_cut : ByteArray := prog_9_method_29_code
def yX7_cut : MethodName := ⟨RX7, "cut", "(I)I"⟩
abbrev cX7_cover : ByteArray := prog_9_method_30_code
def yX7_cover : MethodName := ⟨RX7, "cover", "(I)I"⟩
abbrev cX7_capped : ByteArray := prog_9_method_31_code
def yX7_capped : MethodName := ⟨RX7, "capped", "(I)I"⟩
abbrev cX7_weighed : ByteArray := prog_9_method_32_code
def yX7_weighed : MethodName := ⟨RX7, "weighed", "(I)I"⟩
abbrev cX7_sum : ByteArray := prog_9_method_33_code
def yX7_sum : MethodName := ⟨RX7, "sum", "(III)I"⟩
abbrev cX7_turn : ByteArray := prog_9_method_34_code
def yX7_turn : MethodName := ⟨RX7, "turn", "(II)I"⟩
abbrev cX7_cutBack : ByteArray := prog_9_method_35_code
def yX7_cutBack : MethodName := ⟨RX7, "cutBack", "(II)I"⟩
abbrev cX7_part : ByteArray := prog_9_method_36_code
def yX7_part : MethodName := ⟨RX7, "part", "(IIII)I"⟩
abbrev cX7_held : ByteArray := prog_9_method_37_code
def yX7_held : MethodName := ⟨RX7, "held", "(III)I"⟩
abbrev cX7_clear : ByteArray := prog_9_method_38_code
def yX7_clear : MethodName := ⟨RX7, "clear", "(I)I"⟩
abbrev cX7_gainOf : ByteArray := prog_9_method_39_code
def yX7_gainOf : MethodName := ⟨RX7, "gainOf", "(III)I"⟩
abbrev cX7_lessens : ByteArray := prog_9_method_40_code
def yX7_lessens : MethodName := ⟨RX7, "lessens", "(IIII)Z"⟩
abbrev cX7_failing : ByteArray := prog_9_method_41_code
def yX7_failing : MethodName := ⟨RX7, "failing", "(I)I"⟩
abbrev cX7_isRising : ByteArray := prog_9_method_42_code
def yX7_isRising : MethodName := ⟨RX7, "isRising", "(I)Z"⟩
abbrev cX7_isEven : ByteArray := prog_9_method_43_code
def yX7_isEven : MethodName := ⟨RX7, "isEven", "(I)Z"⟩
abbrev cX7_isPlain : ByteArray := prog_9_method_44_code
def yX7_isPlain : MethodName := ⟨RX7, "isPlain", "(I)Z"⟩
abbrev cX7_bit : ByteArray := prog_9_method_45_code
def yX7_bit : MethodName := ⟨RX7, "bit", "(Z)I"⟩
abbrev cX7_of : ByteArray := prog_9_method_46_code
def yX7_of : MethodName := ⟨RX7, "of", "(II)I"⟩
abbrev cX7_isUnder : ByteArray := prog_9_method_47_code
def yX7_isUnder : MethodName := ⟨RX7, "isUnder", "(II)Z"⟩
abbrev cX7_taken : ByteArray := prog_9_method_48_code
def yX7_taken : MethodName := ⟨RX7, "taken", "(II)I"⟩
abbrev cX7_value : ByteArray := prog_9_method_49_code
def yX7_value : MethodName := ⟨RX7, "value", "(II)I"⟩
abbrev cX7_gain : ByteArray := prog_9_method_50_code
def yX7_gain : MethodName := ⟨RX7, "gain", "(III)J"⟩
abbrev cX7_fails : ByteArray := prog_9_method_51_code
def yX7_fails : MethodName := ⟨RX7, "fails", "(II)I"⟩
abbrev cX7_orders : ByteArray := prog_9_method_52_code
def yX7_orders : MethodName := ⟨RX7, "orders", "(I)I"⟩
abbrev cX7_isOrder : ByteArray := prog_9_method_53_code
def yX7_isOrder : MethodName := ⟨RX7, "isOrder", "(I)Z"⟩
abbrev cX7_layOrder : ByteArray := prog_9_method_54_code
def yX7_layOrder : MethodName := ⟨RX7, "layOrder", "(I)V"⟩
abbrev cX7_baseOf : ByteArray := prog_9_method_55_code
def yX7_baseOf : MethodName := ⟨RX7, "baseOf", "(II)I"⟩
abbrev cX7_base : ByteArray := prog_9_method_56_code
def yX7_base : MethodName := ⟨RX7, "base", "(III)J"⟩
abbrev cX7_negative : ByteArray := prog_9_method_57_code
def yX7_negative : MethodName := ⟨RX7, "negative", "(II)J"⟩
abbrev cX7_spare : ByteArray := prog_9_method_58_code
def yX7_spare : MethodName := ⟨RX7, "spare", "(II)I"⟩
abbrev cX7_isBase : ByteArray := prog_9_method_59_code
def yX7_isBase : MethodName := ⟨RX7, "isBase", "(I)Z"⟩
abbrev cX7_based : ByteArray := prog_9_method_60_code
def yX7_based : MethodName := ⟨RX7, "based", "(II)I"⟩
abbrev cX7_leastOf : ByteArray := prog_9_method_61_code
def yX7_leastOf : MethodName := ⟨RX7, "leastOf", "(I)I"⟩
abbrev cX7_least : ByteArray := prog_9_method_62_code
def yX7_least : MethodName := ⟨RX7, "least", "(I)J"⟩
abbrev cX7_areClosed : ByteArray := prog_9_method_63_code
def yX7_areClosed : MethodName := ⟨RX7, "areClosed", "(II)Z"⟩
abbrev cX7_leastSets : ByteArray := prog_9_method_64_code
def yX7_leastSets : MethodName := ⟨RX7, "leastSets", "(II)I"⟩
abbrev cX7_ring : ByteArray := prog_9_method_65_code
def yX7_ring : MethodName := ⟨RX7, "ring", "(II)I"⟩
abbrev cX7_isLower : ByteArray := prog_9_method_66_code
def yX7_isLower : MethodName := ⟨RX7, "isLower", "(IIII)Z"⟩
abbrev cX7_layLevels : ByteArray := prog_9_method_67_code
def yX7_layLevels : MethodName := ⟨RX7, "layLevels", "(I)V"⟩
abbrev cX7_level : ByteArray := prog_9_method_68_code
def yX7_level : MethodName := ⟨RX7, "level", "(II)I"⟩
abbrev cX7_common : ByteArray := prog_9_method_69_code
def yX7_common : MethodName := ⟨RX7, "common", "(II)I"⟩
abbrev cX7_height : ByteArray := prog_9_method_70_code
def yX7_height : MethodName := ⟨RX7, "height", "(III)J"⟩
abbrev cX7_wallOf : ByteArray := prog_9_method_71_code
def yX7_wallOf : MethodName := ⟨RX7, "wallOf", "(III)I"⟩
abbrev cX7_areUnlike : ByteArray := prog_9_method_72_code
def yX7_areUnlike : MethodName := ⟨RX7, "areUnlike", "(II)Z"⟩
abbrev cX7_wall : ByteArray := prog_9_method_73_code
def yX7_wall : MethodName := ⟨RX7, "wall", "(III)I"⟩
abbrev cX7_wallValue : ByteArray := prog_9_method_74_code
def yX7_wallValue : MethodName := ⟨RX7, "wallValue", "(III)J"⟩
abbrev cX7_greed : ByteArray := prog_9_method_75_code
def yX7_greed : MethodName := ⟨RX7, "greed", "(II)I"⟩
abbrev cX7_best : ByteArray := prog_9_method_76_code
def yX7_best : MethodName := ⟨RX7, "best", "(II)I"⟩
abbrev cX7_most : ByteArray := prog_9_method_77_code
def yX7_most : MethodName := ⟨RX7, "most", "(III)I"⟩
abbrev cX7_feed : ByteArray := prog_9_method_78_code
def yX7_feed : MethodName := ⟨RX7, "feed", "(I)I"⟩
abbrev cX7_wordOf : ByteArray := prog_9_method_79_code
def yX7_wordOf : MethodName := ⟨RX7, "wordOf", "(I)Ljava/lang/String;"⟩
abbrev cX7_manyOf : ByteArray := prog_9_method_80_code
def yX7_manyOf : MethodName := ⟨RX7, "manyOf", "(I)I"⟩
abbrev cX7_isAt : ByteArray := prog_9_method_81_code
def yX7_isAt : MethodName := ⟨RX7, "isAt", "(CC)Z"⟩
abbrev cX7_isWord : ByteArray := prog_9_method_82_code
def yX7_isWord : MethodName := ⟨RX7, "isWord", "(II)Z"⟩
abbrev cX7_takesWord : ByteArray := prog_9_method_83_code
def yX7_takesWord : MethodName := ⟨RX7, "takesWord", "()Z"⟩
abbrev cX7_takesNumber : ByteArray := prog_9_method_84_code
def yX7_takesNumber : MethodName := ⟨RX7, "takesNumber", "(I)Z"⟩
abbrev cX7_takesDeed : ByteArray := prog_9_method_85_code
def yX7_takesDeed : MethodName := ⟨RX7, "takesDeed", "()Z"⟩
abbrev cX7_takesAll : ByteArray := prog_9_method_86_code
def yX7_takesAll : MethodName := ⟨RX7, "takesAll", "()Z"⟩
abbrev cX7_isDone : ByteArray := prog_9_method_87_code
def yX7_isDone : MethodName := ⟨RX7, "isDone", "(I)Z"⟩
abbrev cX7_deeds : ByteArray := prog_9_method_88_code
def yX7_deeds : MethodName := ⟨RX7, "deeds", "()I"⟩
abbrev cX7_says : ByteArray := prog_9_method_89_code
def yX7_says : MethodName := ⟨RX7, "says", "(I)V"⟩
abbrev cX7_saysNumber : ByteArray := prog_9_method_90_code
def yX7_saysNumber : MethodName := ⟨RX7, "saysNumber", "(I)V"⟩
abbrev cX7_write : ByteArray := prog_9_method_91_code
def yX7_write : MethodName := ⟨RX7, "write", "(I)I"⟩
abbrev cX7_paper : ByteArray := prog_9_method_92_code
def yX7_paper : MethodName := ⟨RX7, "paper", "(I)I"⟩
abbrev cX7_isList : ByteArray := prog_9_method_93_code
def yX7_isList : MethodName := ⟨RX7, "isList", "(I)Z"⟩
abbrev cX7_list : ByteArray := prog_9_method_94_code
def yX7_list : MethodName := ⟨RX7, "list", "(II)I"⟩
abbrev cX7_put : ByteArray := prog_9_method_95_code
def yX7_put : MethodName := ⟨RX7, "put", "(III)I"⟩
abbrev cX7_get : ByteArray := prog_9_method_96_code
def yX7_get : MethodName := ⟨RX7, "get", "(II)J"⟩
abbrev cX7_lay : ByteArray := prog_9_method_97_code
def yX7_lay : MethodName := ⟨RX7, "lay", "(II)I"⟩
abbrev cX7_judge : ByteArray := prog_9_method_98_code
def yX7_judge : MethodName := ⟨RX7, "judge", "(II)I"⟩
abbrev cX7_rowOf : ByteArray := prog_9_method_99_code
def yX7_rowOf : MethodName := ⟨RX7, "rowOf", "(I)[I"⟩
abbrev cX7_functions : ByteArray := prog_9_method_100_code
def yX7_functions : MethodName := ⟨RX7, "functions", "()I"⟩
abbrev cX7_image : ByteArray := prog_9_method_101_code
def yX7_image : MethodName := ⟨RX7, "image", "()I"⟩
abbrev cX7_back : ByteArray := prog_9_method_102_code
def yX7_back : MethodName := ⟨RX7, "back", "()I"⟩
abbrev cX7_unlikeNought : ByteArray := prog_9_method_103_code
def yX7_unlikeNought : MethodName := ⟨RX7, "unlikeNought", "([I)I"⟩
abbrev cX7_count : ByteArray := prog_9_method_104_code
def yX7_count : MethodName := ⟨RX7, "count", "(I)I"⟩
def RJx145de : String := "java/io/Serializable"
def TJx145de : u_T := fun k => match k with
  | _ => ("", "", "", false)
def tyJx145de : Nat → FieldType := fun k => match k with
  | _ => .int
abbrev wsJx145de0 : List Cond := u_ws RJx145de TJx145de 0
theorem nmJx145de : ∀ a, a < 0 → ∀ b, b < 0 → a ≠ b → (TJx145de a).2.1 ≠ (TJx145de b).2.1 := by decide +kernel
theorem tyJx145de_ok : ∀ k, k < 0 → parseFieldDescriptor (TJx145de k).2.2.1 = some (tyJx145de k) := by decide +kernel
def RJx9f9b0 : String := "java/lang/CharSequence"
def TJx9f9b0 : u_T := fun k => match k with
  | _ => ("", "", "", false)
def tyJx9f9b0 : Nat → FieldType := fun k => match k with
  | _ => .int
abbrev wsJx9f9b00 : List Cond := u_ws RJx9f9b0 TJx9f9b0 0
theorem nmJx9f9b0 : ∀ a, a < 0 → ∀ b, b < 0 → a ≠ b → (TJx9f9b0 a).2.1 ≠ (TJx9f9b0 b).2.1 := by decide +kernel
theorem tyJx9f9b0_ok : ∀ k, k < 0 → parseFieldDescriptor (TJx9f9b0 k).2.2.1 = some (tyJx9f9b0 k) := by decide +kernel
def RJxb160c : String := "java/lang/Comparable"
def TJxb160c : u_T := fun k => match k with
  | _ => ("", "", "", false)
def tyJxb160c : Nat → FieldType := fun k => match k with
  | _ => .int
abbrev wsJxb160c0 : List Cond := u_ws RJxb160c TJxb160c 0
theorem nmJxb160c : ∀ a, a < 0 → ∀ b, b < 0 → a ≠ b → (TJxb160c a).2.1 ≠ (TJxb160c b).2.1 := by decide +kernel
theorem tyJxb160c_ok : ∀ k, k < 0 → parseFieldDescriptor (TJxb160c k).2.2.1 = some (tyJxb160c k) := by decide +kernel
def RJ6 : String := "java/lang/Integer"
def TJ6 : u_T := fun k => match k with
  | _ => ("", "", "", false)
def tyJ6 : Nat → FieldType := fun k => match k with
  | _ => .int
abbrev wsJ60 : List Cond := u_ws RJ6 TJ6 0
theorem nmJ6 : ∀ a, a < 0 → ∀ b, b < 0 → a ≠ b → (TJ6 a).2.1 ≠ (TJ6 b).2.1 := by decide +kernel
theorem tyJ6_ok : ∀ k, k < 0 → parseFieldDescriptor (TJ6 k).2.2.1 = some (tyJ6 k) := by decide +kernel
abbrev cJ6_bitCount_0f7a4 : ByteArray := prog_10_method_49_code
def yJ6_bitCount_0f7a4 : MethodName := ⟨RJ6, "bitCount", "(I)I"⟩
def RJ9 : String := "java/lang/Math"
def TJ9 : u_T := fun k => match k with
  | _ => ("", "", "", false)
def tyJ9 : Nat → FieldType := fun k => match k with
  | _ => .int
abbrev wsJ90 : List Cond := u_ws RJ9 TJ9 0
theorem nmJ9 : ∀ a, a < 0 → ∀ b, b < 0 → a ≠ b → (TJ9 a).2.1 ≠ (TJ9 b).2.1 := by decide +kernel
theorem tyJ9_ok : ∀ k, k < 0 → parseFieldDescriptor (TJ9 k).2.2.1 = some (tyJ9 k) := by decide +kernel
abbrev cJ9_abs_0f7a4 : ByteArray := prog_11_method_59_code
def yJ9_abs_0f7a4 : MethodName := ⟨RJ9, "abs", "(I)I"⟩
abbrev cJ9_min_7cf53 : ByteArray := prog_11_method_69_code
def yJ9_min_7cf53 : MethodName := ⟨RJ9, "min", "(II)I"⟩
def RJ0 : String := "java/lang/String"
def TJ0 : u_T := fun k => match k with
  | _ => ("", "", "", false)
def tyJ0 : Nat → FieldType := fun k => match k with
  | _ => .int
abbrev wsJ00 : List Cond := u_ws RJ0 TJ0 0
theorem nmJ0 : ∀ a, a < 0 → ∀ b, b < 0 → a ≠ b → (TJ0 a).2.1 ≠ (TJ0 b).2.1 := by decide +kernel
theorem tyJ0_ok : ∀ k, k < 0 → parseFieldDescriptor (TJ0 k).2.2.1 = some (tyJ0 k) := by decide +kernel
abbrev cJ0_length_8abf5 : ByteArray := prog_12_method_54_code
def yJ0_length_8abf5 : MethodName := ⟨RJ0, "length", "()I"⟩
abbrev cJ0_charAt_5068e : ByteArray := prog_12_method_56_code
def yJ0_charAt_5068e : MethodName := ⟨RJ0, "charAt", "(I)C"⟩
abbrev cJ0_coder_7d493 : ByteArray := prog_12_method_152_code
def yJ0_coder_7d493 : MethodName := ⟨RJ0, "coder", "()B"⟩
abbrev cJ0_isLatin1_aae02 : ByteArray := prog_12_method_154_code
def yJ0_isLatin1_aae02 : MethodName := ⟨RJ0, "isLatin1", "()Z"⟩
abbrev cJ0_checkIndex_df160 : ByteArray := prog_12_method_155_code
def yJ0_checkIndex_df160 : MethodName := ⟨RJ0, "checkIndex", "(II)V"⟩
def RJ1 : String := "java/lang/StringLatin1"
def TJ1 : u_T := fun k => match k with
  | _ => ("", "", "", false)
def tyJ1 : Nat → FieldType := fun k => match k with
  | _ => .int
abbrev wsJ10 : List Cond := u_ws RJ1 TJ1 0
theorem nmJ1 : ∀ a, a < 0 → ∀ b, b < 0 → a ≠ b → (TJ1 a).2.1 ≠ (TJ1 b).2.1 := by decide +kernel
theorem tyJ1_ok : ∀ k, k < 0 → parseFieldDescriptor (TJ1 k).2.2.1 = some (tyJ1 k) := by decide +kernel
abbrev cJ1_charAt_3b067 : ByteArray := prog_13_method_2_code
def yJ1_charAt_3b067 : MethodName := ⟨RJ1, "charAt", "([BI)C"⟩
def RJ2 : String := "java/lang/StringUTF16"
def TJ2 : u_T := fun k => match k with
  | _ => ("", "", "", false)
def tyJ2 : Nat → FieldType := fun k => match k with
  | _ => .int
abbrev wsJ20 : List Cond := u_ws RJ2 TJ2 0
theorem nmJ2 : ∀ a, a < 0 → ∀ b, b < 0 → a ≠ b → (TJ2 a).2.1 ≠ (TJ2 b).2.1 := by decide +kernel
theorem tyJ2_ok : ∀ k, k < 0 → parseFieldDescriptor (TJ2 k).2.2.1 = some (tyJ2 k) := by decide +kernel
abbrev cJ2_getChar_3b067 : ByteArray := prog_14_method_5_code
def yJ2_getChar_3b067 : MethodName := ⟨RJ2, "getChar", "([BI)C"⟩
abbrev cJ2_length_9d52b : ByteArray := prog_14_method_6_code
def yJ2_length_9d52b : MethodName := ⟨RJ2, "length", "([B)I"⟩
abbrev cJ2_charAt_3b067 : ByteArray := prog_14_method_83_code
def yJ2_charAt_3b067 : MethodName := ⟨RJ2, "charAt", "([BI)C"⟩
abbrev cJ2_checkIndex_2214a : ByteArray := prog_14_method_91_code
def yJ2_checkIndex_2214a : MethodName := ⟨RJ2, "checkIndex", "(I[B)V"⟩
def RJ10 : String := "java/lang/System"
def TJ10 : u_T := fun k => match k with
  | _ => ("", "", "", false)
def tyJ10 : Nat → FieldType := fun k => match k with
  | _ => .int
abbrev wsJ100 : List Cond := u_ws RJ10 TJ10 0
theorem nmJ10 : ∀ a, a < 0 → ∀ b, b < 0 → a ≠ b → (TJ10 a).2.1 ≠ (TJ10 b).2.1 := by decide +kernel
theorem tyJ10_ok : ∀ k, k < 0 → parseFieldDescriptor (TJ10 k).2.2.1 = some (tyJ10 k) := by decide +kernel
def RJxfd54e : String := "java/lang/constant/Constable"
def TJxfd54e : u_T := fun k => match k with
  | _ => ("", "", "", false)
def tyJxfd54e : Nat → FieldType := fun k => match k with
  | _ => .int
abbrev wsJxfd54e0 : List Cond := u_ws RJxfd54e TJxfd54e 0
theorem nmJxfd54e : ∀ a, a < 0 → ∀ b, b < 0 → a ≠ b → (TJxfd54e a).2.1 ≠ (TJxfd54e b).2.1 := by decide +kernel
theorem tyJxfd54e_ok : ∀ k, k < 0 → parseFieldDescriptor (TJxfd54e k).2.2.1 = some (tyJxfd54e k) := by decide +kernel
def RJx3cf43 : String := "java/lang/constant/ConstantDesc"
def TJx3cf43 : u_T := fun k => match k with
  | _ => ("", "", "", false)
def tyJx3cf43 : Nat → FieldType := fun k => match k with
  | _ => .int
abbrev wsJx3cf430 : List Cond := u_ws RJx3cf43 TJx3cf43 0
theorem nmJx3cf43 : ∀ a, a < 0 → ∀ b, b < 0 → a ≠ b → (TJx3cf43 a).2.1 ≠ (TJx3cf43 b).2.1 := by decide +kernel
theorem tyJx3cf43_ok : ∀ k, k < 0 → parseFieldDescriptor (TJx3cf43 k).2.2.1 = some (tyJx3cf43 k) := by decide +kernel
def RJ7 : String := "java/util/Arrays"
def TJ7 : u_T := fun k => match k with
  | _ => ("", "", "", false)
def tyJ7 : Nat → FieldType := fun k => match k with
  | _ => .int
abbrev wsJ70 : List Cond := u_ws RJ7 TJ7 0
theorem nmJ7 : ∀ a, a < 0 → ∀ b, b < 0 → a ≠ b → (TJ7 a).2.1 ≠ (TJ7 b).2.1 := by decide +kernel
theorem tyJ7_ok : ∀ k, k < 0 → parseFieldDescriptor (TJ7 k).2.2.1 = some (tyJ7 k) := by decide +kernel
abbrev cJ7_fill_53178 : ByteArray := prog_16_method_103_code
def yJ7_fill_53178 : MethodName := ⟨RJ7, "fill", "([II)V"⟩
def RJ3 : String := "jdk/internal/util/Preconditions"
def TJ3 : u_T := fun k => match k with
  | _ => ("", "", "", false)
def tyJ3 : Nat → FieldType := fun k => match k with
  | _ => .int
abbrev wsJ30 : List Cond := u_ws RJ3 TJ3 0
theorem nmJ3 : ∀ a, a < 0 → ∀ b, b < 0 → a ≠ b → (TJ3 a).2.1 ≠ (TJ3 b).2.1 := by decide +kernel
theorem tyJ3_ok : ∀ k, k < 0 → parseFieldDescriptor (TJ3 k).2.2.1 = some (tyJ3 k) := by decide +kernel
abbrev cJ3_checkIndex_8e157 : ByteArray := prog_17_method_11_code
def yJ3_checkIndex_8e157 : MethodName := ⟨RJ3, "checkIndex", "(IILjava/util/function/BiFunction;)I"⟩
def RL : String := "LesseningGainsLaw"
abbrev cL_law : ByteArray := code
def yL_law : MethodName := ⟨RL, "law", "([I)Z"⟩
abbrev vwCl : List vw_C := [(RX0, TX0, 2), (RX1, TX1, 2), (RX2, TX2, 4), (RX3, TX3, 2), (RX4, TX4, 6), (RX5, TX5, 9), (RX6, TX6, 10), (RX7, TX7, 27)]
end
section
def wsT : List Cond := lw_tbl.filter goodWord
theorem wsT_in {w : Cond} (h : w ∈ lw_tbl) (hg : goodWord w = true) : w ∈ wsT := List.mem_filter.mpr ⟨h, hg⟩
theorem wsT_sub : ∀ w ∈ wsT, w ∈ lw_tbl := fun _ h => (List.mem_filter.mp h).1
theorem tin0 {w : Cond} (h : w ∈ k2_sels lw_privs) : w ∈ lw_tbl := List.mem_append_left _ h
theorem tin1 {w : Cond} (h : w ∈ tables_1_1) : w ∈ lw_tbl := List.mem_append_right _ (List.mem_append_left _ h)
theorem tin2 {w : Cond} (h : w ∈ tables_1_2) : w ∈ lw_tbl := List.mem_append_right _ (List.mem_append_right _ (List.mem_append_left _ h))
theorem tin3 {w : Cond} (h : w ∈ tables_1_3) : w ∈ lw_tbl := List.mem_append_right _ (List.mem_append_right _ (List.mem_append_right _ (List.mem_append_left _ h)))
theorem tin4 {w : Cond} (h : w ∈ tables_1_4) : w ∈ lw_tbl := List.mem_append_right _ (List.mem_append_right _ (List.mem_append_right _ (List.mem_append_right _ (List.mem_append_left _ h))))
theorem tin5 {w : Cond} (h : w ∈ tables_1_5) : w ∈ lw_tbl := List.mem_append_right _ (List.mem_append_right _ (List.mem_append_right _ (List.mem_append_right _ (List.mem_append_right _ (List.mem_append_left _ h)))))
theorem tin6 {w : Cond} (h : w ∈ tables_1_6) : w ∈ lw_tbl := List.mem_append_right _ (List.mem_append_right _ (List.mem_append_right _ (List.mem_append_right _ (List.mem_append_right _ (List.mem_append_right _ (h))))))
theorem iz_L : Cond.initialized RL ∈ wsT := wsT_in (tin1 (List.mem_of_getElem? (i := 0) (by decide +kernel))) (by decide +kernel)
theorem iz_X6 : Cond.initialized RX6 ∈ wsT := wsT_in (tin1 (List.mem_of_getElem? (i := 1) (by decide +kernel))) (by decide +kernel)
theorem iz_X5 : Cond.initialized RX5 ∈ wsT := wsT_in (tin1 (List.mem_of_getElem? (i := 2) (by decide +kernel))) (by decide +kernel)
theorem iz_X3 : Cond.initialized RX3 ∈ wsT := wsT_in (tin1 (List.mem_of_getElem? (i := 3) (by decide +kernel))) (by decide +kernel)
theorem iz_J7 : Cond.initialized RJ7 ∈ wsT := wsT_in (tin1 (List.mem_of_getElem? (i := 4) (by decide +kernel))) (by decide +kernel)
theorem iz_X0 : Cond.initialized RX0 ∈ wsT := wsT_in (tin1 (List.mem_of_getElem? (i := 5) (by decide +kernel))) (by decide +kernel)
theorem iz_X4 : Cond.initialized RX4 ∈ wsT := wsT_in (tin1 (List.mem_of_getElem? (i := 6) (by decide +kernel))) (by decide +kernel)
theorem iz_X1 : Cond.initialized RX1 ∈ wsT := wsT_in (tin1 (List.mem_of_getElem? (i := 7) (by decide +kernel))) (by decide +kernel)
theorem iz_X2 : Cond.initialized RX2 ∈ wsT := wsT_in (tin1 (List.mem_of_getElem? (i := 8) (by decide +kernel))) (by decide +kernel)
theorem iz_X7 : Cond.initialized RX7 ∈ wsT := wsT_in (tin1 (List.mem_of_getElem? (i := 9) (by decide +kernel))) (by decide +kernel)
theorem iz_J9 : Cond.initialized RJ9 ∈ wsT := wsT_in (tin1 (List.mem_of_getElem? (i := 10) (by decide +kernel))) (by decide +kernel)
theorem iz_J10 : Cond.initialized RJ10 ∈ wsT := wsT_in (tin1 (List.mem_of_getElem? (i := 11) (by decide +kernel))) (by decide +kernel)
theorem iz_J6 : Cond.initialized RJ6 ∈ wsT := wsT_in (tin1 (List.mem_of_getElem? (i := 12) (by decide +kernel))) (by decide +kernel)
theorem iz_J0 : Cond.initialized RJ0 ∈ wsT := wsT_in (tin1 (List.mem_of_getElem? (i := 13) (by decide +kernel))) (by decide +kernel)
theorem iz_J1 : Cond.initialized RJ1 ∈ wsT := wsT_in (tin1 (List.mem_of_getElem? (i := 14) (by decide +kernel))) (by decide +kernel)
theorem iz_J3 : Cond.initialized RJ3 ∈ wsT := wsT_in (tin1 (List.mem_of_getElem? (i := 15) (by decide +kernel))) (by decide +kernel)
theorem iz_J2 : Cond.initialized RJ2 ∈ wsT := wsT_in (tin1 (List.mem_of_getElem? (i := 16) (by decide +kernel))) (by decide +kernel)
theorem kl_L_7 : Cond.classLink RL 7 RX6 ∈ wsT := wsT_in (tin1 (List.mem_of_getElem? (i := 17) (by decide +kernel))) (by decide +kernel)
theorem ia_X6 : Cond.instantiable RX6 10 ∈ wsT := wsT_in (tin1 (List.mem_of_getElem? (i := 18) (by decide +kernel))) (by decide +kernel)
theorem ml_L_9 : Cond.methodLink RL 9 yX6_init ∈ wsT := wsT_in (tin1 (List.mem_of_getElem? (i := 19) (by decide +kernel))) (by decide +kernel)
theorem im_X6_init : Cond.instanceMethod yX6_init ∈ wsT := wsT_in (tin1 (List.mem_of_getElem? (i := 20) (by decide +kernel))) (by decide +kernel)
theorem cd_X6_init : Cond.code yX6_init cX6_init 2 (none : Option Jvm.ClassFile.FieldType) ∈ wsT := wsT_in (tin1 (List.mem_of_getElem? (i := 21) (by decide +kernel))) (by decide +kernel)
theorem ml_X6_3 : Cond.methodLink RX6 3 objectInit ∈ wsT := wsT_in (tin1 (List.mem_of_getElem? (i := 22) (by decide +kernel))) (by decide +kernel)
theorem im_objectInit : Cond.instanceMethod objectInit ∈ wsT := wsT_in (tin1 (List.mem_of_getElem? (i := 23) (by decide +kernel))) (by decide +kernel)
theorem cd_objectInit : Cond.code objectInit object_method_1_code 1 (none : Option Jvm.ClassFile.FieldType) ∈ wsT := wsT_in (tin1 (List.mem_of_getElem? (i := 24) (by decide +kernel))) (by decide +kernel)
theorem kl_X6_9 : Cond.classLink RX6 9 RX5 ∈ wsT := wsT_in (tin1 (List.mem_of_getElem? (i := 25) (by decide +kernel))) (by decide +kernel)
theorem ia_X5 : Cond.instantiable RX5 9 ∈ wsT := wsT_in (tin1 (List.mem_of_getElem? (i := 26) (by decide +kernel))) (by decide +kernel)
theorem ml_X6_11 : Cond.methodLink RX6 11 yX5_init ∈ wsT := wsT_in (tin1 (List.mem_of_getElem? (i := 27) (by decide +kernel))) (by decide +kernel)
theorem im_X5_init : Cond.instanceMethod yX5_init ∈ wsT := wsT_in (tin1 (List.mem_of_getElem? (i := 28) (by decide +kernel))) (by decide +kernel)
theorem cd_X5_init : Cond.code yX5_init cX5_init 2 (none : Option Jvm.ClassFile.FieldType) ∈ wsT := wsT_in (tin1 (List.mem_of_getElem? (i := 29) (by decide +kernel))) (by decide +kernel)
theorem ml_X5_3 : Cond.methodLink RX5 3 objectInit ∈ wsT := wsT_in (tin1 (List.mem_of_getElem? (i := 30) (by decide +kernel))) (by decide +kernel)
theorem kl_X5_30 : Cond.classLink RX5 30 RX3 ∈ wsT := wsT_in (tin1 (List.mem_of_getElem? (i := 31) (by decide +kernel))) (by decide +kernel)
theorem ia_X3 : Cond.instantiable RX3 2 ∈ wsT := wsT_in (tin1 (List.mem_of_getElem? (i := 33) (by decide +kernel))) (by decide +kernel)
theorem im_X3_init : Cond.instanceMethod yX3_init ∈ wsT := wsT_in (tin1 (List.mem_of_getElem? (i := 35) (by decide +kernel))) (by decide +kernel)
theorem cd_X3_init : Cond.code yX3_init cX3_init 1 (none : Option Jvm.ClassFile.FieldType) ∈ wsT := wsT_in (tin1 (List.mem_of_getElem? (i := 36) (by decide +kernel))) (by decide +kernel)
theorem ml_X3_3 : Cond.methodLink RX3 3 objectInit ∈ wsT := wsT_in (tin1 (List.mem_of_getElem? (i := 37) (by decide +kernel))) (by decide +kernel)
theorem fl_X3_9 : Cond.fieldLink RX3 9 RX3 "kind" "I" ∈ wsT := wsT_in (tin1 (List.mem_of_getElem? (i := 38) (by decide +kernel))) (by decide +kernel)
theorem fl_X6_116 : Cond.fieldLink RX6 116 RX3 "kind" "I" ∈ wsT := wsT_in (tin1 (List.mem_of_getElem? (i := 39) (by decide +kernel))) (by decide +kernel)
theorem fl_X3_15 : Cond.fieldLink RX3 15 RX3 "values" "[I" ∈ wsT := wsT_in (tin1 (List.mem_of_getElem? (i := 40) (by decide +kernel))) (by decide +kernel)
theorem fl_X6_111 : Cond.fieldLink RX6 111 RX3 "values" "[I" ∈ wsT := wsT_in (tin1 (List.mem_of_getElem? (i := 41) (by decide +kernel))) (by decide +kernel)
theorem ly_X3_kind : Cond.lays RX3 RX3 "kind" "I" ∈ wsT := wsT_in (tin1 (List.mem_of_getElem? (i := 42) (by decide +kernel))) (by decide +kernel)
theorem ly_X3_values : Cond.laysFinal RX3 RX3 "values" "[I" ∈ wsT := wsT_in (tin1 (List.mem_of_getElem? (i := 44) (by decide +kernel))) (by decide +kernel)
theorem ac__int : Cond.arrayClass .int ∈ wsT := wsT_in (tin1 (List.mem_of_getElem? (i := 47) (by decide +kernel))) (by decide +kernel)
theorem ml_X5_40 : Cond.methodLink RX5 40 yX5_startAnew ∈ wsT := wsT_in (tin1 (List.mem_of_getElem? (i := 48) (by decide +kernel))) (by decide +kernel)
theorem im_X5_startAnew : Cond.instanceMethod yX5_startAnew ∈ wsT := wsT_in (tin1 (List.mem_of_getElem? (i := 49) (by decide +kernel))) (by decide +kernel)
theorem sl_X5_startAnew : Cond.selects RX5 yX5_startAnew yX5_startAnew ∈ wsT := wsT_in (tin1 (List.mem_of_getElem? (i := 50) (by decide +kernel))) (by decide +kernel)
theorem cd_X5_startAnew : Cond.code yX5_startAnew cX5_startAnew 3 (none : Option Jvm.ClassFile.FieldType) ∈ wsT := wsT_in (tin1 (List.mem_of_getElem? (i := 51) (by decide +kernel))) (by decide +kernel)
theorem ml_X5_48 : Cond.methodLink RX5 48 yJ7_fill_53178 ∈ wsT := wsT_in (tin1 (List.mem_of_getElem? (i := 52) (by decide +kernel))) (by decide +kernel)
theorem sm_J7_fill_53178 : Cond.static yJ7_fill_53178 ∈ wsT := wsT_in (tin1 (List.mem_of_getElem? (i := 53) (by decide +kernel))) (by decide +kernel)
theorem cd_J7_fill_53178 : Cond.code yJ7_fill_53178 cJ7_fill_53178 4 (none : Option Jvm.ClassFile.FieldType) ∈ wsT := wsT_in (tin1 (List.mem_of_getElem? (i := 54) (by decide +kernel))) (by decide +kernel)
theorem ml_X5_54 : Cond.methodLink RX5 54 yX3_vanish ∈ wsT := wsT_in (tin1 (List.mem_of_getElem? (i := 55) (by decide +kernel))) (by decide +kernel)
theorem im_X3_vanish : Cond.instanceMethod yX3_vanish ∈ wsT := wsT_in (tin1 (List.mem_of_getElem? (i := 56) (by decide +kernel))) (by decide +kernel)
theorem sl_X3_vanish : Cond.selects RX3 yX3_vanish yX3_vanish ∈ wsT := wsT_in (tin1 (List.mem_of_getElem? (i := 57) (by decide +kernel))) (by decide +kernel)
theorem cd_X3_vanish : Cond.code yX3_vanish cX3_vanish 1 (none : Option Jvm.ClassFile.FieldType) ∈ wsT := wsT_in (tin1 (List.mem_of_getElem? (i := 58) (by decide +kernel))) (by decide +kernel)
theorem ml_X3_19 : Cond.methodLink RX3 19 yJ7_fill_53178 ∈ wsT := wsT_in (tin1 (List.mem_of_getElem? (i := 59) (by decide +kernel))) (by decide +kernel)
theorem fl_X5_44 : Cond.fieldLink RX5 44 RX5 "n" "I" ∈ wsT := wsT_in (tin1 (List.mem_of_getElem? (i := 60) (by decide +kernel))) (by decide +kernel)
theorem fl_X6_63 : Cond.fieldLink RX6 63 RX5 "n" "I" ∈ wsT := wsT_in (tin1 (List.mem_of_getElem? (i := 61) (by decide +kernel))) (by decide +kernel)
theorem fl_X5_9 : Cond.fieldLink RX5 9 RX5 "loads" "[I" ∈ wsT := wsT_in (tin1 (List.mem_of_getElem? (i := 62) (by decide +kernel))) (by decide +kernel)
theorem fl_X6_75 : Cond.fieldLink RX6 75 RX5 "loads" "[I" ∈ wsT := wsT_in (tin1 (List.mem_of_getElem? (i := 63) (by decide +kernel))) (by decide +kernel)
theorem fl_X5_15 : Cond.fieldLink RX5 15 RX5 "worths" "[I" ∈ wsT := wsT_in (tin1 (List.mem_of_getElem? (i := 64) (by decide +kernel))) (by decide +kernel)
theorem fl_X6_81 : Cond.fieldLink RX6 81 RX5 "worths" "[I" ∈ wsT := wsT_in (tin1 (List.mem_of_getElem? (i := 65) (by decide +kernel))) (by decide +kernel)
theorem fl_X5_18 : Cond.fieldLink RX5 18 RX5 "itemSets" "[I" ∈ wsT := wsT_in (tin1 (List.mem_of_getElem? (i := 66) (by decide +kernel))) (by decide +kernel)
theorem fl_X6_84 : Cond.fieldLink RX6 84 RX5 "itemSets" "[I" ∈ wsT := wsT_in (tin1 (List.mem_of_getElem? (i := 67) (by decide +kernel))) (by decide +kernel)
theorem fl_X5_21 : Cond.fieldLink RX5 21 RX5 "blocks" "[I" ∈ wsT := wsT_in (tin1 (List.mem_of_getElem? (i := 68) (by decide +kernel))) (by decide +kernel)
theorem fl_X6_90 : Cond.fieldLink RX6 90 RX5 "blocks" "[I" ∈ wsT := wsT_in (tin1 (List.mem_of_getElem? (i := 69) (by decide +kernel))) (by decide +kernel)
theorem fl_X5_24 : Cond.fieldLink RX5 24 RX5 "caps" "[I" ∈ wsT := wsT_in (tin1 (List.mem_of_getElem? (i := 70) (by decide +kernel))) (by decide +kernel)
theorem fl_X6_93 : Cond.fieldLink RX6 93 RX5 "caps" "[I" ∈ wsT := wsT_in (tin1 (List.mem_of_getElem? (i := 71) (by decide +kernel))) (by decide +kernel)
theorem fl_X5_27 : Cond.fieldLink RX5 27 RX5 "weights" "[I" ∈ wsT := wsT_in (tin1 (List.mem_of_getElem? (i := 72) (by decide +kernel))) (by decide +kernel)
theorem fl_X6_98 : Cond.fieldLink RX6 98 RX5 "weights" "[I" ∈ wsT := wsT_in (tin1 (List.mem_of_getElem? (i := 73) (by decide +kernel))) (by decide +kernel)
theorem fl_X5_32 : Cond.fieldLink RX5 32 RX5 "functions" "[LLesseningGains$SetFunction;" ∈ wsT := wsT_in (tin1 (List.mem_of_getElem? (i := 74) (by decide +kernel))) (by decide +kernel)
theorem fl_X6_107 : Cond.fieldLink RX6 107 RX5 "functions" "[LLesseningGains$SetFunction;" ∈ wsT := wsT_in (tin1 (List.mem_of_getElem? (i := 75) (by decide +kernel))) (by decide +kernel)
theorem fl_X5_36 : Cond.fieldLink RX5 36 RX5 "blockSizes" "[I" ∈ wsT := wsT_in (tin1 (List.mem_of_getElem? (i := 76) (by decide +kernel))) (by decide +kernel)
theorem ly_X5_n : Cond.lays RX5 RX5 "n" "I" ∈ wsT := wsT_in (tin1 (List.mem_of_getElem? (i := 77) (by decide +kernel))) (by decide +kernel)
theorem ly_X5_loads : Cond.laysFinal RX5 RX5 "loads" "[I" ∈ wsT := wsT_in (tin1 (List.mem_of_getElem? (i := 79) (by decide +kernel))) (by decide +kernel)
theorem ly_X5_worths : Cond.laysFinal RX5 RX5 "worths" "[I" ∈ wsT := wsT_in (tin1 (List.mem_of_getElem? (i := 81) (by decide +kernel))) (by decide +kernel)
theorem ly_X5_itemSets : Cond.laysFinal RX5 RX5 "itemSets" "[I" ∈ wsT := wsT_in (tin1 (List.mem_of_getElem? (i := 83) (by decide +kernel))) (by decide +kernel)
theorem ly_X5_blocks : Cond.laysFinal RX5 RX5 "blocks" "[I" ∈ wsT := wsT_in (tin1 (List.mem_of_getElem? (i := 85) (by decide +kernel))) (by decide +kernel)
theorem ly_X5_caps : Cond.laysFinal RX5 RX5 "caps" "[I" ∈ wsT := wsT_in (tin1 (List.mem_of_getElem? (i := 87) (by decide +kernel))) (by decide +kernel)
theorem ly_X5_weights : Cond.laysFinal RX5 RX5 "weights" "[I" ∈ wsT := wsT_in (tin1 (List.mem_of_getElem? (i := 89) (by decide +kernel))) (by decide +kernel)
theorem ly_X5_functions : Cond.laysFinal RX5 RX5 "functions" "[LLesseningGains$SetFunction;" ∈ wsT := wsT_in (tin1 (List.mem_of_getElem? (i := 91) (by decide +kernel))) (by decide +kernel)
theorem ly_X5_blockSizes : Cond.laysFinal RX5 RX5 "blockSizes" "[I" ∈ wsT := wsT_in (tin1 (List.mem_of_getElem? (i := 93) (by decide +kernel))) (by decide +kernel)
theorem kl_X6_25 : Cond.classLink RX6 25 RX0 ∈ wsT := wsT_in (tin1 (List.mem_of_getElem? (i := 96) (by decide +kernel))) (by decide +kernel)
theorem ia_X0 : Cond.instantiable RX0 2 ∈ wsT := wsT_in (tin1 (List.mem_of_getElem? (i := 98) (by decide +kernel))) (by decide +kernel)
theorem im_X0_init : Cond.instanceMethod yX0_init ∈ wsT := wsT_in (tin1 (List.mem_of_getElem? (i := 100) (by decide +kernel))) (by decide +kernel)
theorem cd_X0_init : Cond.code yX0_init cX0_init 1 (none : Option Jvm.ClassFile.FieldType) ∈ wsT := wsT_in (tin1 (List.mem_of_getElem? (i := 101) (by decide +kernel))) (by decide +kernel)
theorem ml_X0_3 : Cond.methodLink RX0 3 objectInit ∈ wsT := wsT_in (tin1 (List.mem_of_getElem? (i := 102) (by decide +kernel))) (by decide +kernel)
theorem fl_X0_11 : Cond.fieldLink RX0 11 RX0 "length" "I" ∈ wsT := wsT_in (tin1 (List.mem_of_getElem? (i := 103) (by decide +kernel))) (by decide +kernel)
theorem fl_X6_280 : Cond.fieldLink RX6 280 RX0 "length" "I" ∈ wsT := wsT_in (tin1 (List.mem_of_getElem? (i := 104) (by decide +kernel))) (by decide +kernel)
theorem fl_X0_15 : Cond.fieldLink RX0 15 RX0 "numbers" "[I" ∈ wsT := wsT_in (tin1 (List.mem_of_getElem? (i := 105) (by decide +kernel))) (by decide +kernel)
theorem fl_X6_272 : Cond.fieldLink RX6 272 RX0 "numbers" "[I" ∈ wsT := wsT_in (tin1 (List.mem_of_getElem? (i := 106) (by decide +kernel))) (by decide +kernel)
theorem ly_X0_length : Cond.lays RX0 RX0 "length" "I" ∈ wsT := wsT_in (tin1 (List.mem_of_getElem? (i := 107) (by decide +kernel))) (by decide +kernel)
theorem ly_X0_numbers : Cond.laysFinal RX0 RX0 "numbers" "[I" ∈ wsT := wsT_in (tin1 (List.mem_of_getElem? (i := 109) (by decide +kernel))) (by decide +kernel)
theorem kl_X6_32 : Cond.classLink RX6 32 RX4 ∈ wsT := wsT_in (tin1 (List.mem_of_getElem? (i := 112) (by decide +kernel))) (by decide +kernel)
theorem ia_X4 : Cond.instantiable RX4 6 ∈ wsT := wsT_in (tin1 (List.mem_of_getElem? (i := 113) (by decide +kernel))) (by decide +kernel)
theorem im_X4_init : Cond.instanceMethod yX4_init ∈ wsT := wsT_in (tin1 (List.mem_of_getElem? (i := 115) (by decide +kernel))) (by decide +kernel)
theorem cd_X4_init : Cond.code yX4_init cX4_init 1 (none : Option Jvm.ClassFile.FieldType) ∈ wsT := wsT_in (tin1 (List.mem_of_getElem? (i := 116) (by decide +kernel))) (by decide +kernel)
theorem ml_X4_3 : Cond.methodLink RX4 3 objectInit ∈ wsT := wsT_in (tin1 (List.mem_of_getElem? (i := 117) (by decide +kernel))) (by decide +kernel)
theorem fl_X4_20 : Cond.fieldLink RX4 20 RX4 "length" "I" ∈ wsT := wsT_in (tin1 (List.mem_of_getElem? (i := 118) (by decide +kernel))) (by decide +kernel)
theorem fl_X6_246 : Cond.fieldLink RX6 246 RX4 "length" "I" ∈ wsT := wsT_in (tin1 (List.mem_of_getElem? (i := 119) (by decide +kernel))) (by decide +kernel)
theorem fl_X4_31 : Cond.fieldLink RX4 31 RX4 "commands" "I" ∈ wsT := wsT_in (tin1 (List.mem_of_getElem? (i := 120) (by decide +kernel))) (by decide +kernel)
theorem fl_X6_252 : Cond.fieldLink RX6 252 RX4 "commands" "I" ∈ wsT := wsT_in (tin1 (List.mem_of_getElem? (i := 121) (by decide +kernel))) (by decide +kernel)
theorem fl_X4_9 : Cond.fieldLink RX4 9 RX4 "words" "[I" ∈ wsT := wsT_in (tin1 (List.mem_of_getElem? (i := 122) (by decide +kernel))) (by decide +kernel)
theorem fl_X6_321 : Cond.fieldLink RX6 321 RX4 "words" "[I" ∈ wsT := wsT_in (tin1 (List.mem_of_getElem? (i := 123) (by decide +kernel))) (by decide +kernel)
theorem fl_X4_13 : Cond.fieldLink RX4 13 RX4 "numbers" "[I" ∈ wsT := wsT_in (tin1 (List.mem_of_getElem? (i := 124) (by decide +kernel))) (by decide +kernel)
theorem fl_X4_16 : Cond.fieldLink RX4 16 RX4 "bytes" "[B" ∈ wsT := wsT_in (tin1 (List.mem_of_getElem? (i := 125) (by decide +kernel))) (by decide +kernel)
theorem fl_X4_28 : Cond.fieldLink RX4 28 RX4 "at" "I" ∈ wsT := wsT_in (tin1 (List.mem_of_getElem? (i := 126) (by decide +kernel))) (by decide +kernel)
theorem ly_X4_length : Cond.lays RX4 RX4 "length" "I" ∈ wsT := wsT_in (tin1 (List.mem_of_getElem? (i := 127) (by decide +kernel))) (by decide +kernel)
theorem ly_X4_commands : Cond.lays RX4 RX4 "commands" "I" ∈ wsT := wsT_in (tin1 (List.mem_of_getElem? (i := 129) (by decide +kernel))) (by decide +kernel)
theorem ly_X4_words : Cond.laysFinal RX4 RX4 "words" "[I" ∈ wsT := wsT_in (tin1 (List.mem_of_getElem? (i := 131) (by decide +kernel))) (by decide +kernel)
theorem ly_X4_numbers : Cond.laysFinal RX4 RX4 "numbers" "[I" ∈ wsT := wsT_in (tin1 (List.mem_of_getElem? (i := 133) (by decide +kernel))) (by decide +kernel)
theorem ly_X4_bytes : Cond.laysFinal RX4 RX4 "bytes" "[B" ∈ wsT := wsT_in (tin1 (List.mem_of_getElem? (i := 135) (by decide +kernel))) (by decide +kernel)
theorem ly_X4_at : Cond.lays RX4 RX4 "at" "I" ∈ wsT := wsT_in (tin1 (List.mem_of_getElem? (i := 137) (by decide +kernel))) (by decide +kernel)
theorem ac__byte : Cond.arrayClass .byte ∈ wsT := wsT_in (tin1 (List.mem_of_getElem? (i := 140) (by decide +kernel))) (by decide +kernel)
theorem kl_X6_39 : Cond.classLink RX6 39 RX1 ∈ wsT := wsT_in (tin1 (List.mem_of_getElem? (i := 141) (by decide +kernel))) (by decide +kernel)
theorem ia_X1 : Cond.instantiable RX1 2 ∈ wsT := wsT_in (tin1 (List.mem_of_getElem? (i := 142) (by decide +kernel))) (by decide +kernel)
theorem im_X1_init : Cond.instanceMethod yX1_init ∈ wsT := wsT_in (tin1 (List.mem_of_getElem? (i := 144) (by decide +kernel))) (by decide +kernel)
theorem cd_X1_init : Cond.code yX1_init cX1_init 1 (none : Option Jvm.ClassFile.FieldType) ∈ wsT := wsT_in (tin1 (List.mem_of_getElem? (i := 145) (by decide +kernel))) (by decide +kernel)
theorem ml_X1_1 : Cond.methodLink RX1 1 objectInit ∈ wsT := wsT_in (tin1 (List.mem_of_getElem? (i := 146) (by decide +kernel))) (by decide +kernel)
theorem fl_X1_13 : Cond.fieldLink RX1 13 RX1 "length" "I" ∈ wsT := wsT_in (tin1 (List.mem_of_getElem? (i := 147) (by decide +kernel))) (by decide +kernel)
theorem fl_X6_258 : Cond.fieldLink RX6 258 RX1 "length" "I" ∈ wsT := wsT_in (tin1 (List.mem_of_getElem? (i := 148) (by decide +kernel))) (by decide +kernel)
theorem fl_X1_9 : Cond.fieldLink RX1 9 RX1 "bytes" "[B" ∈ wsT := wsT_in (tin1 (List.mem_of_getElem? (i := 149) (by decide +kernel))) (by decide +kernel)
theorem fl_X6_265 : Cond.fieldLink RX6 265 RX1 "bytes" "[B" ∈ wsT := wsT_in (tin1 (List.mem_of_getElem? (i := 150) (by decide +kernel))) (by decide +kernel)
theorem ly_X1_length : Cond.lays RX1 RX1 "length" "I" ∈ wsT := wsT_in (tin1 (List.mem_of_getElem? (i := 151) (by decide +kernel))) (by decide +kernel)
theorem ly_X1_bytes : Cond.laysFinal RX1 RX1 "bytes" "[B" ∈ wsT := wsT_in (tin1 (List.mem_of_getElem? (i := 153) (by decide +kernel))) (by decide +kernel)
theorem kl_X6_46 : Cond.classLink RX6 46 RX2 ∈ wsT := wsT_in (tin1 (List.mem_of_getElem? (i := 156) (by decide +kernel))) (by decide +kernel)
theorem ia_X2 : Cond.instantiable RX2 4 ∈ wsT := wsT_in (tin1 (List.mem_of_getElem? (i := 157) (by decide +kernel))) (by decide +kernel)
theorem im_X2_init : Cond.instanceMethod yX2_init ∈ wsT := wsT_in (tin1 (List.mem_of_getElem? (i := 159) (by decide +kernel))) (by decide +kernel)
theorem cd_X2_init : Cond.code yX2_init cX2_init 1 (none : Option Jvm.ClassFile.FieldType) ∈ wsT := wsT_in (tin1 (List.mem_of_getElem? (i := 160) (by decide +kernel))) (by decide +kernel)
theorem ml_X2_3 : Cond.methodLink RX2 3 objectInit ∈ wsT := wsT_in (tin1 (List.mem_of_getElem? (i := 161) (by decide +kernel))) (by decide +kernel)
theorem fl_X2_21 : Cond.fieldLink RX2 21 RX2 "members" "I" ∈ wsT := wsT_in (tin1 (List.mem_of_getElem? (i := 162) (by decide +kernel))) (by decide +kernel)
theorem fl_X6_217 : Cond.fieldLink RX6 217 RX2 "members" "I" ∈ wsT := wsT_in (tin1 (List.mem_of_getElem? (i := 163) (by decide +kernel))) (by decide +kernel)
theorem fl_X2_9 : Cond.fieldLink RX2 9 RX2 "sets" "[I" ∈ wsT := wsT_in (tin1 (List.mem_of_getElem? (i := 164) (by decide +kernel))) (by decide +kernel)
theorem fl_X6_220 : Cond.fieldLink RX6 220 RX2 "sets" "[I" ∈ wsT := wsT_in (tin1 (List.mem_of_getElem? (i := 165) (by decide +kernel))) (by decide +kernel)
theorem fl_X2_15 : Cond.fieldLink RX2 15 RX2 "rises" "[I" ∈ wsT := wsT_in (tin1 (List.mem_of_getElem? (i := 166) (by decide +kernel))) (by decide +kernel)
theorem fl_X6_225 : Cond.fieldLink RX6 225 RX2 "rises" "[I" ∈ wsT := wsT_in (tin1 (List.mem_of_getElem? (i := 167) (by decide +kernel))) (by decide +kernel)
theorem fl_X2_18 : Cond.fieldLink RX2 18 RX2 "sizes" "[I" ∈ wsT := wsT_in (tin1 (List.mem_of_getElem? (i := 168) (by decide +kernel))) (by decide +kernel)
theorem fl_X6_228 : Cond.fieldLink RX6 228 RX2 "sizes" "[I" ∈ wsT := wsT_in (tin1 (List.mem_of_getElem? (i := 169) (by decide +kernel))) (by decide +kernel)
theorem ly_X2_members : Cond.lays RX2 RX2 "members" "I" ∈ wsT := wsT_in (tin1 (List.mem_of_getElem? (i := 170) (by decide +kernel))) (by decide +kernel)
theorem ly_X2_sets : Cond.laysFinal RX2 RX2 "sets" "[I" ∈ wsT := wsT_in (tin1 (List.mem_of_getElem? (i := 172) (by decide +kernel))) (by decide +kernel)
theorem ly_X2_rises : Cond.laysFinal RX2 RX2 "rises" "[I" ∈ wsT := wsT_in (tin1 (List.mem_of_getElem? (i := 174) (by decide +kernel))) (by decide +kernel)
theorem ly_X2_sizes : Cond.laysFinal RX2 RX2 "sizes" "[I" ∈ wsT := wsT_in (tin1 (List.mem_of_getElem? (i := 176) (by decide +kernel))) (by decide +kernel)
theorem fl_X6_12 : Cond.fieldLink RX6 12 RX6 "now" "LLesseningGains$World;" ∈ wsT := wsT_in (tin1 (List.mem_of_getElem? (i := 179) (by decide +kernel))) (by decide +kernel)
theorem fl_X6_18 : Cond.fieldLink RX6 18 RX6 "saved" "LLesseningGains$World;" ∈ wsT := wsT_in (tin1 (List.mem_of_getElem? (i := 180) (by decide +kernel))) (by decide +kernel)
theorem fl_X6_21 : Cond.fieldLink RX6 21 RX6 "hasImage" "Z" ∈ wsT := wsT_in (tin1 (List.mem_of_getElem? (i := 181) (by decide +kernel))) (by decide +kernel)
theorem fl_X6_27 : Cond.fieldLink RX6 27 RX6 "lists" "[LLesseningGains$NumberList;" ∈ wsT := wsT_in (tin1 (List.mem_of_getElem? (i := 182) (by decide +kernel))) (by decide +kernel)
theorem fl_X6_35 : Cond.fieldLink RX6 35 RX6 "tape" "LLesseningGains$Tape;" ∈ wsT := wsT_in (tin1 (List.mem_of_getElem? (i := 183) (by decide +kernel))) (by decide +kernel)
theorem fl_X6_42 : Cond.fieldLink RX6 42 RX6 "sheet" "LLesseningGains$Paper;" ∈ wsT := wsT_in (tin1 (List.mem_of_getElem? (i := 184) (by decide +kernel))) (by decide +kernel)
theorem fl_X6_49 : Cond.fieldLink RX6 49 RX6 "sequence" "LLesseningGains$Sequence;" ∈ wsT := wsT_in (tin1 (List.mem_of_getElem? (i := 185) (by decide +kernel))) (by decide +kernel)
theorem fl_X6_53 : Cond.fieldLink RX6 53 RX6 "draft" "[I" ∈ wsT := wsT_in (tin1 (List.mem_of_getElem? (i := 186) (by decide +kernel))) (by decide +kernel)
theorem fl_X6_57 : Cond.fieldLink RX6 57 RX6 "setWeights" "[I" ∈ wsT := wsT_in (tin1 (List.mem_of_getElem? (i := 187) (by decide +kernel))) (by decide +kernel)
theorem fl_X6_60 : Cond.fieldLink RX6 60 RX6 "orderRow" "[I" ∈ wsT := wsT_in (tin1 (List.mem_of_getElem? (i := 188) (by decide +kernel))) (by decide +kernel)
theorem ly_X6_now : Cond.laysFinal RX6 RX6 "now" "LLesseningGains$World;" ∈ wsT := wsT_in (tin1 (List.mem_of_getElem? (i := 189) (by decide +kernel))) (by decide +kernel)
theorem ly_X6_saved : Cond.laysFinal RX6 RX6 "saved" "LLesseningGains$World;" ∈ wsT := wsT_in (tin1 (List.mem_of_getElem? (i := 191) (by decide +kernel))) (by decide +kernel)
theorem ly_X6_hasImage : Cond.lays RX6 RX6 "hasImage" "Z" ∈ wsT := wsT_in (tin1 (List.mem_of_getElem? (i := 193) (by decide +kernel))) (by decide +kernel)
theorem ly_X6_lists : Cond.laysFinal RX6 RX6 "lists" "[LLesseningGains$NumberList;" ∈ wsT := wsT_in (tin1 (List.mem_of_getElem? (i := 195) (by decide +kernel))) (by decide +kernel)
theorem ly_X6_tape : Cond.laysFinal RX6 RX6 "tape" "LLesseningGains$Tape;" ∈ wsT := wsT_in (tin1 (List.mem_of_getElem? (i := 197) (by decide +kernel))) (by decide +kernel)
theorem ly_X6_sheet : Cond.laysFinal RX6 RX6 "sheet" "LLesseningGains$Paper;" ∈ wsT := wsT_in (tin1 (List.mem_of_getElem? (i := 199) (by decide +kernel))) (by decide +kernel)
theorem ly_X6_sequence : Cond.laysFinal RX6 RX6 "sequence" "LLesseningGains$Sequence;" ∈ wsT := wsT_in (tin1 (List.mem_of_getElem? (i := 201) (by decide +kernel))) (by decide +kernel)
theorem ly_X6_draft : Cond.laysFinal RX6 RX6 "draft" "[I" ∈ wsT := wsT_in (tin1 (List.mem_of_getElem? (i := 203) (by decide +kernel))) (by decide +kernel)
theorem ly_X6_setWeights : Cond.laysFinal RX6 RX6 "setWeights" "[I" ∈ wsT := wsT_in (tin1 (List.mem_of_getElem? (i := 205) (by decide +kernel))) (by decide +kernel)
theorem ly_X6_orderRow : Cond.laysFinal RX6 RX6 "orderRow" "[I" ∈ wsT := wsT_in (tin1 (List.mem_of_getElem? (i := 207) (by decide +kernel))) (by decide +kernel)
theorem ml_L_13 : Cond.methodLink RL 13 yX6_points ∈ wsT := wsT_in (tin1 (List.mem_of_getElem? (i := 210) (by decide +kernel))) (by decide +kernel)
theorem im_X6_points : Cond.instanceMethod yX6_points ∈ wsT := wsT_in (tin1 (List.mem_of_getElem? (i := 211) (by decide +kernel))) (by decide +kernel)
theorem sl_X6_points : Cond.selects RX6 yX6_points yX6_points ∈ wsT := wsT_in (tin1 (List.mem_of_getElem? (i := 212) (by decide +kernel))) (by decide +kernel)
theorem cd_X6_points : Cond.code yX6_points cX6_points 3 (some .int) ∈ wsT := wsT_in (tin1 (List.mem_of_getElem? (i := 213) (by decide +kernel))) (by decide +kernel)
theorem ml_X6_67 : Cond.methodLink RX6 67 yX5_startAnew ∈ wsT := wsT_in (tin1 (List.mem_of_getElem? (i := 214) (by decide +kernel))) (by decide +kernel)
theorem ml_L_18 : Cond.methodLink RL 18 yX6_arc ∈ wsT := wsT_in (tin1 (List.mem_of_getElem? (i := 215) (by decide +kernel))) (by decide +kernel)
theorem im_X6_arc : Cond.instanceMethod yX6_arc ∈ wsT := wsT_in (tin1 (List.mem_of_getElem? (i := 216) (by decide +kernel))) (by decide +kernel)
theorem sl_X6_arc : Cond.selects RX6 yX6_arc yX6_arc ∈ wsT := wsT_in (tin1 (List.mem_of_getElem? (i := 217) (by decide +kernel))) (by decide +kernel)
theorem cd_X6_arc : Cond.code yX6_arc cX6_arc 6 (some .int) ∈ wsT := wsT_in (tin1 (List.mem_of_getElem? (i := 218) (by decide +kernel))) (by decide +kernel)
theorem ml_X6_71 : Cond.methodLink RX6 71 yX5_hasPoint ∈ wsT := wsT_in (tin1 (List.mem_of_getElem? (i := 219) (by decide +kernel))) (by decide +kernel)
theorem im_X5_hasPoint : Cond.instanceMethod yX5_hasPoint ∈ wsT := wsT_in (tin1 (List.mem_of_getElem? (i := 220) (by decide +kernel))) (by decide +kernel)
theorem sl_X5_hasPoint : Cond.selects RX5 yX5_hasPoint yX5_hasPoint ∈ wsT := wsT_in (tin1 (List.mem_of_getElem? (i := 221) (by decide +kernel))) (by decide +kernel)
theorem cd_X5_hasPoint : Cond.code yX5_hasPoint cX5_hasPoint 2 (some .boolean) ∈ wsT := wsT_in (tin1 (List.mem_of_getElem? (i := 222) (by decide +kernel))) (by decide +kernel)
theorem ml_L_23 : Cond.methodLink RL 23 yX6_item ∈ wsT := wsT_in (tin1 (List.mem_of_getElem? (i := 223) (by decide +kernel))) (by decide +kernel)
theorem im_X6_item : Cond.instanceMethod yX6_item ∈ wsT := wsT_in (tin1 (List.mem_of_getElem? (i := 224) (by decide +kernel))) (by decide +kernel)
theorem sl_X6_item : Cond.selects RX6 yX6_item yX6_item ∈ wsT := wsT_in (tin1 (List.mem_of_getElem? (i := 225) (by decide +kernel))) (by decide +kernel)
theorem cd_X6_item : Cond.code yX6_item cX6_item 5 (some .int) ∈ wsT := wsT_in (tin1 (List.mem_of_getElem? (i := 226) (by decide +kernel))) (by decide +kernel)
theorem ml_X6_78 : Cond.methodLink RX6 78 yX5_hasSet ∈ wsT := wsT_in (tin1 (List.mem_of_getElem? (i := 227) (by decide +kernel))) (by decide +kernel)
theorem im_X5_hasSet : Cond.instanceMethod yX5_hasSet ∈ wsT := wsT_in (tin1 (List.mem_of_getElem? (i := 228) (by decide +kernel))) (by decide +kernel)
theorem sl_X5_hasSet : Cond.selects RX5 yX5_hasSet yX5_hasSet ∈ wsT := wsT_in (tin1 (List.mem_of_getElem? (i := 229) (by decide +kernel))) (by decide +kernel)
theorem cd_X5_hasSet : Cond.code yX5_hasSet cX5_hasSet 2 (some .boolean) ∈ wsT := wsT_in (tin1 (List.mem_of_getElem? (i := 230) (by decide +kernel))) (by decide +kernel)
theorem ml_X5_67 : Cond.methodLink RX5 67 yX5_all ∈ wsT := wsT_in (tin1 (List.mem_of_getElem? (i := 231) (by decide +kernel))) (by decide +kernel)
theorem im_X5_all : Cond.instanceMethod yX5_all ∈ wsT := wsT_in (tin1 (List.mem_of_getElem? (i := 232) (by decide +kernel))) (by decide +kernel)
theorem sl_X5_all : Cond.selects RX5 yX5_all yX5_all ∈ wsT := wsT_in (tin1 (List.mem_of_getElem? (i := 233) (by decide +kernel))) (by decide +kernel)
theorem cd_X5_all : Cond.code yX5_all cX5_all 1 (some .int) ∈ wsT := wsT_in (tin1 (List.mem_of_getElem? (i := 234) (by decide +kernel))) (by decide +kernel)
theorem ml_L_27 : Cond.methodLink RL 27 yX6_block ∈ wsT := wsT_in (tin1 (List.mem_of_getElem? (i := 235) (by decide +kernel))) (by decide +kernel)
theorem im_X6_block : Cond.instanceMethod yX6_block ∈ wsT := wsT_in (tin1 (List.mem_of_getElem? (i := 236) (by decide +kernel))) (by decide +kernel)
theorem sl_X6_block : Cond.selects RX6 yX6_block yX6_block ∈ wsT := wsT_in (tin1 (List.mem_of_getElem? (i := 237) (by decide +kernel))) (by decide +kernel)
theorem cd_X6_block : Cond.code yX6_block cX6_block 4 (some .int) ∈ wsT := wsT_in (tin1 (List.mem_of_getElem? (i := 238) (by decide +kernel))) (by decide +kernel)
theorem ml_X6_87 : Cond.methodLink RX6 87 yX6_isBlock ∈ wsT := wsT_in (tin1 (List.mem_of_getElem? (i := 239) (by decide +kernel))) (by decide +kernel)
theorem sm_X6_isBlock : Cond.static yX6_isBlock ∈ wsT := wsT_in (tin2 (List.mem_of_getElem? (i := 0) (by decide +kernel))) (by decide +kernel)
theorem cd_X6_isBlock : Cond.code yX6_isBlock cX6_isBlock 1 (some .boolean) ∈ wsT := wsT_in (tin2 (List.mem_of_getElem? (i := 1) (by decide +kernel))) (by decide +kernel)
theorem ml_L_32 : Cond.methodLink RL 32 yX6_cap ∈ wsT := wsT_in (tin2 (List.mem_of_getElem? (i := 2) (by decide +kernel))) (by decide +kernel)
theorem im_X6_cap : Cond.instanceMethod yX6_cap ∈ wsT := wsT_in (tin2 (List.mem_of_getElem? (i := 3) (by decide +kernel))) (by decide +kernel)
theorem sl_X6_cap : Cond.selects RX6 yX6_cap yX6_cap ∈ wsT := wsT_in (tin2 (List.mem_of_getElem? (i := 4) (by decide +kernel))) (by decide +kernel)
theorem cd_X6_cap : Cond.code yX6_cap cX6_cap 4 (some .int) ∈ wsT := wsT_in (tin2 (List.mem_of_getElem? (i := 5) (by decide +kernel))) (by decide +kernel)
theorem ml_L_36 : Cond.methodLink RL 36 yX6_weight ∈ wsT := wsT_in (tin2 (List.mem_of_getElem? (i := 6) (by decide +kernel))) (by decide +kernel)
theorem im_X6_weight : Cond.instanceMethod yX6_weight ∈ wsT := wsT_in (tin2 (List.mem_of_getElem? (i := 7) (by decide +kernel))) (by decide +kernel)
theorem sl_X6_weight : Cond.selects RX6 yX6_weight yX6_weight ∈ wsT := wsT_in (tin2 (List.mem_of_getElem? (i := 8) (by decide +kernel))) (by decide +kernel)
theorem cd_X6_weight : Cond.code yX6_weight cX6_weight 4 (some .int) ∈ wsT := wsT_in (tin2 (List.mem_of_getElem? (i := 9) (by decide +kernel))) (by decide +kernel)
theorem cn_X6_96 : Cond.constant RX6 96 (-1000001) ∈ wsT := wsT_in (tin2 (List.mem_of_getElem? (i := 10) (by decide +kernel))) (by decide +kernel)
theorem cn_X6_97 : Cond.constant RX6 97 (-1000002) ∈ wsT := wsT_in (tin2 (List.mem_of_getElem? (i := 11) (by decide +kernel))) (by decide +kernel)
theorem ml_L_40 : Cond.methodLink RL 40 yX6_tell ∈ wsT := wsT_in (tin2 (List.mem_of_getElem? (i := 12) (by decide +kernel))) (by decide +kernel)
theorem im_X6_tell : Cond.instanceMethod yX6_tell ∈ wsT := wsT_in (tin2 (List.mem_of_getElem? (i := 13) (by decide +kernel))) (by decide +kernel)
theorem sl_X6_tell : Cond.selects RX6 yX6_tell yX6_tell ∈ wsT := wsT_in (tin2 (List.mem_of_getElem? (i := 14) (by decide +kernel))) (by decide +kernel)
theorem cd_X6_tell : Cond.code yX6_tell cX6_tell 6 (some .int) ∈ wsT := wsT_in (tin2 (List.mem_of_getElem? (i := 15) (by decide +kernel))) (by decide +kernel)
theorem ml_X6_101 : Cond.methodLink RX6 101 yX6_isFunction ∈ wsT := wsT_in (tin2 (List.mem_of_getElem? (i := 16) (by decide +kernel))) (by decide +kernel)
theorem sm_X6_isFunction : Cond.static yX6_isFunction ∈ wsT := wsT_in (tin2 (List.mem_of_getElem? (i := 17) (by decide +kernel))) (by decide +kernel)
theorem cd_X6_isFunction : Cond.code yX6_isFunction cX6_isFunction 1 (some .boolean) ∈ wsT := wsT_in (tin2 (List.mem_of_getElem? (i := 18) (by decide +kernel))) (by decide +kernel)
theorem ml_X6_104 : Cond.methodLink RX6 104 yX6_isValue ∈ wsT := wsT_in (tin2 (List.mem_of_getElem? (i := 19) (by decide +kernel))) (by decide +kernel)
theorem sm_X6_isValue : Cond.static yX6_isValue ∈ wsT := wsT_in (tin2 (List.mem_of_getElem? (i := 20) (by decide +kernel))) (by decide +kernel)
theorem cd_X6_isValue : Cond.code yX6_isValue cX6_isValue 1 (some .boolean) ∈ wsT := wsT_in (tin2 (List.mem_of_getElem? (i := 21) (by decide +kernel))) (by decide +kernel)
theorem cn_X6_301 : Cond.constant RX6 301 (-999999) ∈ wsT := wsT_in (tin2 (List.mem_of_getElem? (i := 22) (by decide +kernel))) (by decide +kernel)
theorem cn_X6_302 : Cond.constant RX6 302 (999999) ∈ wsT := wsT_in (tin2 (List.mem_of_getElem? (i := 23) (by decide +kernel))) (by decide +kernel)
theorem ml_L_44 : Cond.methodLink RL 44 yX6_cut ∈ wsT := wsT_in (tin2 (List.mem_of_getElem? (i := 24) (by decide +kernel))) (by decide +kernel)
theorem im_X6_cut : Cond.instanceMethod yX6_cut ∈ wsT := wsT_in (tin2 (List.mem_of_getElem? (i := 25) (by decide +kernel))) (by decide +kernel)
theorem sl_X6_cut : Cond.selects RX6 yX6_cut yX6_cut ∈ wsT := wsT_in (tin2 (List.mem_of_getElem? (i := 26) (by decide +kernel))) (by decide +kernel)
theorem cd_X6_cut : Cond.code yX6_cut cX6_cut 2 (some .int) ∈ wsT := wsT_in (tin2 (List.mem_of_getElem? (i := 27) (by decide +kernel))) (by decide +kernel)
theorem ml_X6_119 : Cond.methodLink RX6 119 yX5_all ∈ wsT := wsT_in (tin2 (List.mem_of_getElem? (i := 28) (by decide +kernel))) (by decide +kernel)
theorem ml_X6_123 : Cond.methodLink RX6 123 yX6_setFromData ∈ wsT := wsT_in (tin2 (List.mem_of_getElem? (i := 29) (by decide +kernel))) (by decide +kernel)
theorem im_X6_setFromData : Cond.instanceMethod yX6_setFromData ∈ wsT := wsT_in (tin2 (List.mem_of_getElem? (i := 31) (by decide +kernel))) (by decide +kernel)
theorem cd_X6_setFromData : Cond.code yX6_setFromData cX6_setFromData 5 (some .int) ∈ wsT := wsT_in (tin2 (List.mem_of_getElem? (i := 32) (by decide +kernel))) (by decide +kernel)
theorem ml_X6_131 : Cond.methodLink RX6 131 yX5_sets ∈ wsT := wsT_in (tin2 (List.mem_of_getElem? (i := 33) (by decide +kernel))) (by decide +kernel)
theorem im_X5_sets : Cond.instanceMethod yX5_sets ∈ wsT := wsT_in (tin2 (List.mem_of_getElem? (i := 34) (by decide +kernel))) (by decide +kernel)
theorem sl_X5_sets : Cond.selects RX5 yX5_sets yX5_sets ∈ wsT := wsT_in (tin2 (List.mem_of_getElem? (i := 35) (by decide +kernel))) (by decide +kernel)
theorem cd_X5_sets : Cond.code yX5_sets cX5_sets 1 (some .int) ∈ wsT := wsT_in (tin2 (List.mem_of_getElem? (i := 36) (by decide +kernel))) (by decide +kernel)
theorem ml_X6_306 : Cond.methodLink RX6 306 yX5_valueFromData ∈ wsT := wsT_in (tin2 (List.mem_of_getElem? (i := 37) (by decide +kernel))) (by decide +kernel)
theorem im_X5_valueFromData : Cond.instanceMethod yX5_valueFromData ∈ wsT := wsT_in (tin2 (List.mem_of_getElem? (i := 38) (by decide +kernel))) (by decide +kernel)
theorem sl_X5_valueFromData : Cond.selects RX5 yX5_valueFromData yX5_valueFromData ∈ wsT := wsT_in (tin2 (List.mem_of_getElem? (i := 39) (by decide +kernel))) (by decide +kernel)
theorem cd_X5_valueFromData : Cond.code yX5_valueFromData cX5_valueFromData 3 (some .int) ∈ wsT := wsT_in (tin2 (List.mem_of_getElem? (i := 40) (by decide +kernel))) (by decide +kernel)
theorem ml_X5_75 : Cond.methodLink RX5 75 yX5_loadOut ∈ wsT := wsT_in (tin2 (List.mem_of_getElem? (i := 41) (by decide +kernel))) (by decide +kernel)
theorem im_X5_loadOut : Cond.instanceMethod yX5_loadOut ∈ wsT := wsT_in (tin2 (List.mem_of_getElem? (i := 43) (by decide +kernel))) (by decide +kernel)
theorem cd_X5_loadOut : Cond.code yX5_loadOut cX5_loadOut 5 (some .int) ∈ wsT := wsT_in (tin2 (List.mem_of_getElem? (i := 44) (by decide +kernel))) (by decide +kernel)
theorem sm_X6_holds : Cond.static yX6_holds ∈ wsT := wsT_in (tin2 (List.mem_of_getElem? (i := 46) (by decide +kernel))) (by decide +kernel)
theorem cd_X6_holds : Cond.code yX6_holds cX6_holds 2 (some .boolean) ∈ wsT := wsT_in (tin2 (List.mem_of_getElem? (i := 47) (by decide +kernel))) (by decide +kernel)
theorem ml_X5_79 : Cond.methodLink RX5 79 yX5_worthMet ∈ wsT := wsT_in (tin2 (List.mem_of_getElem? (i := 48) (by decide +kernel))) (by decide +kernel)
theorem im_X5_worthMet : Cond.instanceMethod yX5_worthMet ∈ wsT := wsT_in (tin2 (List.mem_of_getElem? (i := 50) (by decide +kernel))) (by decide +kernel)
theorem cd_X5_worthMet : Cond.code yX5_worthMet cX5_worthMet 4 (some .int) ∈ wsT := wsT_in (tin2 (List.mem_of_getElem? (i := 51) (by decide +kernel))) (by decide +kernel)
theorem ml_X5_82 : Cond.methodLink RX5 82 yX5_cappedSize ∈ wsT := wsT_in (tin2 (List.mem_of_getElem? (i := 52) (by decide +kernel))) (by decide +kernel)
theorem im_X5_cappedSize : Cond.instanceMethod yX5_cappedSize ∈ wsT := wsT_in (tin2 (List.mem_of_getElem? (i := 54) (by decide +kernel))) (by decide +kernel)
theorem cd_X5_cappedSize : Cond.code yX5_cappedSize cX5_cappedSize 4 (some .int) ∈ wsT := wsT_in (tin2 (List.mem_of_getElem? (i := 55) (by decide +kernel))) (by decide +kernel)
theorem ml_X5_92 : Cond.methodLink RX5 92 Lib.Math.min.name ∈ wsT := wsT_in (tin2 (List.mem_of_getElem? (i := 56) (by decide +kernel))) (by decide +kernel)
theorem sm_Lib_Math_min : Cond.static Lib.Math.min.name ∈ wsT := wsT_in (tin2 (List.mem_of_getElem? (i := 57) (by decide +kernel))) (by decide +kernel)
theorem cd_Lib_Math_min : Cond.code Lib.Math.min.name Lib.Math.min.code 2 (some .int) ∈ wsT := wsT_in (tin2 (List.mem_of_getElem? (i := 58) (by decide +kernel))) (by decide +kernel)
theorem ml_X5_85 : Cond.methodLink RX5 85 yX5_totalWeight ∈ wsT := wsT_in (tin2 (List.mem_of_getElem? (i := 59) (by decide +kernel))) (by decide +kernel)
theorem im_X5_totalWeight : Cond.instanceMethod yX5_totalWeight ∈ wsT := wsT_in (tin2 (List.mem_of_getElem? (i := 60) (by decide +kernel))) (by decide +kernel)
theorem sl_X5_totalWeight : Cond.selects RX5 yX5_totalWeight yX5_totalWeight ∈ wsT := wsT_in (tin2 (List.mem_of_getElem? (i := 61) (by decide +kernel))) (by decide +kernel)
theorem cd_X5_totalWeight : Cond.code yX5_totalWeight cX5_totalWeight 4 (some .int) ∈ wsT := wsT_in (tin2 (List.mem_of_getElem? (i := 62) (by decide +kernel))) (by decide +kernel)
theorem ml_X6_286 : Cond.methodLink RX6 286 yX6_settle ∈ wsT := wsT_in (tin2 (List.mem_of_getElem? (i := 63) (by decide +kernel))) (by decide +kernel)
theorem im_X6_settle : Cond.instanceMethod yX6_settle ∈ wsT := wsT_in (tin2 (List.mem_of_getElem? (i := 65) (by decide +kernel))) (by decide +kernel)
theorem cd_X6_settle : Cond.code yX6_settle cX6_settle 4 (none : Option Jvm.ClassFile.FieldType) ∈ wsT := wsT_in (tin2 (List.mem_of_getElem? (i := 66) (by decide +kernel))) (by decide +kernel)
theorem ml_X6_309 : Cond.methodLink RX6 309 arraycopyName ∈ wsT := wsT_in (tin2 (List.mem_of_getElem? (i := 67) (by decide +kernel))) (by decide +kernel)
theorem sm_arraycopyName : Cond.static arraycopyName ∈ wsT := wsT_in (tin2 (List.mem_of_getElem? (i := 68) (by decide +kernel))) (by decide +kernel)
theorem nm_arraycopyName : Cond.native arraycopyName ∈ wsT := wsT_in (tin2 (List.mem_of_getElem? (i := 69) (by decide +kernel))) (by decide +kernel)
theorem ml_L_48 : Cond.methodLink RL 48 yX6_cover ∈ wsT := wsT_in (tin2 (List.mem_of_getElem? (i := 70) (by decide +kernel))) (by decide +kernel)
theorem im_X6_cover : Cond.instanceMethod yX6_cover ∈ wsT := wsT_in (tin2 (List.mem_of_getElem? (i := 71) (by decide +kernel))) (by decide +kernel)
theorem sl_X6_cover : Cond.selects RX6 yX6_cover yX6_cover ∈ wsT := wsT_in (tin2 (List.mem_of_getElem? (i := 72) (by decide +kernel))) (by decide +kernel)
theorem cd_X6_cover : Cond.code yX6_cover cX6_cover 2 (some .int) ∈ wsT := wsT_in (tin2 (List.mem_of_getElem? (i := 73) (by decide +kernel))) (by decide +kernel)
theorem ml_L_52 : Cond.methodLink RL 52 yX6_capped ∈ wsT := wsT_in (tin2 (List.mem_of_getElem? (i := 74) (by decide +kernel))) (by decide +kernel)
theorem im_X6_capped : Cond.instanceMethod yX6_capped ∈ wsT := wsT_in (tin2 (List.mem_of_getElem? (i := 75) (by decide +kernel))) (by decide +kernel)
theorem sl_X6_capped : Cond.selects RX6 yX6_capped yX6_capped ∈ wsT := wsT_in (tin2 (List.mem_of_getElem? (i := 76) (by decide +kernel))) (by decide +kernel)
theorem cd_X6_capped : Cond.code yX6_capped cX6_capped 2 (some .int) ∈ wsT := wsT_in (tin2 (List.mem_of_getElem? (i := 77) (by decide +kernel))) (by decide +kernel)
theorem ml_L_56 : Cond.methodLink RL 56 yX6_weighed ∈ wsT := wsT_in (tin2 (List.mem_of_getElem? (i := 78) (by decide +kernel))) (by decide +kernel)
theorem im_X6_weighed : Cond.instanceMethod yX6_weighed ∈ wsT := wsT_in (tin2 (List.mem_of_getElem? (i := 79) (by decide +kernel))) (by decide +kernel)
theorem sl_X6_weighed : Cond.selects RX6 yX6_weighed yX6_weighed ∈ wsT := wsT_in (tin2 (List.mem_of_getElem? (i := 80) (by decide +kernel))) (by decide +kernel)
theorem cd_X6_weighed : Cond.code yX6_weighed cX6_weighed 2 (some .int) ∈ wsT := wsT_in (tin2 (List.mem_of_getElem? (i := 81) (by decide +kernel))) (by decide +kernel)
theorem ml_L_60 : Cond.methodLink RL 60 yX6_sum ∈ wsT := wsT_in (tin2 (List.mem_of_getElem? (i := 82) (by decide +kernel))) (by decide +kernel)
theorem im_X6_sum : Cond.instanceMethod yX6_sum ∈ wsT := wsT_in (tin2 (List.mem_of_getElem? (i := 83) (by decide +kernel))) (by decide +kernel)
theorem sl_X6_sum : Cond.selects RX6 yX6_sum yX6_sum ∈ wsT := wsT_in (tin2 (List.mem_of_getElem? (i := 84) (by decide +kernel))) (by decide +kernel)
theorem cd_X6_sum : Cond.code yX6_sum cX6_sum 7 (some .int) ∈ wsT := wsT_in (tin2 (List.mem_of_getElem? (i := 85) (by decide +kernel))) (by decide +kernel)
theorem ml_X6_127 : Cond.methodLink RX6 127 yX3_isMissing ∈ wsT := wsT_in (tin2 (List.mem_of_getElem? (i := 86) (by decide +kernel))) (by decide +kernel)
theorem im_X3_isMissing : Cond.instanceMethod yX3_isMissing ∈ wsT := wsT_in (tin2 (List.mem_of_getElem? (i := 87) (by decide +kernel))) (by decide +kernel)
theorem sl_X3_isMissing : Cond.selects RX3 yX3_isMissing yX3_isMissing ∈ wsT := wsT_in (tin2 (List.mem_of_getElem? (i := 88) (by decide +kernel))) (by decide +kernel)
theorem cd_X3_isMissing : Cond.code yX3_isMissing cX3_isMissing 1 (some .boolean) ∈ wsT := wsT_in (tin2 (List.mem_of_getElem? (i := 89) (by decide +kernel))) (by decide +kernel)
theorem ml_X6_134 : Cond.methodLink RX6 134 yX6_settleIfInRange ∈ wsT := wsT_in (tin2 (List.mem_of_getElem? (i := 90) (by decide +kernel))) (by decide +kernel)
theorem im_X6_settleIfInRange : Cond.instanceMethod yX6_settleIfInRange ∈ wsT := wsT_in (tin2 (List.mem_of_getElem? (i := 92) (by decide +kernel))) (by decide +kernel)
theorem cd_X6_settleIfInRange : Cond.code yX6_settleIfInRange cX6_settleIfInRange 2 (some .int) ∈ wsT := wsT_in (tin2 (List.mem_of_getElem? (i := 93) (by decide +kernel))) (by decide +kernel)
theorem ml_X6_282 : Cond.methodLink RX6 282 yX6_allInRange ∈ wsT := wsT_in (tin2 (List.mem_of_getElem? (i := 94) (by decide +kernel))) (by decide +kernel)
theorem sm_X6_allInRange : Cond.static yX6_allInRange ∈ wsT := wsT_in (tin2 (List.mem_of_getElem? (i := 95) (by decide +kernel))) (by decide +kernel)
theorem cd_X6_allInRange : Cond.code yX6_allInRange cX6_allInRange 3 (some .boolean) ∈ wsT := wsT_in (tin2 (List.mem_of_getElem? (i := 96) (by decide +kernel))) (by decide +kernel)
theorem ml_L_64 : Cond.methodLink RL 64 yX6_turn ∈ wsT := wsT_in (tin2 (List.mem_of_getElem? (i := 97) (by decide +kernel))) (by decide +kernel)
theorem im_X6_turn : Cond.instanceMethod yX6_turn ∈ wsT := wsT_in (tin2 (List.mem_of_getElem? (i := 98) (by decide +kernel))) (by decide +kernel)
theorem sl_X6_turn : Cond.selects RX6 yX6_turn yX6_turn ∈ wsT := wsT_in (tin2 (List.mem_of_getElem? (i := 99) (by decide +kernel))) (by decide +kernel)
theorem cd_X6_turn : Cond.code yX6_turn cX6_turn 6 (some .int) ∈ wsT := wsT_in (tin2 (List.mem_of_getElem? (i := 100) (by decide +kernel))) (by decide +kernel)
theorem ml_X6_138 : Cond.methodLink RX6 138 yX6_errorOfPair ∈ wsT := wsT_in (tin2 (List.mem_of_getElem? (i := 101) (by decide +kernel))) (by decide +kernel)
theorem im_X6_errorOfPair : Cond.instanceMethod yX6_errorOfPair ∈ wsT := wsT_in (tin2 (List.mem_of_getElem? (i := 103) (by decide +kernel))) (by decide +kernel)
theorem cd_X6_errorOfPair : Cond.code yX6_errorOfPair cX6_errorOfPair 3 (some .int) ∈ wsT := wsT_in (tin2 (List.mem_of_getElem? (i := 104) (by decide +kernel))) (by decide +kernel)
theorem ml_X6_154 : Cond.methodLink RX6 154 yX6_errorOf ∈ wsT := wsT_in (tin2 (List.mem_of_getElem? (i := 105) (by decide +kernel))) (by decide +kernel)
theorem im_X6_errorOf : Cond.instanceMethod yX6_errorOf ∈ wsT := wsT_in (tin2 (List.mem_of_getElem? (i := 107) (by decide +kernel))) (by decide +kernel)
theorem cd_X6_errorOf : Cond.code yX6_errorOf cX6_errorOf 2 (some .int) ∈ wsT := wsT_in (tin2 (List.mem_of_getElem? (i := 108) (by decide +kernel))) (by decide +kernel)
theorem ml_L_68 : Cond.methodLink RL 68 yX6_cutBack ∈ wsT := wsT_in (tin2 (List.mem_of_getElem? (i := 109) (by decide +kernel))) (by decide +kernel)
theorem im_X6_cutBack : Cond.instanceMethod yX6_cutBack ∈ wsT := wsT_in (tin2 (List.mem_of_getElem? (i := 110) (by decide +kernel))) (by decide +kernel)
theorem sl_X6_cutBack : Cond.selects RX6 yX6_cutBack yX6_cutBack ∈ wsT := wsT_in (tin2 (List.mem_of_getElem? (i := 111) (by decide +kernel))) (by decide +kernel)
theorem cd_X6_cutBack : Cond.code yX6_cutBack cX6_cutBack 6 (some .int) ∈ wsT := wsT_in (tin2 (List.mem_of_getElem? (i := 112) (by decide +kernel))) (by decide +kernel)
theorem ml_X6_142 : Cond.methodLink RX6 142 yX5_totalWeight ∈ wsT := wsT_in (tin2 (List.mem_of_getElem? (i := 113) (by decide +kernel))) (by decide +kernel)
theorem ml_X6_145 : Cond.methodLink RX6 145 yX6_leastOverSubsets ∈ wsT := wsT_in (tin2 (List.mem_of_getElem? (i := 114) (by decide +kernel))) (by decide +kernel)
theorem im_X6_leastOverSubsets : Cond.instanceMethod yX6_leastOverSubsets ∈ wsT := wsT_in (tin2 (List.mem_of_getElem? (i := 116) (by decide +kernel))) (by decide +kernel)
theorem cd_X6_leastOverSubsets : Cond.code yX6_leastOverSubsets cX6_leastOverSubsets 5 (some .int) ∈ wsT := wsT_in (tin2 (List.mem_of_getElem? (i := 117) (by decide +kernel))) (by decide +kernel)
theorem ml_X6_149 : Cond.methodLink RX6 149 Lib.Math.min.name ∈ wsT := wsT_in (tin2 (List.mem_of_getElem? (i := 118) (by decide +kernel))) (by decide +kernel)
theorem ml_L_72 : Cond.methodLink RL 72 yX6_part ∈ wsT := wsT_in (tin2 (List.mem_of_getElem? (i := 119) (by decide +kernel))) (by decide +kernel)
theorem im_X6_part : Cond.instanceMethod yX6_part ∈ wsT := wsT_in (tin2 (List.mem_of_getElem? (i := 120) (by decide +kernel))) (by decide +kernel)
theorem sl_X6_part : Cond.selects RX6 yX6_part yX6_part ∈ wsT := wsT_in (tin2 (List.mem_of_getElem? (i := 121) (by decide +kernel))) (by decide +kernel)
theorem cd_X6_part : Cond.code yX6_part cX6_part 7 (some .int) ∈ wsT := wsT_in (tin2 (List.mem_of_getElem? (i := 122) (by decide +kernel))) (by decide +kernel)
theorem ml_L_77 : Cond.methodLink RL 77 yX6_held ∈ wsT := wsT_in (tin2 (List.mem_of_getElem? (i := 123) (by decide +kernel))) (by decide +kernel)
theorem im_X6_held : Cond.instanceMethod yX6_held ∈ wsT := wsT_in (tin2 (List.mem_of_getElem? (i := 124) (by decide +kernel))) (by decide +kernel)
theorem sl_X6_held : Cond.selects RX6 yX6_held yX6_held ∈ wsT := wsT_in (tin2 (List.mem_of_getElem? (i := 125) (by decide +kernel))) (by decide +kernel)
theorem cd_X6_held : Cond.code yX6_held cX6_held 6 (some .int) ∈ wsT := wsT_in (tin2 (List.mem_of_getElem? (i := 126) (by decide +kernel))) (by decide +kernel)
theorem ml_L_81 : Cond.methodLink RL 81 yX6_clear ∈ wsT := wsT_in (tin2 (List.mem_of_getElem? (i := 127) (by decide +kernel))) (by decide +kernel)
theorem im_X6_clear : Cond.instanceMethod yX6_clear ∈ wsT := wsT_in (tin2 (List.mem_of_getElem? (i := 128) (by decide +kernel))) (by decide +kernel)
theorem sl_X6_clear : Cond.selects RX6 yX6_clear yX6_clear ∈ wsT := wsT_in (tin2 (List.mem_of_getElem? (i := 129) (by decide +kernel))) (by decide +kernel)
theorem cd_X6_clear : Cond.code yX6_clear cX6_clear 4 (some .int) ∈ wsT := wsT_in (tin2 (List.mem_of_getElem? (i := 130) (by decide +kernel))) (by decide +kernel)
theorem ml_X6_157 : Cond.methodLink RX6 157 yX3_vanish ∈ wsT := wsT_in (tin2 (List.mem_of_getElem? (i := 131) (by decide +kernel))) (by decide +kernel)
theorem ml_L_85 : Cond.methodLink RL 85 yX6_of ∈ wsT := wsT_in (tin2 (List.mem_of_getElem? (i := 132) (by decide +kernel))) (by decide +kernel)
theorem im_X6_of : Cond.instanceMethod yX6_of ∈ wsT := wsT_in (tin2 (List.mem_of_getElem? (i := 133) (by decide +kernel))) (by decide +kernel)
theorem sl_X6_of : Cond.selects RX6 yX6_of yX6_of ∈ wsT := wsT_in (tin2 (List.mem_of_getElem? (i := 134) (by decide +kernel))) (by decide +kernel)
theorem cd_X6_of : Cond.code yX6_of cX6_of 4 (some .int) ∈ wsT := wsT_in (tin2 (List.mem_of_getElem? (i := 135) (by decide +kernel))) (by decide +kernel)
theorem ml_X6_160 : Cond.methodLink RX6 160 yX3_firstFailure ∈ wsT := wsT_in (tin2 (List.mem_of_getElem? (i := 136) (by decide +kernel))) (by decide +kernel)
theorem im_X3_firstFailure : Cond.instanceMethod yX3_firstFailure ∈ wsT := wsT_in (tin2 (List.mem_of_getElem? (i := 137) (by decide +kernel))) (by decide +kernel)
theorem sl_X3_firstFailure : Cond.selects RX3 yX3_firstFailure yX3_firstFailure ∈ wsT := wsT_in (tin2 (List.mem_of_getElem? (i := 138) (by decide +kernel))) (by decide +kernel)
theorem cd_X3_firstFailure : Cond.code yX3_firstFailure cX3_firstFailure 5 (some .int) ∈ wsT := wsT_in (tin2 (List.mem_of_getElem? (i := 139) (by decide +kernel))) (by decide +kernel)
theorem ml_X3_31 : Cond.methodLink RX3 31 yX3_gainGrows ∈ wsT := wsT_in (tin2 (List.mem_of_getElem? (i := 140) (by decide +kernel))) (by decide +kernel)
theorem im_X3_gainGrows : Cond.instanceMethod yX3_gainGrows ∈ wsT := wsT_in (tin2 (List.mem_of_getElem? (i := 142) (by decide +kernel))) (by decide +kernel)
theorem cd_X3_gainGrows : Cond.code yX3_gainGrows cX3_gainGrows 4 (some .boolean) ∈ wsT := wsT_in (tin2 (List.mem_of_getElem? (i := 143) (by decide +kernel))) (by decide +kernel)
theorem ml_X3_39 : Cond.methodLink RX3 39 yX3_gainAt ∈ wsT := wsT_in (tin2 (List.mem_of_getElem? (i := 145) (by decide +kernel))) (by decide +kernel)
theorem im_X3_gainAt : Cond.instanceMethod yX3_gainAt ∈ wsT := wsT_in (tin2 (List.mem_of_getElem? (i := 146) (by decide +kernel))) (by decide +kernel)
theorem sl_X3_gainAt : Cond.selects RX3 yX3_gainAt yX3_gainAt ∈ wsT := wsT_in (tin2 (List.mem_of_getElem? (i := 147) (by decide +kernel))) (by decide +kernel)
theorem cd_X3_gainAt : Cond.code yX3_gainAt cX3_gainAt 3 (some .int) ∈ wsT := wsT_in (tin2 (List.mem_of_getElem? (i := 148) (by decide +kernel))) (by decide +kernel)
theorem ml_X6_163 : Cond.methodLink RX6 163 yX6_oneIf ∈ wsT := wsT_in (tin2 (List.mem_of_getElem? (i := 149) (by decide +kernel))) (by decide +kernel)
theorem sm_X6_oneIf : Cond.static yX6_oneIf ∈ wsT := wsT_in (tin2 (List.mem_of_getElem? (i := 150) (by decide +kernel))) (by decide +kernel)
theorem cd_X6_oneIf : Cond.code yX6_oneIf cX6_oneIf 1 (some .int) ∈ wsT := wsT_in (tin2 (List.mem_of_getElem? (i := 151) (by decide +kernel))) (by decide +kernel)
theorem ml_X6_167 : Cond.methodLink RX6 167 yX3_isIncreasing ∈ wsT := wsT_in (tin2 (List.mem_of_getElem? (i := 152) (by decide +kernel))) (by decide +kernel)
theorem im_X3_isIncreasing : Cond.instanceMethod yX3_isIncreasing ∈ wsT := wsT_in (tin2 (List.mem_of_getElem? (i := 153) (by decide +kernel))) (by decide +kernel)
theorem sl_X3_isIncreasing : Cond.selects RX3 yX3_isIncreasing yX3_isIncreasing ∈ wsT := wsT_in (tin2 (List.mem_of_getElem? (i := 154) (by decide +kernel))) (by decide +kernel)
theorem cd_X3_isIncreasing : Cond.code yX3_isIncreasing cX3_isIncreasing 4 (some .boolean) ∈ wsT := wsT_in (tin2 (List.mem_of_getElem? (i := 155) (by decide +kernel))) (by decide +kernel)
theorem ml_X6_170 : Cond.methodLink RX6 170 yX3_isSymmetric ∈ wsT := wsT_in (tin2 (List.mem_of_getElem? (i := 156) (by decide +kernel))) (by decide +kernel)
theorem im_X3_isSymmetric : Cond.instanceMethod yX3_isSymmetric ∈ wsT := wsT_in (tin2 (List.mem_of_getElem? (i := 157) (by decide +kernel))) (by decide +kernel)
theorem sl_X3_isSymmetric : Cond.selects RX3 yX3_isSymmetric yX3_isSymmetric ∈ wsT := wsT_in (tin2 (List.mem_of_getElem? (i := 158) (by decide +kernel))) (by decide +kernel)
theorem cd_X3_isSymmetric : Cond.code yX3_isSymmetric cX3_isSymmetric 4 (some .boolean) ∈ wsT := wsT_in (tin2 (List.mem_of_getElem? (i := 159) (by decide +kernel))) (by decide +kernel)
theorem ml_X6_173 : Cond.methodLink RX6 173 yX3_isModular ∈ wsT := wsT_in (tin2 (List.mem_of_getElem? (i := 160) (by decide +kernel))) (by decide +kernel)
theorem im_X3_isModular : Cond.instanceMethod yX3_isModular ∈ wsT := wsT_in (tin2 (List.mem_of_getElem? (i := 161) (by decide +kernel))) (by decide +kernel)
theorem sl_X3_isModular : Cond.selects RX3 yX3_isModular yX3_isModular ∈ wsT := wsT_in (tin2 (List.mem_of_getElem? (i := 162) (by decide +kernel))) (by decide +kernel)
theorem cd_X3_isModular : Cond.code yX3_isModular cX3_isModular 4 (some .boolean) ∈ wsT := wsT_in (tin2 (List.mem_of_getElem? (i := 163) (by decide +kernel))) (by decide +kernel)
theorem ml_L_89 : Cond.methodLink RL 89 yX6_taken ∈ wsT := wsT_in (tin2 (List.mem_of_getElem? (i := 164) (by decide +kernel))) (by decide +kernel)
theorem im_X6_taken : Cond.instanceMethod yX6_taken ∈ wsT := wsT_in (tin2 (List.mem_of_getElem? (i := 165) (by decide +kernel))) (by decide +kernel)
theorem sl_X6_taken : Cond.selects RX6 yX6_taken yX6_taken ∈ wsT := wsT_in (tin2 (List.mem_of_getElem? (i := 166) (by decide +kernel))) (by decide +kernel)
theorem cd_X6_taken : Cond.code yX6_taken cX6_taken 4 (some .int) ∈ wsT := wsT_in (tin2 (List.mem_of_getElem? (i := 167) (by decide +kernel))) (by decide +kernel)
theorem ml_X6_176 : Cond.methodLink RX6 176 yX6_isSubkind ∈ wsT := wsT_in (tin2 (List.mem_of_getElem? (i := 168) (by decide +kernel))) (by decide +kernel)
theorem sm_X6_isSubkind : Cond.static yX6_isSubkind ∈ wsT := wsT_in (tin2 (List.mem_of_getElem? (i := 169) (by decide +kernel))) (by decide +kernel)
theorem cd_X6_isSubkind : Cond.code yX6_isSubkind cX6_isSubkind 4 (some .boolean) ∈ wsT := wsT_in (tin2 (List.mem_of_getElem? (i := 170) (by decide +kernel))) (by decide +kernel)
theorem fl_X6_303 : Cond.fieldLink RX6 303 RX6 "ABOVE" "[I" ∈ wsT := wsT_in (tin2 (List.mem_of_getElem? (i := 171) (by decide +kernel))) (by decide +kernel)
theorem ml_L_93 : Cond.methodLink RL 93 yX6_value ∈ wsT := wsT_in (tin2 (List.mem_of_getElem? (i := 173) (by decide +kernel))) (by decide +kernel)
theorem im_X6_value : Cond.instanceMethod yX6_value ∈ wsT := wsT_in (tin2 (List.mem_of_getElem? (i := 174) (by decide +kernel))) (by decide +kernel)
theorem sl_X6_value : Cond.selects RX6 yX6_value yX6_value ∈ wsT := wsT_in (tin2 (List.mem_of_getElem? (i := 175) (by decide +kernel))) (by decide +kernel)
theorem cd_X6_value : Cond.code yX6_value cX6_value 3 (some .int) ∈ wsT := wsT_in (tin2 (List.mem_of_getElem? (i := 176) (by decide +kernel))) (by decide +kernel)
theorem cn_X6_180 : Cond.constant RX6 180 (-1000011) ∈ wsT := wsT_in (tin2 (List.mem_of_getElem? (i := 177) (by decide +kernel))) (by decide +kernel)
theorem ml_L_97 : Cond.methodLink RL 97 yX6_gain ∈ wsT := wsT_in (tin2 (List.mem_of_getElem? (i := 178) (by decide +kernel))) (by decide +kernel)
theorem im_X6_gain : Cond.instanceMethod yX6_gain ∈ wsT := wsT_in (tin2 (List.mem_of_getElem? (i := 179) (by decide +kernel))) (by decide +kernel)
theorem sl_X6_gain : Cond.selects RX6 yX6_gain yX6_gain ∈ wsT := wsT_in (tin2 (List.mem_of_getElem? (i := 180) (by decide +kernel))) (by decide +kernel)
theorem cd_X6_gain : Cond.code yX6_gain cX6_gain 4 (some .long) ∈ wsT := wsT_in (tin2 (List.mem_of_getElem? (i := 181) (by decide +kernel))) (by decide +kernel)
theorem ml_X6_181 : Cond.methodLink RX6 181 yX6_holds ∈ wsT := wsT_in (tin2 (List.mem_of_getElem? (i := 182) (by decide +kernel))) (by decide +kernel)
theorem cl_X6_184 : Cond.constantLong RX6 184 (-9223372036854775808) ∈ wsT := wsT_in (tin2 (List.mem_of_getElem? (i := 183) (by decide +kernel))) (by decide +kernel)
theorem ml_X6_186 : Cond.methodLink RX6 186 yX3_gainAt ∈ wsT := wsT_in (tin2 (List.mem_of_getElem? (i := 184) (by decide +kernel))) (by decide +kernel)
theorem ml_L_102 : Cond.methodLink RL 102 yX6_fails ∈ wsT := wsT_in (tin2 (List.mem_of_getElem? (i := 185) (by decide +kernel))) (by decide +kernel)
theorem im_X6_fails : Cond.instanceMethod yX6_fails ∈ wsT := wsT_in (tin2 (List.mem_of_getElem? (i := 186) (by decide +kernel))) (by decide +kernel)
theorem sl_X6_fails : Cond.selects RX6 yX6_fails yX6_fails ∈ wsT := wsT_in (tin2 (List.mem_of_getElem? (i := 187) (by decide +kernel))) (by decide +kernel)
theorem cd_X6_fails : Cond.code yX6_fails cX6_fails 4 (some .int) ∈ wsT := wsT_in (tin2 (List.mem_of_getElem? (i := 188) (by decide +kernel))) (by decide +kernel)
theorem ml_X6_189 : Cond.methodLink RX6 189 yX3_setOfFailure ∈ wsT := wsT_in (tin2 (List.mem_of_getElem? (i := 189) (by decide +kernel))) (by decide +kernel)
theorem sm_X3_setOfFailure : Cond.static yX3_setOfFailure ∈ wsT := wsT_in (tin2 (List.mem_of_getElem? (i := 190) (by decide +kernel))) (by decide +kernel)
theorem cd_X3_setOfFailure : Cond.code yX3_setOfFailure cX3_setOfFailure 1 (some .int) ∈ wsT := wsT_in (tin2 (List.mem_of_getElem? (i := 191) (by decide +kernel))) (by decide +kernel)
theorem ml_X6_192 : Cond.methodLink RX6 192 yX3_firstPointOfFailure ∈ wsT := wsT_in (tin2 (List.mem_of_getElem? (i := 192) (by decide +kernel))) (by decide +kernel)
theorem sm_X3_firstPointOfFailure : Cond.static yX3_firstPointOfFailure ∈ wsT := wsT_in (tin2 (List.mem_of_getElem? (i := 193) (by decide +kernel))) (by decide +kernel)
theorem cd_X3_firstPointOfFailure : Cond.code yX3_firstPointOfFailure cX3_firstPointOfFailure 1 (some .int) ∈ wsT := wsT_in (tin2 (List.mem_of_getElem? (i := 194) (by decide +kernel))) (by decide +kernel)
theorem ml_X6_195 : Cond.methodLink RX6 195 yX3_secondPointOfFailure ∈ wsT := wsT_in (tin2 (List.mem_of_getElem? (i := 195) (by decide +kernel))) (by decide +kernel)
theorem sm_X3_secondPointOfFailure : Cond.static yX3_secondPointOfFailure ∈ wsT := wsT_in (tin2 (List.mem_of_getElem? (i := 196) (by decide +kernel))) (by decide +kernel)
theorem cd_X3_secondPointOfFailure : Cond.code yX3_secondPointOfFailure cX3_secondPointOfFailure 1 (some .int) ∈ wsT := wsT_in (tin2 (List.mem_of_getElem? (i := 197) (by decide +kernel))) (by decide +kernel)
theorem ml_L_106 : Cond.methodLink RL 106 yX6_base ∈ wsT := wsT_in (tin2 (List.mem_of_getElem? (i := 198) (by decide +kernel))) (by decide +kernel)
theorem im_X6_base : Cond.instanceMethod yX6_base ∈ wsT := wsT_in (tin2 (List.mem_of_getElem? (i := 199) (by decide +kernel))) (by decide +kernel)
theorem sl_X6_base : Cond.selects RX6 yX6_base yX6_base ∈ wsT := wsT_in (tin2 (List.mem_of_getElem? (i := 200) (by decide +kernel))) (by decide +kernel)
theorem cd_X6_base : Cond.code yX6_base cX6_base 6 (some .long) ∈ wsT := wsT_in (tin2 (List.mem_of_getElem? (i := 201) (by decide +kernel))) (by decide +kernel)
theorem ml_X6_198 : Cond.methodLink RX6 198 yX6_isOrder ∈ wsT := wsT_in (tin2 (List.mem_of_getElem? (i := 202) (by decide +kernel))) (by decide +kernel)
theorem im_X6_isOrder : Cond.instanceMethod yX6_isOrder ∈ wsT := wsT_in (tin2 (List.mem_of_getElem? (i := 204) (by decide +kernel))) (by decide +kernel)
theorem cd_X6_isOrder : Cond.code yX6_isOrder cX6_isOrder 2 (some .boolean) ∈ wsT := wsT_in (tin2 (List.mem_of_getElem? (i := 205) (by decide +kernel))) (by decide +kernel)
theorem ml_X6_315 : Cond.methodLink RX6 315 yX6_factorial ∈ wsT := wsT_in (tin2 (List.mem_of_getElem? (i := 206) (by decide +kernel))) (by decide +kernel)
theorem sm_X6_factorial : Cond.static yX6_factorial ∈ wsT := wsT_in (tin2 (List.mem_of_getElem? (i := 207) (by decide +kernel))) (by decide +kernel)
theorem cd_X6_factorial : Cond.code yX6_factorial cX6_factorial 3 (some .int) ∈ wsT := wsT_in (tin2 (List.mem_of_getElem? (i := 208) (by decide +kernel))) (by decide +kernel)
theorem ml_X6_201 : Cond.methodLink RX6 201 yX6_unrank ∈ wsT := wsT_in (tin2 (List.mem_of_getElem? (i := 209) (by decide +kernel))) (by decide +kernel)
theorem im_X6_unrank : Cond.instanceMethod yX6_unrank ∈ wsT := wsT_in (tin2 (List.mem_of_getElem? (i := 211) (by decide +kernel))) (by decide +kernel)
theorem cd_X6_unrank : Cond.code yX6_unrank cX6_unrank 8 (none : Option Jvm.ClassFile.FieldType) ∈ wsT := wsT_in (tin2 (List.mem_of_getElem? (i := 212) (by decide +kernel))) (by decide +kernel)
theorem ml_L_110 : Cond.methodLink RL 110 yX6_negative ∈ wsT := wsT_in (tin2 (List.mem_of_getElem? (i := 213) (by decide +kernel))) (by decide +kernel)
theorem im_X6_negative : Cond.instanceMethod yX6_negative ∈ wsT := wsT_in (tin2 (List.mem_of_getElem? (i := 214) (by decide +kernel))) (by decide +kernel)
theorem sl_X6_negative : Cond.selects RX6 yX6_negative yX6_negative ∈ wsT := wsT_in (tin2 (List.mem_of_getElem? (i := 215) (by decide +kernel))) (by decide +kernel)
theorem cd_X6_negative : Cond.code yX6_negative cX6_negative 7 (some .long) ∈ wsT := wsT_in (tin2 (List.mem_of_getElem? (i := 216) (by decide +kernel))) (by decide +kernel)
theorem ml_L_115 : Cond.methodLink RL 115 yX6_based ∈ wsT := wsT_in (tin2 (List.mem_of_getElem? (i := 217) (by decide +kernel))) (by decide +kernel)
theorem im_X6_based : Cond.instanceMethod yX6_based ∈ wsT := wsT_in (tin2 (List.mem_of_getElem? (i := 218) (by decide +kernel))) (by decide +kernel)
theorem sl_X6_based : Cond.selects RX6 yX6_based yX6_based ∈ wsT := wsT_in (tin2 (List.mem_of_getElem? (i := 219) (by decide +kernel))) (by decide +kernel)
theorem cd_X6_based : Cond.code yX6_based cX6_based 11 (some .int) ∈ wsT := wsT_in (tin2 (List.mem_of_getElem? (i := 220) (by decide +kernel))) (by decide +kernel)
theorem ml_X6_204 : Cond.methodLink RX6 204 yX6_errorOfChoice ∈ wsT := wsT_in (tin2 (List.mem_of_getElem? (i := 221) (by decide +kernel))) (by decide +kernel)
theorem im_X6_errorOfChoice : Cond.instanceMethod yX6_errorOfChoice ∈ wsT := wsT_in (tin2 (List.mem_of_getElem? (i := 223) (by decide +kernel))) (by decide +kernel)
theorem cd_X6_errorOfChoice : Cond.code yX6_errorOfChoice cX6_errorOfChoice 3 (some .int) ∈ wsT := wsT_in (tin2 (List.mem_of_getElem? (i := 224) (by decide +kernel))) (by decide +kernel)
theorem ml_L_119 : Cond.methodLink RL 119 yX6_least ∈ wsT := wsT_in (tin2 (List.mem_of_getElem? (i := 225) (by decide +kernel))) (by decide +kernel)
theorem im_X6_least : Cond.instanceMethod yX6_least ∈ wsT := wsT_in (tin2 (List.mem_of_getElem? (i := 226) (by decide +kernel))) (by decide +kernel)
theorem sl_X6_least : Cond.selects RX6 yX6_least yX6_least ∈ wsT := wsT_in (tin2 (List.mem_of_getElem? (i := 227) (by decide +kernel))) (by decide +kernel)
theorem cd_X6_least : Cond.code yX6_least cX6_least 2 (some .long) ∈ wsT := wsT_in (tin2 (List.mem_of_getElem? (i := 228) (by decide +kernel))) (by decide +kernel)
theorem ml_X6_207 : Cond.methodLink RX6 207 yX3_leastValue ∈ wsT := wsT_in (tin2 (List.mem_of_getElem? (i := 229) (by decide +kernel))) (by decide +kernel)
theorem im_X3_leastValue : Cond.instanceMethod yX3_leastValue ∈ wsT := wsT_in (tin2 (List.mem_of_getElem? (i := 230) (by decide +kernel))) (by decide +kernel)
theorem sl_X3_leastValue : Cond.selects RX3 yX3_leastValue yX3_leastValue ∈ wsT := wsT_in (tin2 (List.mem_of_getElem? (i := 231) (by decide +kernel))) (by decide +kernel)
theorem cd_X3_leastValue : Cond.code yX3_leastValue cX3_leastValue 4 (some .int) ∈ wsT := wsT_in (tin2 (List.mem_of_getElem? (i := 232) (by decide +kernel))) (by decide +kernel)
theorem ml_X3_43 : Cond.methodLink RX3 43 Lib.Math.min.name ∈ wsT := wsT_in (tin2 (List.mem_of_getElem? (i := 233) (by decide +kernel))) (by decide +kernel)
theorem ml_L_124 : Cond.methodLink RL 124 yX6_leastSets ∈ wsT := wsT_in (tin2 (List.mem_of_getElem? (i := 234) (by decide +kernel))) (by decide +kernel)
theorem im_X6_leastSets : Cond.instanceMethod yX6_leastSets ∈ wsT := wsT_in (tin2 (List.mem_of_getElem? (i := 235) (by decide +kernel))) (by decide +kernel)
theorem sl_X6_leastSets : Cond.selects RX6 yX6_leastSets yX6_leastSets ∈ wsT := wsT_in (tin2 (List.mem_of_getElem? (i := 236) (by decide +kernel))) (by decide +kernel)
theorem cd_X6_leastSets : Cond.code yX6_leastSets cX6_leastSets 10 (some .int) ∈ wsT := wsT_in (tin2 (List.mem_of_getElem? (i := 237) (by decide +kernel))) (by decide +kernel)
theorem ml_X6_210 : Cond.methodLink RX6 210 yX3_minimisersAreClosed ∈ wsT := wsT_in (tin2 (List.mem_of_getElem? (i := 238) (by decide +kernel))) (by decide +kernel)
theorem im_X3_minimisersAreClosed : Cond.instanceMethod yX3_minimisersAreClosed ∈ wsT := wsT_in (tin2 (List.mem_of_getElem? (i := 239) (by decide +kernel))) (by decide +kernel)
theorem sl_X3_minimisersAreClosed : Cond.selects RX3 yX3_minimisersAreClosed yX3_minimisersAreClosed ∈ wsT := wsT_in (tin3 (List.mem_of_getElem? (i := 0) (by decide +kernel))) (by decide +kernel)
theorem cd_X3_minimisersAreClosed : Cond.code yX3_minimisersAreClosed cX3_minimisersAreClosed 5 (some .boolean) ∈ wsT := wsT_in (tin3 (List.mem_of_getElem? (i := 1) (by decide +kernel))) (by decide +kernel)
theorem ml_X3_48 : Cond.methodLink RX3 48 yX3_leastValue ∈ wsT := wsT_in (tin3 (List.mem_of_getElem? (i := 2) (by decide +kernel))) (by decide +kernel)
theorem ml_L_128 : Cond.methodLink RL 128 yX6_ring ∈ wsT := wsT_in (tin3 (List.mem_of_getElem? (i := 3) (by decide +kernel))) (by decide +kernel)
theorem im_X6_ring : Cond.instanceMethod yX6_ring ∈ wsT := wsT_in (tin3 (List.mem_of_getElem? (i := 4) (by decide +kernel))) (by decide +kernel)
theorem sl_X6_ring : Cond.selects RX6 yX6_ring yX6_ring ∈ wsT := wsT_in (tin3 (List.mem_of_getElem? (i := 5) (by decide +kernel))) (by decide +kernel)
theorem cd_X6_ring : Cond.code yX6_ring cX6_ring 8 (some .int) ∈ wsT := wsT_in (tin3 (List.mem_of_getElem? (i := 6) (by decide +kernel))) (by decide +kernel)
theorem ml_L_132 : Cond.methodLink RL 132 yX6_level ∈ wsT := wsT_in (tin3 (List.mem_of_getElem? (i := 7) (by decide +kernel))) (by decide +kernel)
theorem im_X6_level : Cond.instanceMethod yX6_level ∈ wsT := wsT_in (tin3 (List.mem_of_getElem? (i := 8) (by decide +kernel))) (by decide +kernel)
theorem sl_X6_level : Cond.selects RX6 yX6_level yX6_level ∈ wsT := wsT_in (tin3 (List.mem_of_getElem? (i := 9) (by decide +kernel))) (by decide +kernel)
theorem cd_X6_level : Cond.code yX6_level cX6_level 3 (some .int) ∈ wsT := wsT_in (tin3 (List.mem_of_getElem? (i := 10) (by decide +kernel))) (by decide +kernel)
theorem ml_X6_213 : Cond.methodLink RX6 213 yX2_follow ∈ wsT := wsT_in (tin3 (List.mem_of_getElem? (i := 11) (by decide +kernel))) (by decide +kernel)
theorem im_X2_follow : Cond.instanceMethod yX2_follow ∈ wsT := wsT_in (tin3 (List.mem_of_getElem? (i := 12) (by decide +kernel))) (by decide +kernel)
theorem sl_X2_follow : Cond.selects RX2 yX2_follow yX2_follow ∈ wsT := wsT_in (tin3 (List.mem_of_getElem? (i := 13) (by decide +kernel))) (by decide +kernel)
theorem cd_X2_follow : Cond.code yX2_follow cX2_follow 7 (none : Option Jvm.ClassFile.FieldType) ∈ wsT := wsT_in (tin3 (List.mem_of_getElem? (i := 14) (by decide +kernel))) (by decide +kernel)
theorem ml_X2_25 : Cond.methodLink RX2 25 yX2_nextMember ∈ wsT := wsT_in (tin3 (List.mem_of_getElem? (i := 15) (by decide +kernel))) (by decide +kernel)
theorem sm_X2_nextMember : Cond.static yX2_nextMember ∈ wsT := wsT_in (tin3 (List.mem_of_getElem? (i := 16) (by decide +kernel))) (by decide +kernel)
theorem cd_X2_nextMember : Cond.code yX2_nextMember cX2_nextMember 5 (some .int) ∈ wsT := wsT_in (tin3 (List.mem_of_getElem? (i := 17) (by decide +kernel))) (by decide +kernel)
theorem ml_X2_35 : Cond.methodLink RX2 35 yX2_isBetter ∈ wsT := wsT_in (tin3 (List.mem_of_getElem? (i := 18) (by decide +kernel))) (by decide +kernel)
theorem sm_X2_isBetter : Cond.static yX2_isBetter ∈ wsT := wsT_in (tin3 (List.mem_of_getElem? (i := 19) (by decide +kernel))) (by decide +kernel)
theorem cd_X2_isBetter : Cond.code yX2_isBetter cX2_isBetter 8 (some .boolean) ∈ wsT := wsT_in (tin3 (List.mem_of_getElem? (i := 20) (by decide +kernel))) (by decide +kernel)
theorem ml_X2_29 : Cond.methodLink RX2 29 yJ6_bitCount_0f7a4 ∈ wsT := wsT_in (tin3 (List.mem_of_getElem? (i := 21) (by decide +kernel))) (by decide +kernel)
theorem sm_J6_bitCount_0f7a4 : Cond.static yJ6_bitCount_0f7a4 ∈ wsT := wsT_in (tin3 (List.mem_of_getElem? (i := 22) (by decide +kernel))) (by decide +kernel)
theorem cd_J6_bitCount_0f7a4 : Cond.code yJ6_bitCount_0f7a4 cJ6_bitCount_0f7a4 1 (some .int) ∈ wsT := wsT_in (tin3 (List.mem_of_getElem? (i := 23) (by decide +kernel))) (by decide +kernel)
theorem cn_J6_265 : Cond.constant RJ6 265 (1431655765) ∈ wsT := wsT_in (tin3 (List.mem_of_getElem? (i := 24) (by decide +kernel))) (by decide +kernel)
theorem cn_J6_266 : Cond.constant RJ6 266 (858993459) ∈ wsT := wsT_in (tin3 (List.mem_of_getElem? (i := 25) (by decide +kernel))) (by decide +kernel)
theorem cn_J6_267 : Cond.constant RJ6 267 (252645135) ∈ wsT := wsT_in (tin3 (List.mem_of_getElem? (i := 26) (by decide +kernel))) (by decide +kernel)
theorem ml_L_136 : Cond.methodLink RL 136 yX6_height ∈ wsT := wsT_in (tin3 (List.mem_of_getElem? (i := 27) (by decide +kernel))) (by decide +kernel)
theorem im_X6_height : Cond.instanceMethod yX6_height ∈ wsT := wsT_in (tin3 (List.mem_of_getElem? (i := 28) (by decide +kernel))) (by decide +kernel)
theorem sl_X6_height : Cond.selects RX6 yX6_height yX6_height ∈ wsT := wsT_in (tin3 (List.mem_of_getElem? (i := 29) (by decide +kernel))) (by decide +kernel)
theorem cd_X6_height : Cond.code yX6_height cX6_height 6 (some .long) ∈ wsT := wsT_in (tin3 (List.mem_of_getElem? (i := 30) (by decide +kernel))) (by decide +kernel)
theorem ml_X6_222 : Cond.methodLink RX6 222 yX2_commonDivisor ∈ wsT := wsT_in (tin3 (List.mem_of_getElem? (i := 31) (by decide +kernel))) (by decide +kernel)
theorem im_X2_commonDivisor : Cond.instanceMethod yX2_commonDivisor ∈ wsT := wsT_in (tin3 (List.mem_of_getElem? (i := 32) (by decide +kernel))) (by decide +kernel)
theorem sl_X2_commonDivisor : Cond.selects RX2 yX2_commonDivisor yX2_commonDivisor ∈ wsT := wsT_in (tin3 (List.mem_of_getElem? (i := 33) (by decide +kernel))) (by decide +kernel)
theorem cd_X2_commonDivisor : Cond.code yX2_commonDivisor cX2_commonDivisor 3 (some .int) ∈ wsT := wsT_in (tin3 (List.mem_of_getElem? (i := 34) (by decide +kernel))) (by decide +kernel)
theorem ml_L_140 : Cond.methodLink RL 140 yX6_wall ∈ wsT := wsT_in (tin3 (List.mem_of_getElem? (i := 35) (by decide +kernel))) (by decide +kernel)
theorem im_X6_wall : Cond.instanceMethod yX6_wall ∈ wsT := wsT_in (tin3 (List.mem_of_getElem? (i := 36) (by decide +kernel))) (by decide +kernel)
theorem sl_X6_wall : Cond.selects RX6 yX6_wall yX6_wall ∈ wsT := wsT_in (tin3 (List.mem_of_getElem? (i := 37) (by decide +kernel))) (by decide +kernel)
theorem cd_X6_wall : Cond.code yX6_wall cX6_wall 4 (some .int) ∈ wsT := wsT_in (tin3 (List.mem_of_getElem? (i := 38) (by decide +kernel))) (by decide +kernel)
theorem ml_X6_231 : Cond.methodLink RX6 231 yX3_leastApart ∈ wsT := wsT_in (tin3 (List.mem_of_getElem? (i := 39) (by decide +kernel))) (by decide +kernel)
theorem im_X3_leastApart : Cond.instanceMethod yX3_leastApart ∈ wsT := wsT_in (tin3 (List.mem_of_getElem? (i := 40) (by decide +kernel))) (by decide +kernel)
theorem sl_X3_leastApart : Cond.selects RX3 yX3_leastApart yX3_leastApart ∈ wsT := wsT_in (tin3 (List.mem_of_getElem? (i := 41) (by decide +kernel))) (by decide +kernel)
theorem cd_X3_leastApart : Cond.code yX3_leastApart cX3_leastApart 6 (some .int) ∈ wsT := wsT_in (tin3 (List.mem_of_getElem? (i := 42) (by decide +kernel))) (by decide +kernel)
theorem ml_X3_52 : Cond.methodLink RX3 52 yX3_isSmallerCut ∈ wsT := wsT_in (tin3 (List.mem_of_getElem? (i := 43) (by decide +kernel))) (by decide +kernel)
theorem im_X3_isSmallerCut : Cond.instanceMethod yX3_isSmallerCut ∈ wsT := wsT_in (tin3 (List.mem_of_getElem? (i := 45) (by decide +kernel))) (by decide +kernel)
theorem cd_X3_isSmallerCut : Cond.code yX3_isSmallerCut cX3_isSmallerCut 3 (some .boolean) ∈ wsT := wsT_in (tin3 (List.mem_of_getElem? (i := 46) (by decide +kernel))) (by decide +kernel)
theorem ml_X3_55 : Cond.methodLink RX3 55 yJ6_bitCount_0f7a4 ∈ wsT := wsT_in (tin3 (List.mem_of_getElem? (i := 47) (by decide +kernel))) (by decide +kernel)
theorem ml_L_144 : Cond.methodLink RL 144 yX6_wallValue ∈ wsT := wsT_in (tin3 (List.mem_of_getElem? (i := 48) (by decide +kernel))) (by decide +kernel)
theorem im_X6_wallValue : Cond.instanceMethod yX6_wallValue ∈ wsT := wsT_in (tin3 (List.mem_of_getElem? (i := 49) (by decide +kernel))) (by decide +kernel)
theorem sl_X6_wallValue : Cond.selects RX6 yX6_wallValue yX6_wallValue ∈ wsT := wsT_in (tin3 (List.mem_of_getElem? (i := 50) (by decide +kernel))) (by decide +kernel)
theorem cd_X6_wallValue : Cond.code yX6_wallValue cX6_wallValue 4 (some .long) ∈ wsT := wsT_in (tin3 (List.mem_of_getElem? (i := 51) (by decide +kernel))) (by decide +kernel)
theorem ml_L_148 : Cond.methodLink RL 148 yX6_most ∈ wsT := wsT_in (tin3 (List.mem_of_getElem? (i := 52) (by decide +kernel))) (by decide +kernel)
theorem im_X6_most : Cond.instanceMethod yX6_most ∈ wsT := wsT_in (tin3 (List.mem_of_getElem? (i := 53) (by decide +kernel))) (by decide +kernel)
theorem sl_X6_most : Cond.selects RX6 yX6_most yX6_most ∈ wsT := wsT_in (tin3 (List.mem_of_getElem? (i := 54) (by decide +kernel))) (by decide +kernel)
theorem cd_X6_most : Cond.code yX6_most cX6_most 5 (some .int) ∈ wsT := wsT_in (tin3 (List.mem_of_getElem? (i := 55) (by decide +kernel))) (by decide +kernel)
theorem ml_X6_234 : Cond.methodLink RX6 234 yX3_greedyChoice ∈ wsT := wsT_in (tin3 (List.mem_of_getElem? (i := 56) (by decide +kernel))) (by decide +kernel)
theorem im_X3_greedyChoice : Cond.instanceMethod yX3_greedyChoice ∈ wsT := wsT_in (tin3 (List.mem_of_getElem? (i := 57) (by decide +kernel))) (by decide +kernel)
theorem sl_X3_greedyChoice : Cond.selects RX3 yX3_greedyChoice yX3_greedyChoice ∈ wsT := wsT_in (tin3 (List.mem_of_getElem? (i := 58) (by decide +kernel))) (by decide +kernel)
theorem cd_X3_greedyChoice : Cond.code yX3_greedyChoice cX3_greedyChoice 7 (some .int) ∈ wsT := wsT_in (tin3 (List.mem_of_getElem? (i := 59) (by decide +kernel))) (by decide +kernel)
theorem ml_X6_237 : Cond.methodLink RX6 237 yX3_bestChoice ∈ wsT := wsT_in (tin3 (List.mem_of_getElem? (i := 60) (by decide +kernel))) (by decide +kernel)
theorem im_X3_bestChoice : Cond.instanceMethod yX3_bestChoice ∈ wsT := wsT_in (tin3 (List.mem_of_getElem? (i := 61) (by decide +kernel))) (by decide +kernel)
theorem sl_X3_bestChoice : Cond.selects RX3 yX3_bestChoice yX3_bestChoice ∈ wsT := wsT_in (tin3 (List.mem_of_getElem? (i := 62) (by decide +kernel))) (by decide +kernel)
theorem cd_X3_bestChoice : Cond.code yX3_bestChoice cX3_bestChoice 5 (some .int) ∈ wsT := wsT_in (tin3 (List.mem_of_getElem? (i := 63) (by decide +kernel))) (by decide +kernel)
theorem ml_L_152 : Cond.methodLink RL 152 yX6_feed ∈ wsT := wsT_in (tin3 (List.mem_of_getElem? (i := 64) (by decide +kernel))) (by decide +kernel)
theorem im_X6_feed : Cond.instanceMethod yX6_feed ∈ wsT := wsT_in (tin3 (List.mem_of_getElem? (i := 65) (by decide +kernel))) (by decide +kernel)
theorem sl_X6_feed : Cond.selects RX6 yX6_feed yX6_feed ∈ wsT := wsT_in (tin3 (List.mem_of_getElem? (i := 66) (by decide +kernel))) (by decide +kernel)
theorem cd_X6_feed : Cond.code yX6_feed cX6_feed 2 (some .int) ∈ wsT := wsT_in (tin3 (List.mem_of_getElem? (i := 67) (by decide +kernel))) (by decide +kernel)
theorem ml_X6_240 : Cond.methodLink RX6 240 yX4_isFull ∈ wsT := wsT_in (tin3 (List.mem_of_getElem? (i := 68) (by decide +kernel))) (by decide +kernel)
theorem im_X4_isFull : Cond.instanceMethod yX4_isFull ∈ wsT := wsT_in (tin3 (List.mem_of_getElem? (i := 69) (by decide +kernel))) (by decide +kernel)
theorem sl_X4_isFull : Cond.selects RX4 yX4_isFull yX4_isFull ∈ wsT := wsT_in (tin3 (List.mem_of_getElem? (i := 70) (by decide +kernel))) (by decide +kernel)
theorem cd_X4_isFull : Cond.code yX4_isFull cX4_isFull 1 (some .boolean) ∈ wsT := wsT_in (tin3 (List.mem_of_getElem? (i := 71) (by decide +kernel))) (by decide +kernel)
theorem ml_X6_243 : Cond.methodLink RX6 243 yX4_append ∈ wsT := wsT_in (tin3 (List.mem_of_getElem? (i := 72) (by decide +kernel))) (by decide +kernel)
theorem im_X4_append : Cond.instanceMethod yX4_append ∈ wsT := wsT_in (tin3 (List.mem_of_getElem? (i := 73) (by decide +kernel))) (by decide +kernel)
theorem sl_X4_append : Cond.selects RX4 yX4_append yX4_append ∈ wsT := wsT_in (tin3 (List.mem_of_getElem? (i := 74) (by decide +kernel))) (by decide +kernel)
theorem cd_X4_append : Cond.code yX4_append cX4_append 2 (none : Option Jvm.ClassFile.FieldType) ∈ wsT := wsT_in (tin3 (List.mem_of_getElem? (i := 75) (by decide +kernel))) (by decide +kernel)
theorem ml_X4_24 : Cond.methodLink RX4 24 yX4_isFull ∈ wsT := wsT_in (tin3 (List.mem_of_getElem? (i := 76) (by decide +kernel))) (by decide +kernel)
theorem ml_L_156 : Cond.methodLink RL 156 yX6_deeds ∈ wsT := wsT_in (tin3 (List.mem_of_getElem? (i := 77) (by decide +kernel))) (by decide +kernel)
theorem im_X6_deeds : Cond.instanceMethod yX6_deeds ∈ wsT := wsT_in (tin3 (List.mem_of_getElem? (i := 78) (by decide +kernel))) (by decide +kernel)
theorem sl_X6_deeds : Cond.selects RX6 yX6_deeds yX6_deeds ∈ wsT := wsT_in (tin3 (List.mem_of_getElem? (i := 79) (by decide +kernel))) (by decide +kernel)
theorem cd_X6_deeds : Cond.code yX6_deeds cX6_deeds 4 (some .int) ∈ wsT := wsT_in (tin3 (List.mem_of_getElem? (i := 80) (by decide +kernel))) (by decide +kernel)
theorem ml_X6_249 : Cond.methodLink RX6 249 yX4_parse ∈ wsT := wsT_in (tin3 (List.mem_of_getElem? (i := 81) (by decide +kernel))) (by decide +kernel)
theorem im_X4_parse : Cond.instanceMethod yX4_parse ∈ wsT := wsT_in (tin3 (List.mem_of_getElem? (i := 82) (by decide +kernel))) (by decide +kernel)
theorem sl_X4_parse : Cond.selects RX4 yX4_parse yX4_parse ∈ wsT := wsT_in (tin3 (List.mem_of_getElem? (i := 83) (by decide +kernel))) (by decide +kernel)
theorem cd_X4_parse : Cond.code yX4_parse cX4_parse 1 (some .int) ∈ wsT := wsT_in (tin3 (List.mem_of_getElem? (i := 84) (by decide +kernel))) (by decide +kernel)
theorem ml_X4_34 : Cond.methodLink RX4 34 yX4_readCommand ∈ wsT := wsT_in (tin3 (List.mem_of_getElem? (i := 85) (by decide +kernel))) (by decide +kernel)
theorem im_X4_readCommand : Cond.instanceMethod yX4_readCommand ∈ wsT := wsT_in (tin3 (List.mem_of_getElem? (i := 87) (by decide +kernel))) (by decide +kernel)
theorem cd_X4_readCommand : Cond.code yX4_readCommand cX4_readCommand 5 (some .boolean) ∈ wsT := wsT_in (tin3 (List.mem_of_getElem? (i := 88) (by decide +kernel))) (by decide +kernel)
theorem ml_X4_38 : Cond.methodLink RX4 38 yX4_endOfWord ∈ wsT := wsT_in (tin3 (List.mem_of_getElem? (i := 89) (by decide +kernel))) (by decide +kernel)
theorem im_X4_endOfWord : Cond.instanceMethod yX4_endOfWord ∈ wsT := wsT_in (tin3 (List.mem_of_getElem? (i := 91) (by decide +kernel))) (by decide +kernel)
theorem cd_X4_endOfWord : Cond.code yX4_endOfWord cX4_endOfWord 3 (some .int) ∈ wsT := wsT_in (tin3 (List.mem_of_getElem? (i := 92) (by decide +kernel))) (by decide +kernel)
theorem ml_X4_42 : Cond.methodLink RX4 42 yX4_findWord ∈ wsT := wsT_in (tin3 (List.mem_of_getElem? (i := 93) (by decide +kernel))) (by decide +kernel)
theorem im_X4_findWord : Cond.instanceMethod yX4_findWord ∈ wsT := wsT_in (tin3 (List.mem_of_getElem? (i := 95) (by decide +kernel))) (by decide +kernel)
theorem cd_X4_findWord : Cond.code yX4_findWord cX4_findWord 4 (some .int) ∈ wsT := wsT_in (tin3 (List.mem_of_getElem? (i := 96) (by decide +kernel))) (by decide +kernel)
theorem ml_X4_59 : Cond.methodLink RX4 59 yX4_spelling ∈ wsT := wsT_in (tin3 (List.mem_of_getElem? (i := 97) (by decide +kernel))) (by decide +kernel)
theorem sm_X4_spelling : Cond.static yX4_spelling ∈ wsT := wsT_in (tin3 (List.mem_of_getElem? (i := 98) (by decide +kernel))) (by decide +kernel)
theorem cd_X4_spelling : Cond.code yX4_spelling cX4_spelling 1 (some (.object "java/lang/String" )) ∈ wsT := wsT_in (tin3 (List.mem_of_getElem? (i := 99) (by decide +kernel))) (by decide +kernel)
theorem ml_X4_63 : Cond.methodLink RX4 63 yX4_isSame ∈ wsT := wsT_in (tin3 (List.mem_of_getElem? (i := 111) (by decide +kernel))) (by decide +kernel)
theorem im_X4_isSame : Cond.instanceMethod yX4_isSame ∈ wsT := wsT_in (tin3 (List.mem_of_getElem? (i := 113) (by decide +kernel))) (by decide +kernel)
theorem cd_X4_isSame : Cond.code yX4_isSame cX4_isSame 5 (some .boolean) ∈ wsT := wsT_in (tin3 (List.mem_of_getElem? (i := 114) (by decide +kernel))) (by decide +kernel)
theorem ml_X4_67 : Cond.methodLink RX4 67 yJ0_length_8abf5 ∈ wsT := wsT_in (tin3 (List.mem_of_getElem? (i := 115) (by decide +kernel))) (by decide +kernel)
theorem im_J0_length_8abf5 : Cond.instanceMethod yJ0_length_8abf5 ∈ wsT := wsT_in (tin3 (List.mem_of_getElem? (i := 116) (by decide +kernel))) (by decide +kernel)
theorem sl_J0_length_8abf5 : Cond.selects RJ0 yJ0_length_8abf5 yJ0_length_8abf5 ∈ wsT := wsT_in (tin3 (List.mem_of_getElem? (i := 117) (by decide +kernel))) (by decide +kernel)
theorem cd_J0_length_8abf5 : Cond.code yJ0_length_8abf5 cJ0_length_8abf5 1 (some .int) ∈ wsT := wsT_in (tin3 (List.mem_of_getElem? (i := 118) (by decide +kernel))) (by decide +kernel)
theorem ml_J0_335 : Cond.methodLink RJ0 335 yJ0_coder_7d493 ∈ wsT := wsT_in (tin3 (List.mem_of_getElem? (i := 119) (by decide +kernel))) (by decide +kernel)
theorem im_J0_coder_7d493 : Cond.instanceMethod yJ0_coder_7d493 ∈ wsT := wsT_in (tin3 (List.mem_of_getElem? (i := 120) (by decide +kernel))) (by decide +kernel)
theorem sl_J0_coder_7d493 : Cond.selects RJ0 yJ0_coder_7d493 yJ0_coder_7d493 ∈ wsT := wsT_in (tin3 (List.mem_of_getElem? (i := 121) (by decide +kernel))) (by decide +kernel)
theorem cd_J0_coder_7d493 : Cond.code yJ0_coder_7d493 cJ0_coder_7d493 1 (some .byte) ∈ wsT := wsT_in (tin3 (List.mem_of_getElem? (i := 122) (by decide +kernel))) (by decide +kernel)
theorem fl_J0_38 : Cond.fieldLink RJ0 38 RJ0 "COMPACT_STRINGS" "Z" ∈ wsT := wsT_in (tin3 (List.mem_of_getElem? (i := 123) (by decide +kernel))) (by decide +kernel)
theorem ml_X4_72 : Cond.methodLink RX4 72 yJ0_charAt_5068e ∈ wsT := wsT_in (tin3 (List.mem_of_getElem? (i := 125) (by decide +kernel))) (by decide +kernel)
theorem im_J0_charAt_5068e : Cond.instanceMethod yJ0_charAt_5068e ∈ wsT := wsT_in (tin3 (List.mem_of_getElem? (i := 126) (by decide +kernel))) (by decide +kernel)
theorem sl_J0_charAt_5068e : Cond.selects RJ0 yJ0_charAt_5068e yJ0_charAt_5068e ∈ wsT := wsT_in (tin3 (List.mem_of_getElem? (i := 127) (by decide +kernel))) (by decide +kernel)
theorem cd_J0_charAt_5068e : Cond.code yJ0_charAt_5068e cJ0_charAt_5068e 2 (some .char) ∈ wsT := wsT_in (tin3 (List.mem_of_getElem? (i := 128) (by decide +kernel))) (by decide +kernel)
theorem ml_J0_492 : Cond.methodLink RJ0 492 yJ0_isLatin1_aae02 ∈ wsT := wsT_in (tin3 (List.mem_of_getElem? (i := 129) (by decide +kernel))) (by decide +kernel)
theorem im_J0_isLatin1_aae02 : Cond.instanceMethod yJ0_isLatin1_aae02 ∈ wsT := wsT_in (tin3 (List.mem_of_getElem? (i := 130) (by decide +kernel))) (by decide +kernel)
theorem sl_J0_isLatin1_aae02 : Cond.selects RJ0 yJ0_isLatin1_aae02 yJ0_isLatin1_aae02 ∈ wsT := wsT_in (tin3 (List.mem_of_getElem? (i := 131) (by decide +kernel))) (by decide +kernel)
theorem cd_J0_isLatin1_aae02 : Cond.code yJ0_isLatin1_aae02 cJ0_isLatin1_aae02 1 (some .boolean) ∈ wsT := wsT_in (tin3 (List.mem_of_getElem? (i := 132) (by decide +kernel))) (by decide +kernel)
theorem ml_J0_495 : Cond.methodLink RJ0 495 yJ1_charAt_3b067 ∈ wsT := wsT_in (tin3 (List.mem_of_getElem? (i := 133) (by decide +kernel))) (by decide +kernel)
theorem sm_J1_charAt_3b067 : Cond.static yJ1_charAt_3b067 ∈ wsT := wsT_in (tin3 (List.mem_of_getElem? (i := 134) (by decide +kernel))) (by decide +kernel)
theorem cd_J1_charAt_3b067 : Cond.code yJ1_charAt_3b067 cJ1_charAt_3b067 2 (some .char) ∈ wsT := wsT_in (tin3 (List.mem_of_getElem? (i := 135) (by decide +kernel))) (by decide +kernel)
theorem ml_J1_9 : Cond.methodLink RJ1 9 yJ0_checkIndex_df160 ∈ wsT := wsT_in (tin3 (List.mem_of_getElem? (i := 136) (by decide +kernel))) (by decide +kernel)
theorem sm_J0_checkIndex_df160 : Cond.static yJ0_checkIndex_df160 ∈ wsT := wsT_in (tin3 (List.mem_of_getElem? (i := 137) (by decide +kernel))) (by decide +kernel)
theorem cd_J0_checkIndex_df160 : Cond.code yJ0_checkIndex_df160 cJ0_checkIndex_df160 2 (none : Option Jvm.ClassFile.FieldType) ∈ wsT := wsT_in (tin3 (List.mem_of_getElem? (i := 138) (by decide +kernel))) (by decide +kernel)
theorem fl_J0_1053 : Cond.fieldLink RJ0 1053 RJ3 "SIOOBE_FORMATTER" "Ljava/util/function/BiFunction;" ∈ wsT := wsT_in (tin3 (List.mem_of_getElem? (i := 139) (by decide +kernel))) (by decide +kernel)
theorem ml_J0_1059 : Cond.methodLink RJ0 1059 yJ3_checkIndex_8e157 ∈ wsT := wsT_in (tin3 (List.mem_of_getElem? (i := 141) (by decide +kernel))) (by decide +kernel)
theorem sm_J3_checkIndex_8e157 : Cond.static yJ3_checkIndex_8e157 ∈ wsT := wsT_in (tin3 (List.mem_of_getElem? (i := 142) (by decide +kernel))) (by decide +kernel)
theorem cd_J3_checkIndex_8e157 : Cond.code yJ3_checkIndex_8e157 cJ3_checkIndex_8e157 3 (some .int) ∈ wsT := wsT_in (tin3 (List.mem_of_getElem? (i := 143) (by decide +kernel))) (by decide +kernel)
theorem ml_J0_498 : Cond.methodLink RJ0 498 yJ2_charAt_3b067 ∈ wsT := wsT_in (tin3 (List.mem_of_getElem? (i := 144) (by decide +kernel))) (by decide +kernel)
theorem sm_J2_charAt_3b067 : Cond.static yJ2_charAt_3b067 ∈ wsT := wsT_in (tin3 (List.mem_of_getElem? (i := 145) (by decide +kernel))) (by decide +kernel)
theorem cd_J2_charAt_3b067 : Cond.code yJ2_charAt_3b067 cJ2_charAt_3b067 2 (some .char) ∈ wsT := wsT_in (tin3 (List.mem_of_getElem? (i := 146) (by decide +kernel))) (by decide +kernel)
theorem ml_J2_67 : Cond.methodLink RJ2 67 yJ2_checkIndex_2214a ∈ wsT := wsT_in (tin3 (List.mem_of_getElem? (i := 147) (by decide +kernel))) (by decide +kernel)
theorem sm_J2_checkIndex_2214a : Cond.static yJ2_checkIndex_2214a ∈ wsT := wsT_in (tin3 (List.mem_of_getElem? (i := 148) (by decide +kernel))) (by decide +kernel)
theorem cd_J2_checkIndex_2214a : Cond.code yJ2_checkIndex_2214a cJ2_checkIndex_2214a 2 (none : Option Jvm.ClassFile.FieldType) ∈ wsT := wsT_in (tin3 (List.mem_of_getElem? (i := 149) (by decide +kernel))) (by decide +kernel)
theorem ml_J2_48 : Cond.methodLink RJ2 48 yJ2_length_9d52b ∈ wsT := wsT_in (tin3 (List.mem_of_getElem? (i := 150) (by decide +kernel))) (by decide +kernel)
theorem sm_J2_length_9d52b : Cond.static yJ2_length_9d52b ∈ wsT := wsT_in (tin3 (List.mem_of_getElem? (i := 151) (by decide +kernel))) (by decide +kernel)
theorem cd_J2_length_9d52b : Cond.code yJ2_length_9d52b cJ2_length_9d52b 1 (some .int) ∈ wsT := wsT_in (tin3 (List.mem_of_getElem? (i := 152) (by decide +kernel))) (by decide +kernel)
theorem ml_J2_414 : Cond.methodLink RJ2 414 yJ0_checkIndex_df160 ∈ wsT := wsT_in (tin3 (List.mem_of_getElem? (i := 153) (by decide +kernel))) (by decide +kernel)
theorem ml_J2_71 : Cond.methodLink RJ2 71 yJ2_getChar_3b067 ∈ wsT := wsT_in (tin3 (List.mem_of_getElem? (i := 154) (by decide +kernel))) (by decide +kernel)
theorem sm_J2_getChar_3b067 : Cond.static yJ2_getChar_3b067 ∈ wsT := wsT_in (tin3 (List.mem_of_getElem? (i := 155) (by decide +kernel))) (by decide +kernel)
theorem cd_J2_getChar_3b067 : Cond.code yJ2_getChar_3b067 cJ2_getChar_3b067 2 (some .char) ∈ wsT := wsT_in (tin3 (List.mem_of_getElem? (i := 156) (by decide +kernel))) (by decide +kernel)
theorem fl_J2_44 : Cond.fieldLink RJ2 44 RJ2 "$assertionsDisabled" "Z" ∈ wsT := wsT_in (tin3 (List.mem_of_getElem? (i := 157) (by decide +kernel))) (by decide +kernel)
theorem fl_J2_59 : Cond.fieldLink RJ2 59 RJ2 "HI_BYTE_SHIFT" "I" ∈ wsT := wsT_in (tin3 (List.mem_of_getElem? (i := 159) (by decide +kernel))) (by decide +kernel)
theorem fl_J2_63 : Cond.fieldLink RJ2 63 RJ2 "LO_BYTE_SHIFT" "I" ∈ wsT := wsT_in (tin3 (List.mem_of_getElem? (i := 161) (by decide +kernel))) (by decide +kernel)
theorem fl_X4_46 : Cond.fieldLink RX4 46 RX4 "NUMBERS" "[I" ∈ wsT := wsT_in (tin3 (List.mem_of_getElem? (i := 163) (by decide +kernel))) (by decide +kernel)
theorem ml_X4_49 : Cond.methodLink RX4 49 yX4_readNumber ∈ wsT := wsT_in (tin3 (List.mem_of_getElem? (i := 165) (by decide +kernel))) (by decide +kernel)
theorem im_X4_readNumber : Cond.instanceMethod yX4_readNumber ∈ wsT := wsT_in (tin3 (List.mem_of_getElem? (i := 167) (by decide +kernel))) (by decide +kernel)
theorem cd_X4_readNumber : Cond.code yX4_readNumber cX4_readNumber 5 (some .boolean) ∈ wsT := wsT_in (tin3 (List.mem_of_getElem? (i := 168) (by decide +kernel))) (by decide +kernel)
theorem ml_X4_52 : Cond.methodLink RX4 52 yX4_isNext ∈ wsT := wsT_in (tin3 (List.mem_of_getElem? (i := 169) (by decide +kernel))) (by decide +kernel)
theorem im_X4_isNext : Cond.instanceMethod yX4_isNext ∈ wsT := wsT_in (tin3 (List.mem_of_getElem? (i := 171) (by decide +kernel))) (by decide +kernel)
theorem cd_X4_isNext : Cond.code yX4_isNext cX4_isNext 2 (some .boolean) ∈ wsT := wsT_in (tin3 (List.mem_of_getElem? (i := 172) (by decide +kernel))) (by decide +kernel)
theorem ml_X4_56 : Cond.methodLink RX4 56 yX4_isDigitNext ∈ wsT := wsT_in (tin3 (List.mem_of_getElem? (i := 173) (by decide +kernel))) (by decide +kernel)
theorem im_X4_isDigitNext : Cond.instanceMethod yX4_isDigitNext ∈ wsT := wsT_in (tin3 (List.mem_of_getElem? (i := 175) (by decide +kernel))) (by decide +kernel)
theorem cd_X4_isDigitNext : Cond.code yX4_isDigitNext cX4_isDigitNext 1 (some .boolean) ∈ wsT := wsT_in (tin3 (List.mem_of_getElem? (i := 176) (by decide +kernel))) (by decide +kernel)
theorem ml_X6_255 : Cond.methodLink RX6 255 yX6_obey ∈ wsT := wsT_in (tin3 (List.mem_of_getElem? (i := 177) (by decide +kernel))) (by decide +kernel)
theorem im_X6_obey : Cond.instanceMethod yX6_obey ∈ wsT := wsT_in (tin3 (List.mem_of_getElem? (i := 179) (by decide +kernel))) (by decide +kernel)
theorem cd_X6_obey : Cond.code yX6_obey cX6_obey 5 (some .boolean) ∈ wsT := wsT_in (tin3 (List.mem_of_getElem? (i := 180) (by decide +kernel))) (by decide +kernel)
theorem ml_X6_318 : Cond.methodLink RX6 318 yX4_number ∈ wsT := wsT_in (tin3 (List.mem_of_getElem? (i := 181) (by decide +kernel))) (by decide +kernel)
theorem im_X4_number : Cond.instanceMethod yX4_number ∈ wsT := wsT_in (tin3 (List.mem_of_getElem? (i := 182) (by decide +kernel))) (by decide +kernel)
theorem sl_X4_number : Cond.selects RX4 yX4_number yX4_number ∈ wsT := wsT_in (tin3 (List.mem_of_getElem? (i := 183) (by decide +kernel))) (by decide +kernel)
theorem cd_X4_number : Cond.code yX4_number cX4_number 3 (some .int) ∈ wsT := wsT_in (tin3 (List.mem_of_getElem? (i := 184) (by decide +kernel))) (by decide +kernel)
theorem ml_X6_324 : Cond.methodLink RX6 324 yX6_arc ∈ wsT := wsT_in (tin3 (List.mem_of_getElem? (i := 185) (by decide +kernel))) (by decide +kernel)
theorem ml_X6_327 : Cond.methodLink RX6 327 yX6_item ∈ wsT := wsT_in (tin3 (List.mem_of_getElem? (i := 186) (by decide +kernel))) (by decide +kernel)
theorem ml_X6_330 : Cond.methodLink RX6 330 yX6_block ∈ wsT := wsT_in (tin3 (List.mem_of_getElem? (i := 187) (by decide +kernel))) (by decide +kernel)
theorem ml_X6_333 : Cond.methodLink RX6 333 yX6_cap ∈ wsT := wsT_in (tin3 (List.mem_of_getElem? (i := 188) (by decide +kernel))) (by decide +kernel)
theorem ml_X6_336 : Cond.methodLink RX6 336 yX6_weight ∈ wsT := wsT_in (tin3 (List.mem_of_getElem? (i := 189) (by decide +kernel))) (by decide +kernel)
theorem ml_X6_339 : Cond.methodLink RX6 339 yX6_cut ∈ wsT := wsT_in (tin3 (List.mem_of_getElem? (i := 190) (by decide +kernel))) (by decide +kernel)
theorem ml_X6_342 : Cond.methodLink RX6 342 yX6_cover ∈ wsT := wsT_in (tin3 (List.mem_of_getElem? (i := 191) (by decide +kernel))) (by decide +kernel)
theorem ml_X6_345 : Cond.methodLink RX6 345 yX6_capped ∈ wsT := wsT_in (tin3 (List.mem_of_getElem? (i := 192) (by decide +kernel))) (by decide +kernel)
theorem ml_X6_348 : Cond.methodLink RX6 348 yX6_weighed ∈ wsT := wsT_in (tin3 (List.mem_of_getElem? (i := 193) (by decide +kernel))) (by decide +kernel)
theorem ml_X6_351 : Cond.methodLink RX6 351 yX6_sum ∈ wsT := wsT_in (tin3 (List.mem_of_getElem? (i := 194) (by decide +kernel))) (by decide +kernel)
theorem ml_X6_354 : Cond.methodLink RX6 354 yX6_turn ∈ wsT := wsT_in (tin3 (List.mem_of_getElem? (i := 195) (by decide +kernel))) (by decide +kernel)
theorem ml_L_161 : Cond.methodLink RL 161 yX6_write ∈ wsT := wsT_in (tin3 (List.mem_of_getElem? (i := 196) (by decide +kernel))) (by decide +kernel)
theorem im_X6_write : Cond.instanceMethod yX6_write ∈ wsT := wsT_in (tin3 (List.mem_of_getElem? (i := 197) (by decide +kernel))) (by decide +kernel)
theorem sl_X6_write : Cond.selects RX6 yX6_write yX6_write ∈ wsT := wsT_in (tin3 (List.mem_of_getElem? (i := 198) (by decide +kernel))) (by decide +kernel)
theorem cd_X6_write : Cond.code yX6_write cX6_write 4 (some .int) ∈ wsT := wsT_in (tin3 (List.mem_of_getElem? (i := 199) (by decide +kernel))) (by decide +kernel)
theorem ml_X6_259 : Cond.methodLink RX6 259 yX1_append ∈ wsT := wsT_in (tin3 (List.mem_of_getElem? (i := 200) (by decide +kernel))) (by decide +kernel)
theorem im_X1_append : Cond.instanceMethod yX1_append ∈ wsT := wsT_in (tin3 (List.mem_of_getElem? (i := 201) (by decide +kernel))) (by decide +kernel)
theorem sl_X1_append : Cond.selects RX1 yX1_append yX1_append ∈ wsT := wsT_in (tin3 (List.mem_of_getElem? (i := 202) (by decide +kernel))) (by decide +kernel)
theorem cd_X1_append : Cond.code yX1_append cX1_append 2 (none : Option Jvm.ClassFile.FieldType) ∈ wsT := wsT_in (tin3 (List.mem_of_getElem? (i := 203) (by decide +kernel))) (by decide +kernel)
theorem ml_X6_262 : Cond.methodLink RX6 262 yX1_appendNumber ∈ wsT := wsT_in (tin3 (List.mem_of_getElem? (i := 204) (by decide +kernel))) (by decide +kernel)
theorem im_X1_appendNumber : Cond.instanceMethod yX1_appendNumber ∈ wsT := wsT_in (tin3 (List.mem_of_getElem? (i := 205) (by decide +kernel))) (by decide +kernel)
theorem sl_X1_appendNumber : Cond.selects RX1 yX1_appendNumber yX1_appendNumber ∈ wsT := wsT_in (tin3 (List.mem_of_getElem? (i := 206) (by decide +kernel))) (by decide +kernel)
theorem cd_X1_appendNumber : Cond.code yX1_appendNumber cX1_appendNumber 6 (none : Option Jvm.ClassFile.FieldType) ∈ wsT := wsT_in (tin3 (List.mem_of_getElem? (i := 207) (by decide +kernel))) (by decide +kernel)
theorem ml_X1_17 : Cond.methodLink RX1 17 yX1_append ∈ wsT := wsT_in (tin3 (List.mem_of_getElem? (i := 208) (by decide +kernel))) (by decide +kernel)
theorem ml_X1_21 : Cond.methodLink RX1 21 Lib.Math.abs.name ∈ wsT := wsT_in (tin3 (List.mem_of_getElem? (i := 209) (by decide +kernel))) (by decide +kernel)
theorem sm_Lib_Math_abs : Cond.static Lib.Math.abs.name ∈ wsT := wsT_in (tin3 (List.mem_of_getElem? (i := 210) (by decide +kernel))) (by decide +kernel)
theorem cd_Lib_Math_abs : Cond.code Lib.Math.abs.name Lib.Math.abs.code 1 (some .int) ∈ wsT := wsT_in (tin3 (List.mem_of_getElem? (i := 211) (by decide +kernel))) (by decide +kernel)
theorem cn_X1_27 : Cond.constant RX1 27 (100000) ∈ wsT := wsT_in (tin3 (List.mem_of_getElem? (i := 212) (by decide +kernel))) (by decide +kernel)
theorem ml_L_165 : Cond.methodLink RL 165 yX6_paper ∈ wsT := wsT_in (tin3 (List.mem_of_getElem? (i := 213) (by decide +kernel))) (by decide +kernel)
theorem im_X6_paper : Cond.instanceMethod yX6_paper ∈ wsT := wsT_in (tin3 (List.mem_of_getElem? (i := 214) (by decide +kernel))) (by decide +kernel)
theorem sl_X6_paper : Cond.selects RX6 yX6_paper yX6_paper ∈ wsT := wsT_in (tin3 (List.mem_of_getElem? (i := 215) (by decide +kernel))) (by decide +kernel)
theorem cd_X6_paper : Cond.code yX6_paper cX6_paper 2 (some .int) ∈ wsT := wsT_in (tin3 (List.mem_of_getElem? (i := 216) (by decide +kernel))) (by decide +kernel)
theorem ml_L_169 : Cond.methodLink RL 169 yX6_list ∈ wsT := wsT_in (tin3 (List.mem_of_getElem? (i := 217) (by decide +kernel))) (by decide +kernel)
theorem im_X6_list : Cond.instanceMethod yX6_list ∈ wsT := wsT_in (tin3 (List.mem_of_getElem? (i := 218) (by decide +kernel))) (by decide +kernel)
theorem sl_X6_list : Cond.selects RX6 yX6_list yX6_list ∈ wsT := wsT_in (tin3 (List.mem_of_getElem? (i := 219) (by decide +kernel))) (by decide +kernel)
theorem cd_X6_list : Cond.code yX6_list cX6_list 3 (some .int) ∈ wsT := wsT_in (tin3 (List.mem_of_getElem? (i := 220) (by decide +kernel))) (by decide +kernel)
theorem ml_X6_269 : Cond.methodLink RX6 269 yX6_isList ∈ wsT := wsT_in (tin3 (List.mem_of_getElem? (i := 221) (by decide +kernel))) (by decide +kernel)
theorem sm_X6_isList : Cond.static yX6_isList ∈ wsT := wsT_in (tin3 (List.mem_of_getElem? (i := 222) (by decide +kernel))) (by decide +kernel)
theorem cd_X6_isList : Cond.code yX6_isList cX6_isList 1 (some .boolean) ∈ wsT := wsT_in (tin3 (List.mem_of_getElem? (i := 223) (by decide +kernel))) (by decide +kernel)
theorem ml_X6_275 : Cond.methodLink RX6 275 yJ7_fill_53178 ∈ wsT := wsT_in (tin3 (List.mem_of_getElem? (i := 224) (by decide +kernel))) (by decide +kernel)
theorem ml_L_173 : Cond.methodLink RL 173 yX6_put ∈ wsT := wsT_in (tin3 (List.mem_of_getElem? (i := 225) (by decide +kernel))) (by decide +kernel)
theorem im_X6_put : Cond.instanceMethod yX6_put ∈ wsT := wsT_in (tin3 (List.mem_of_getElem? (i := 226) (by decide +kernel))) (by decide +kernel)
theorem sl_X6_put : Cond.selects RX6 yX6_put yX6_put ∈ wsT := wsT_in (tin3 (List.mem_of_getElem? (i := 227) (by decide +kernel))) (by decide +kernel)
theorem cd_X6_put : Cond.code yX6_put cX6_put 4 (some .int) ∈ wsT := wsT_in (tin3 (List.mem_of_getElem? (i := 228) (by decide +kernel))) (by decide +kernel)
theorem ml_X6_281 : Cond.methodLink RX6 281 yX0_isMissing ∈ wsT := wsT_in (tin3 (List.mem_of_getElem? (i := 229) (by decide +kernel))) (by decide +kernel)
theorem im_X0_isMissing : Cond.instanceMethod yX0_isMissing ∈ wsT := wsT_in (tin3 (List.mem_of_getElem? (i := 230) (by decide +kernel))) (by decide +kernel)
theorem sl_X0_isMissing : Cond.selects RX0 yX0_isMissing yX0_isMissing ∈ wsT := wsT_in (tin3 (List.mem_of_getElem? (i := 231) (by decide +kernel))) (by decide +kernel)
theorem cd_X0_isMissing : Cond.code yX0_isMissing cX0_isMissing 1 (some .boolean) ∈ wsT := wsT_in (tin3 (List.mem_of_getElem? (i := 232) (by decide +kernel))) (by decide +kernel)
theorem ml_L_177 : Cond.methodLink RL 177 yX6_get ∈ wsT := wsT_in (tin3 (List.mem_of_getElem? (i := 233) (by decide +kernel))) (by decide +kernel)
theorem im_X6_get : Cond.instanceMethod yX6_get ∈ wsT := wsT_in (tin3 (List.mem_of_getElem? (i := 234) (by decide +kernel))) (by decide +kernel)
theorem sl_X6_get : Cond.selects RX6 yX6_get yX6_get ∈ wsT := wsT_in (tin3 (List.mem_of_getElem? (i := 235) (by decide +kernel))) (by decide +kernel)
theorem cd_X6_get : Cond.code yX6_get cX6_get 3 (some .long) ∈ wsT := wsT_in (tin3 (List.mem_of_getElem? (i := 236) (by decide +kernel))) (by decide +kernel)
theorem ml_L_181 : Cond.methodLink RL 181 yX6_lay ∈ wsT := wsT_in (tin3 (List.mem_of_getElem? (i := 237) (by decide +kernel))) (by decide +kernel)
theorem im_X6_lay : Cond.instanceMethod yX6_lay ∈ wsT := wsT_in (tin3 (List.mem_of_getElem? (i := 238) (by decide +kernel))) (by decide +kernel)
theorem sl_X6_lay : Cond.selects RX6 yX6_lay yX6_lay ∈ wsT := wsT_in (tin3 (List.mem_of_getElem? (i := 239) (by decide +kernel))) (by decide +kernel)
theorem cd_X6_lay : Cond.code yX6_lay cX6_lay 5 (some .int) ∈ wsT := wsT_in (tin4 (List.mem_of_getElem? (i := 0) (by decide +kernel))) (by decide +kernel)
theorem ml_L_185 : Cond.methodLink RL 185 yX6_judge ∈ wsT := wsT_in (tin4 (List.mem_of_getElem? (i := 1) (by decide +kernel))) (by decide +kernel)
theorem im_X6_judge : Cond.instanceMethod yX6_judge ∈ wsT := wsT_in (tin4 (List.mem_of_getElem? (i := 2) (by decide +kernel))) (by decide +kernel)
theorem sl_X6_judge : Cond.selects RX6 yX6_judge yX6_judge ∈ wsT := wsT_in (tin4 (List.mem_of_getElem? (i := 3) (by decide +kernel))) (by decide +kernel)
theorem cd_X6_judge : Cond.code yX6_judge cX6_judge 5 (some .int) ∈ wsT := wsT_in (tin4 (List.mem_of_getElem? (i := 4) (by decide +kernel))) (by decide +kernel)
theorem ml_L_189 : Cond.methodLink RL 189 yX6_image ∈ wsT := wsT_in (tin4 (List.mem_of_getElem? (i := 5) (by decide +kernel))) (by decide +kernel)
theorem im_X6_image : Cond.instanceMethod yX6_image ∈ wsT := wsT_in (tin4 (List.mem_of_getElem? (i := 6) (by decide +kernel))) (by decide +kernel)
theorem sl_X6_image : Cond.selects RX6 yX6_image yX6_image ∈ wsT := wsT_in (tin4 (List.mem_of_getElem? (i := 7) (by decide +kernel))) (by decide +kernel)
theorem cd_X6_image : Cond.code yX6_image cX6_image 1 (some .int) ∈ wsT := wsT_in (tin4 (List.mem_of_getElem? (i := 8) (by decide +kernel))) (by decide +kernel)
theorem ml_X6_290 : Cond.methodLink RX6 290 yX5_copyFrom ∈ wsT := wsT_in (tin4 (List.mem_of_getElem? (i := 9) (by decide +kernel))) (by decide +kernel)
theorem im_X5_copyFrom : Cond.instanceMethod yX5_copyFrom ∈ wsT := wsT_in (tin4 (List.mem_of_getElem? (i := 10) (by decide +kernel))) (by decide +kernel)
theorem sl_X5_copyFrom : Cond.selects RX5 yX5_copyFrom yX5_copyFrom ∈ wsT := wsT_in (tin4 (List.mem_of_getElem? (i := 11) (by decide +kernel))) (by decide +kernel)
theorem cd_X5_copyFrom : Cond.code yX5_copyFrom cX5_copyFrom 3 (none : Option Jvm.ClassFile.FieldType) ∈ wsT := wsT_in (tin4 (List.mem_of_getElem? (i := 12) (by decide +kernel))) (by decide +kernel)
theorem ml_X5_57 : Cond.methodLink RX5 57 arraycopyName ∈ wsT := wsT_in (tin4 (List.mem_of_getElem? (i := 13) (by decide +kernel))) (by decide +kernel)
theorem ml_X5_63 : Cond.methodLink RX5 63 yX3_copyFrom ∈ wsT := wsT_in (tin4 (List.mem_of_getElem? (i := 14) (by decide +kernel))) (by decide +kernel)
theorem im_X3_copyFrom : Cond.instanceMethod yX3_copyFrom ∈ wsT := wsT_in (tin4 (List.mem_of_getElem? (i := 15) (by decide +kernel))) (by decide +kernel)
theorem sl_X3_copyFrom : Cond.selects RX3 yX3_copyFrom yX3_copyFrom ∈ wsT := wsT_in (tin4 (List.mem_of_getElem? (i := 16) (by decide +kernel))) (by decide +kernel)
theorem cd_X3_copyFrom : Cond.code yX3_copyFrom cX3_copyFrom 2 (none : Option Jvm.ClassFile.FieldType) ∈ wsT := wsT_in (tin4 (List.mem_of_getElem? (i := 17) (by decide +kernel))) (by decide +kernel)
theorem ml_X3_25 : Cond.methodLink RX3 25 arraycopyName ∈ wsT := wsT_in (tin4 (List.mem_of_getElem? (i := 18) (by decide +kernel))) (by decide +kernel)
theorem ml_X6_294 : Cond.methodLink RX6 294 yX5_presentFunctions ∈ wsT := wsT_in (tin4 (List.mem_of_getElem? (i := 19) (by decide +kernel))) (by decide +kernel)
theorem im_X5_presentFunctions : Cond.instanceMethod yX5_presentFunctions ∈ wsT := wsT_in (tin4 (List.mem_of_getElem? (i := 20) (by decide +kernel))) (by decide +kernel)
theorem sl_X5_presentFunctions : Cond.selects RX5 yX5_presentFunctions yX5_presentFunctions ∈ wsT := wsT_in (tin4 (List.mem_of_getElem? (i := 21) (by decide +kernel))) (by decide +kernel)
theorem cd_X5_presentFunctions : Cond.code yX5_presentFunctions cX5_presentFunctions 3 (some .int) ∈ wsT := wsT_in (tin4 (List.mem_of_getElem? (i := 22) (by decide +kernel))) (by decide +kernel)
theorem ml_X5_71 : Cond.methodLink RX5 71 yX3_isMissing ∈ wsT := wsT_in (tin4 (List.mem_of_getElem? (i := 23) (by decide +kernel))) (by decide +kernel)
theorem ml_L_193 : Cond.methodLink RL 193 yX6_back ∈ wsT := wsT_in (tin4 (List.mem_of_getElem? (i := 24) (by decide +kernel))) (by decide +kernel)
theorem im_X6_back : Cond.instanceMethod yX6_back ∈ wsT := wsT_in (tin4 (List.mem_of_getElem? (i := 25) (by decide +kernel))) (by decide +kernel)
theorem sl_X6_back : Cond.selects RX6 yX6_back yX6_back ∈ wsT := wsT_in (tin4 (List.mem_of_getElem? (i := 26) (by decide +kernel))) (by decide +kernel)
theorem cd_X6_back : Cond.code yX6_back cX6_back 1 (some .int) ∈ wsT := wsT_in (tin4 (List.mem_of_getElem? (i := 27) (by decide +kernel))) (by decide +kernel)
theorem ml_L_197 : Cond.methodLink RL 197 yX6_count ∈ wsT := wsT_in (tin4 (List.mem_of_getElem? (i := 28) (by decide +kernel))) (by decide +kernel)
theorem im_X6_count : Cond.instanceMethod yX6_count ∈ wsT := wsT_in (tin4 (List.mem_of_getElem? (i := 29) (by decide +kernel))) (by decide +kernel)
theorem sl_X6_count : Cond.selects RX6 yX6_count yX6_count ∈ wsT := wsT_in (tin4 (List.mem_of_getElem? (i := 30) (by decide +kernel))) (by decide +kernel)
theorem cd_X6_count : Cond.code yX6_count cX6_count 2 (some .int) ∈ wsT := wsT_in (tin4 (List.mem_of_getElem? (i := 31) (by decide +kernel))) (by decide +kernel)
theorem ml_X6_297 : Cond.methodLink RX6 297 yX6_nonZero ∈ wsT := wsT_in (tin4 (List.mem_of_getElem? (i := 32) (by decide +kernel))) (by decide +kernel)
theorem sm_X6_nonZero : Cond.static yX6_nonZero ∈ wsT := wsT_in (tin4 (List.mem_of_getElem? (i := 33) (by decide +kernel))) (by decide +kernel)
theorem cd_X6_nonZero : Cond.code yX6_nonZero cX6_nonZero 6 (some .int) ∈ wsT := wsT_in (tin4 (List.mem_of_getElem? (i := 34) (by decide +kernel))) (by decide +kernel)
theorem kl_L_10 : Cond.classLink RL 10 RX7 ∈ wsT := wsT_in (tin4 (List.mem_of_getElem? (i := 35) (by decide +kernel))) (by decide +kernel)
theorem ia_X7 : Cond.instantiable RX7 27 ∈ wsT := wsT_in (tin4 (List.mem_of_getElem? (i := 36) (by decide +kernel))) (by decide +kernel)
theorem ml_L_12 : Cond.methodLink RL 12 yX7_init ∈ wsT := wsT_in (tin4 (List.mem_of_getElem? (i := 37) (by decide +kernel))) (by decide +kernel)
theorem im_X7_init : Cond.instanceMethod yX7_init ∈ wsT := wsT_in (tin4 (List.mem_of_getElem? (i := 38) (by decide +kernel))) (by decide +kernel)
theorem cd_X7_init : Cond.code yX7_init cX7_init 2 (none : Option Jvm.ClassFile.FieldType) ∈ wsT := wsT_in (tin4 (List.mem_of_getElem? (i := 39) (by decide +kernel))) (by decide +kernel)
theorem ml_X7_3 : Cond.methodLink RX7 3 objectInit ∈ wsT := wsT_in (tin4 (List.mem_of_getElem? (i := 40) (by decide +kernel))) (by decide +kernel)
theorem ml_X7_76 : Cond.methodLink RX7 76 yX7_empties ∈ wsT := wsT_in (tin4 (List.mem_of_getElem? (i := 43) (by decide +kernel))) (by decide +kernel)
theorem im_X7_empties : Cond.instanceMethod yX7_empties ∈ wsT := wsT_in (tin4 (List.mem_of_getElem? (i := 45) (by decide +kernel))) (by decide +kernel)
theorem cd_X7_empties : Cond.code yX7_empties cX7_empties 2 (none : Option Jvm.ClassFile.FieldType) ∈ wsT := wsT_in (tin4 (List.mem_of_getElem? (i := 46) (by decide +kernel))) (by decide +kernel)
theorem fl_X7_9 : Cond.fieldLink RX7 9 RX7 "n" "I" ∈ wsT := wsT_in (tin4 (List.mem_of_getElem? (i := 47) (by decide +kernel))) (by decide +kernel)
theorem fl_X7_15 : Cond.fieldLink RX7 15 RX7 "loads" "[I" ∈ wsT := wsT_in (tin4 (List.mem_of_getElem? (i := 48) (by decide +kernel))) (by decide +kernel)
theorem fl_X7_19 : Cond.fieldLink RX7 19 RX7 "worths" "[I" ∈ wsT := wsT_in (tin4 (List.mem_of_getElem? (i := 49) (by decide +kernel))) (by decide +kernel)
theorem fl_X7_22 : Cond.fieldLink RX7 22 RX7 "itemSets" "[I" ∈ wsT := wsT_in (tin4 (List.mem_of_getElem? (i := 50) (by decide +kernel))) (by decide +kernel)
theorem fl_X7_25 : Cond.fieldLink RX7 25 RX7 "blocks" "[I" ∈ wsT := wsT_in (tin4 (List.mem_of_getElem? (i := 51) (by decide +kernel))) (by decide +kernel)
theorem fl_X7_28 : Cond.fieldLink RX7 28 RX7 "caps" "[I" ∈ wsT := wsT_in (tin4 (List.mem_of_getElem? (i := 52) (by decide +kernel))) (by decide +kernel)
theorem fl_X7_31 : Cond.fieldLink RX7 31 RX7 "weights" "[I" ∈ wsT := wsT_in (tin4 (List.mem_of_getElem? (i := 53) (by decide +kernel))) (by decide +kernel)
theorem fl_X7_34 : Cond.fieldLink RX7 34 RX7 "kinds" "[I" ∈ wsT := wsT_in (tin4 (List.mem_of_getElem? (i := 54) (by decide +kernel))) (by decide +kernel)
theorem fl_X7_39 : Cond.fieldLink RX7 39 RX7 "values" "[[I" ∈ wsT := wsT_in (tin4 (List.mem_of_getElem? (i := 55) (by decide +kernel))) (by decide +kernel)
theorem fl_X7_42 : Cond.fieldLink RX7 42 RX7 "made" "[I" ∈ wsT := wsT_in (tin4 (List.mem_of_getElem? (i := 56) (by decide +kernel))) (by decide +kernel)
theorem fl_X7_45 : Cond.fieldLink RX7 45 RX7 "row" "[I" ∈ wsT := wsT_in (tin4 (List.mem_of_getElem? (i := 57) (by decide +kernel))) (by decide +kernel)
theorem fl_X7_48 : Cond.fieldLink RX7 48 RX7 "levels" "[I" ∈ wsT := wsT_in (tin4 (List.mem_of_getElem? (i := 58) (by decide +kernel))) (by decide +kernel)
theorem fl_X7_232 : Cond.fieldLink RX7 232 RX7 "leveled" "I" ∈ wsT := wsT_in (tin4 (List.mem_of_getElem? (i := 59) (by decide +kernel))) (by decide +kernel)
theorem fl_X7_51 : Cond.fieldLink RX7 51 RX7 "tape" "[B" ∈ wsT := wsT_in (tin4 (List.mem_of_getElem? (i := 60) (by decide +kernel))) (by decide +kernel)
theorem fl_X7_261 : Cond.fieldLink RX7 261 RX7 "taped" "I" ∈ wsT := wsT_in (tin4 (List.mem_of_getElem? (i := 61) (by decide +kernel))) (by decide +kernel)
theorem fl_X7_286 : Cond.fieldLink RX7 286 RX7 "at" "I" ∈ wsT := wsT_in (tin4 (List.mem_of_getElem? (i := 62) (by decide +kernel))) (by decide +kernel)
theorem fl_X7_309 : Cond.fieldLink RX7 309 RX7 "told" "I" ∈ wsT := wsT_in (tin4 (List.mem_of_getElem? (i := 63) (by decide +kernel))) (by decide +kernel)
theorem fl_X7_55 : Cond.fieldLink RX7 55 RX7 "words" "[I" ∈ wsT := wsT_in (tin4 (List.mem_of_getElem? (i := 64) (by decide +kernel))) (by decide +kernel)
theorem fl_X7_58 : Cond.fieldLink RX7 58 RX7 "numbers" "[I" ∈ wsT := wsT_in (tin4 (List.mem_of_getElem? (i := 65) (by decide +kernel))) (by decide +kernel)
theorem fl_X7_61 : Cond.fieldLink RX7 61 RX7 "paper" "[B" ∈ wsT := wsT_in (tin4 (List.mem_of_getElem? (i := 66) (by decide +kernel))) (by decide +kernel)
theorem fl_X7_353 : Cond.fieldLink RX7 353 RX7 "papered" "I" ∈ wsT := wsT_in (tin4 (List.mem_of_getElem? (i := 67) (by decide +kernel))) (by decide +kernel)
theorem fl_X7_64 : Cond.fieldLink RX7 64 RX7 "lengths" "[I" ∈ wsT := wsT_in (tin4 (List.mem_of_getElem? (i := 68) (by decide +kernel))) (by decide +kernel)
theorem fl_X7_67 : Cond.fieldLink RX7 67 RX7 "lists" "[[I" ∈ wsT := wsT_in (tin4 (List.mem_of_getElem? (i := 69) (by decide +kernel))) (by decide +kernel)
theorem fl_X7_365 : Cond.fieldLink RX7 365 RX7 "isKept" "Z" ∈ wsT := wsT_in (tin4 (List.mem_of_getElem? (i := 70) (by decide +kernel))) (by decide +kernel)
theorem fl_X7_369 : Cond.fieldLink RX7 369 RX7 "keptN" "I" ∈ wsT := wsT_in (tin4 (List.mem_of_getElem? (i := 71) (by decide +kernel))) (by decide +kernel)
theorem fl_X7_70 : Cond.fieldLink RX7 70 RX7 "keptRows" "[[I" ∈ wsT := wsT_in (tin4 (List.mem_of_getElem? (i := 72) (by decide +kernel))) (by decide +kernel)
theorem fl_X7_73 : Cond.fieldLink RX7 73 RX7 "keptValues" "[[I" ∈ wsT := wsT_in (tin4 (List.mem_of_getElem? (i := 73) (by decide +kernel))) (by decide +kernel)
theorem ly_X7_n : Cond.lays RX7 RX7 "n" "I" ∈ wsT := wsT_in (tin4 (List.mem_of_getElem? (i := 74) (by decide +kernel))) (by decide +kernel)
theorem ly_X7_loads : Cond.laysFinal RX7 RX7 "loads" "[I" ∈ wsT := wsT_in (tin4 (List.mem_of_getElem? (i := 76) (by decide +kernel))) (by decide +kernel)
theorem ly_X7_worths : Cond.laysFinal RX7 RX7 "worths" "[I" ∈ wsT := wsT_in (tin4 (List.mem_of_getElem? (i := 78) (by decide +kernel))) (by decide +kernel)
theorem ly_X7_itemSets : Cond.laysFinal RX7 RX7 "itemSets" "[I" ∈ wsT := wsT_in (tin4 (List.mem_of_getElem? (i := 80) (by decide +kernel))) (by decide +kernel)
theorem ly_X7_blocks : Cond.laysFinal RX7 RX7 "blocks" "[I" ∈ wsT := wsT_in (tin4 (List.mem_of_getElem? (i := 82) (by decide +kernel))) (by decide +kernel)
theorem ly_X7_caps : Cond.laysFinal RX7 RX7 "caps" "[I" ∈ wsT := wsT_in (tin4 (List.mem_of_getElem? (i := 84) (by decide +kernel))) (by decide +kernel)
theorem ly_X7_weights : Cond.laysFinal RX7 RX7 "weights" "[I" ∈ wsT := wsT_in (tin4 (List.mem_of_getElem? (i := 86) (by decide +kernel))) (by decide +kernel)
theorem ly_X7_kinds : Cond.laysFinal RX7 RX7 "kinds" "[I" ∈ wsT := wsT_in (tin4 (List.mem_of_getElem? (i := 88) (by decide +kernel))) (by decide +kernel)
theorem ly_X7_values : Cond.laysFinal RX7 RX7 "values" "[[I" ∈ wsT := wsT_in (tin4 (List.mem_of_getElem? (i := 90) (by decide +kernel))) (by decide +kernel)
theorem ly_X7_made : Cond.laysFinal RX7 RX7 "made" "[I" ∈ wsT := wsT_in (tin4 (List.mem_of_getElem? (i := 92) (by decide +kernel))) (by decide +kernel)
theorem ly_X7_row : Cond.laysFinal RX7 RX7 "row" "[I" ∈ wsT := wsT_in (tin4 (List.mem_of_getElem? (i := 94) (by decide +kernel))) (by decide +kernel)
theorem ly_X7_levels : Cond.laysFinal RX7 RX7 "levels" "[I" ∈ wsT := wsT_in (tin4 (List.mem_of_getElem? (i := 96) (by decide +kernel))) (by decide +kernel)
theorem ly_X7_leveled : Cond.lays RX7 RX7 "leveled" "I" ∈ wsT := wsT_in (tin4 (List.mem_of_getElem? (i := 98) (by decide +kernel))) (by decide +kernel)
theorem ly_X7_tape : Cond.laysFinal RX7 RX7 "tape" "[B" ∈ wsT := wsT_in (tin4 (List.mem_of_getElem? (i := 100) (by decide +kernel))) (by decide +kernel)
theorem ly_X7_taped : Cond.lays RX7 RX7 "taped" "I" ∈ wsT := wsT_in (tin4 (List.mem_of_getElem? (i := 102) (by decide +kernel))) (by decide +kernel)
theorem ly_X7_at : Cond.lays RX7 RX7 "at" "I" ∈ wsT := wsT_in (tin4 (List.mem_of_getElem? (i := 104) (by decide +kernel))) (by decide +kernel)
theorem ly_X7_told : Cond.lays RX7 RX7 "told" "I" ∈ wsT := wsT_in (tin4 (List.mem_of_getElem? (i := 106) (by decide +kernel))) (by decide +kernel)
theorem ly_X7_words : Cond.laysFinal RX7 RX7 "words" "[I" ∈ wsT := wsT_in (tin4 (List.mem_of_getElem? (i := 108) (by decide +kernel))) (by decide +kernel)
theorem ly_X7_numbers : Cond.laysFinal RX7 RX7 "numbers" "[I" ∈ wsT := wsT_in (tin4 (List.mem_of_getElem? (i := 110) (by decide +kernel))) (by decide +kernel)
theorem ly_X7_paper : Cond.laysFinal RX7 RX7 "paper" "[B" ∈ wsT := wsT_in (tin4 (List.mem_of_getElem? (i := 112) (by decide +kernel))) (by decide +kernel)
theorem ly_X7_papered : Cond.lays RX7 RX7 "papered" "I" ∈ wsT := wsT_in (tin4 (List.mem_of_getElem? (i := 114) (by decide +kernel))) (by decide +kernel)
theorem ly_X7_lengths : Cond.laysFinal RX7 RX7 "lengths" "[I" ∈ wsT := wsT_in (tin4 (List.mem_of_getElem? (i := 116) (by decide +kernel))) (by decide +kernel)
theorem ly_X7_lists : Cond.laysFinal RX7 RX7 "lists" "[[I" ∈ wsT := wsT_in (tin4 (List.mem_of_getElem? (i := 118) (by decide +kernel))) (by decide +kernel)
theorem ly_X7_isKept : Cond.lays RX7 RX7 "isKept" "Z" ∈ wsT := wsT_in (tin4 (List.mem_of_getElem? (i := 120) (by decide +kernel))) (by decide +kernel)
theorem ly_X7_keptN : Cond.lays RX7 RX7 "keptN" "I" ∈ wsT := wsT_in (tin4 (List.mem_of_getElem? (i := 122) (by decide +kernel))) (by decide +kernel)
theorem ly_X7_keptRows : Cond.laysFinal RX7 RX7 "keptRows" "[[I" ∈ wsT := wsT_in (tin4 (List.mem_of_getElem? (i := 124) (by decide +kernel))) (by decide +kernel)
theorem ly_X7_keptValues : Cond.laysFinal RX7 RX7 "keptValues" "[[I" ∈ wsT := wsT_in (tin4 (List.mem_of_getElem? (i := 126) (by decide +kernel))) (by decide +kernel)
theorem ml_L_17 : Cond.methodLink RL 17 yX7_points ∈ wsT := wsT_in (tin4 (List.mem_of_getElem? (i := 129) (by decide +kernel))) (by decide +kernel)
theorem im_X7_points : Cond.instanceMethod yX7_points ∈ wsT := wsT_in (tin4 (List.mem_of_getElem? (i := 130) (by decide +kernel))) (by decide +kernel)
theorem sl_X7_points : Cond.selects RX7 yX7_points yX7_points ∈ wsT := wsT_in (tin4 (List.mem_of_getElem? (i := 131) (by decide +kernel))) (by decide +kernel)
theorem cd_X7_points : Cond.code yX7_points cX7_points 3 (some .int) ∈ wsT := wsT_in (tin4 (List.mem_of_getElem? (i := 132) (by decide +kernel))) (by decide +kernel)
theorem cl_X7_96 : Cond.constantLong RX7 96 (6) ∈ wsT := wsT_in (tin4 (List.mem_of_getElem? (i := 133) (by decide +kernel))) (by decide +kernel)
theorem ml_X7_79 : Cond.methodLink RX7 79 yX7_in ∈ wsT := wsT_in (tin4 (List.mem_of_getElem? (i := 134) (by decide +kernel))) (by decide +kernel)
theorem sm_X7_in : Cond.static yX7_in ∈ wsT := wsT_in (tin4 (List.mem_of_getElem? (i := 135) (by decide +kernel))) (by decide +kernel)
theorem cd_X7_in : Cond.code yX7_in cX7_in 6 (some .boolean) ∈ wsT := wsT_in (tin4 (List.mem_of_getElem? (i := 136) (by decide +kernel))) (by decide +kernel)
theorem ml_L_22 : Cond.methodLink RL 22 yX7_arc ∈ wsT := wsT_in (tin4 (List.mem_of_getElem? (i := 137) (by decide +kernel))) (by decide +kernel)
theorem im_X7_arc : Cond.instanceMethod yX7_arc ∈ wsT := wsT_in (tin4 (List.mem_of_getElem? (i := 138) (by decide +kernel))) (by decide +kernel)
theorem sl_X7_arc : Cond.selects RX7 yX7_arc yX7_arc ∈ wsT := wsT_in (tin4 (List.mem_of_getElem? (i := 139) (by decide +kernel))) (by decide +kernel)
theorem cd_X7_arc : Cond.code yX7_arc cX7_arc 5 (some .int) ∈ wsT := wsT_in (tin4 (List.mem_of_getElem? (i := 140) (by decide +kernel))) (by decide +kernel)
theorem ml_X7_98 : Cond.methodLink RX7 98 yX7_isPoint ∈ wsT := wsT_in (tin4 (List.mem_of_getElem? (i := 141) (by decide +kernel))) (by decide +kernel)
theorem im_X7_isPoint : Cond.instanceMethod yX7_isPoint ∈ wsT := wsT_in (tin4 (List.mem_of_getElem? (i := 143) (by decide +kernel))) (by decide +kernel)
theorem cd_X7_isPoint : Cond.code yX7_isPoint cX7_isPoint 2 (some .boolean) ∈ wsT := wsT_in (tin4 (List.mem_of_getElem? (i := 144) (by decide +kernel))) (by decide +kernel)
theorem cl_X7_102 : Cond.constantLong RX7 102 (99) ∈ wsT := wsT_in (tin4 (List.mem_of_getElem? (i := 145) (by decide +kernel))) (by decide +kernel)
theorem ml_L_26 : Cond.methodLink RL 26 yX7_item ∈ wsT := wsT_in (tin4 (List.mem_of_getElem? (i := 146) (by decide +kernel))) (by decide +kernel)
theorem im_X7_item : Cond.instanceMethod yX7_item ∈ wsT := wsT_in (tin4 (List.mem_of_getElem? (i := 147) (by decide +kernel))) (by decide +kernel)
theorem sl_X7_item : Cond.selects RX7 yX7_item yX7_item ∈ wsT := wsT_in (tin4 (List.mem_of_getElem? (i := 148) (by decide +kernel))) (by decide +kernel)
theorem cd_X7_item : Cond.code yX7_item cX7_item 5 (some .int) ∈ wsT := wsT_in (tin4 (List.mem_of_getElem? (i := 149) (by decide +kernel))) (by decide +kernel)
theorem cl_X7_104 : Cond.constantLong RX7 104 (7) ∈ wsT := wsT_in (tin4 (List.mem_of_getElem? (i := 150) (by decide +kernel))) (by decide +kernel)
theorem ml_X7_106 : Cond.methodLink RX7 106 yX7_isSet ∈ wsT := wsT_in (tin4 (List.mem_of_getElem? (i := 151) (by decide +kernel))) (by decide +kernel)
theorem im_X7_isSet : Cond.instanceMethod yX7_isSet ∈ wsT := wsT_in (tin4 (List.mem_of_getElem? (i := 153) (by decide +kernel))) (by decide +kernel)
theorem cd_X7_isSet : Cond.code yX7_isSet cX7_isSet 2 (some .boolean) ∈ wsT := wsT_in (tin4 (List.mem_of_getElem? (i := 154) (by decide +kernel))) (by decide +kernel)
theorem ml_X7_87 : Cond.methodLink RX7 87 yX7_all ∈ wsT := wsT_in (tin4 (List.mem_of_getElem? (i := 155) (by decide +kernel))) (by decide +kernel)
theorem im_X7_all : Cond.instanceMethod yX7_all ∈ wsT := wsT_in (tin4 (List.mem_of_getElem? (i := 157) (by decide +kernel))) (by decide +kernel)
theorem cd_X7_all : Cond.code yX7_all cX7_all 1 (some .int) ∈ wsT := wsT_in (tin4 (List.mem_of_getElem? (i := 158) (by decide +kernel))) (by decide +kernel)
theorem ml_X7_83 : Cond.methodLink RX7 83 yX7_sets ∈ wsT := wsT_in (tin4 (List.mem_of_getElem? (i := 159) (by decide +kernel))) (by decide +kernel)
theorem im_X7_sets : Cond.instanceMethod yX7_sets ∈ wsT := wsT_in (tin4 (List.mem_of_getElem? (i := 161) (by decide +kernel))) (by decide +kernel)
theorem cd_X7_sets : Cond.code yX7_sets cX7_sets 1 (some .int) ∈ wsT := wsT_in (tin4 (List.mem_of_getElem? (i := 162) (by decide +kernel))) (by decide +kernel)
theorem ml_L_31 : Cond.methodLink RL 31 yX7_block ∈ wsT := wsT_in (tin4 (List.mem_of_getElem? (i := 163) (by decide +kernel))) (by decide +kernel)
theorem im_X7_block : Cond.instanceMethod yX7_block ∈ wsT := wsT_in (tin4 (List.mem_of_getElem? (i := 164) (by decide +kernel))) (by decide +kernel)
theorem sl_X7_block : Cond.selects RX7 yX7_block yX7_block ∈ wsT := wsT_in (tin4 (List.mem_of_getElem? (i := 165) (by decide +kernel))) (by decide +kernel)
theorem cd_X7_block : Cond.code yX7_block cX7_block 4 (some .int) ∈ wsT := wsT_in (tin4 (List.mem_of_getElem? (i := 166) (by decide +kernel))) (by decide +kernel)
theorem ml_X7_111 : Cond.methodLink RX7 111 yX7_isBlock ∈ wsT := wsT_in (tin4 (List.mem_of_getElem? (i := 167) (by decide +kernel))) (by decide +kernel)
theorem sm_X7_isBlock : Cond.static yX7_isBlock ∈ wsT := wsT_in (tin4 (List.mem_of_getElem? (i := 168) (by decide +kernel))) (by decide +kernel)
theorem cd_X7_isBlock : Cond.code yX7_isBlock cX7_isBlock 1 (some .boolean) ∈ wsT := wsT_in (tin4 (List.mem_of_getElem? (i := 169) (by decide +kernel))) (by decide +kernel)
theorem cl_X7_109 : Cond.constantLong RX7 109 (5) ∈ wsT := wsT_in (tin4 (List.mem_of_getElem? (i := 170) (by decide +kernel))) (by decide +kernel)
theorem ml_L_35 : Cond.methodLink RL 35 yX7_cap ∈ wsT := wsT_in (tin4 (List.mem_of_getElem? (i := 171) (by decide +kernel))) (by decide +kernel)
theorem im_X7_cap : Cond.instanceMethod yX7_cap ∈ wsT := wsT_in (tin4 (List.mem_of_getElem? (i := 172) (by decide +kernel))) (by decide +kernel)
theorem sl_X7_cap : Cond.selects RX7 yX7_cap yX7_cap ∈ wsT := wsT_in (tin4 (List.mem_of_getElem? (i := 173) (by decide +kernel))) (by decide +kernel)
theorem cd_X7_cap : Cond.code yX7_cap cX7_cap 4 (some .int) ∈ wsT := wsT_in (tin4 (List.mem_of_getElem? (i := 174) (by decide +kernel))) (by decide +kernel)
theorem ml_L_39 : Cond.methodLink RL 39 yX7_weight ∈ wsT := wsT_in (tin4 (List.mem_of_getElem? (i := 175) (by decide +kernel))) (by decide +kernel)
theorem im_X7_weight : Cond.instanceMethod yX7_weight ∈ wsT := wsT_in (tin4 (List.mem_of_getElem? (i := 176) (by decide +kernel))) (by decide +kernel)
theorem sl_X7_weight : Cond.selects RX7 yX7_weight yX7_weight ∈ wsT := wsT_in (tin4 (List.mem_of_getElem? (i := 177) (by decide +kernel))) (by decide +kernel)
theorem cd_X7_weight : Cond.code yX7_weight cX7_weight 4 (some .int) ∈ wsT := wsT_in (tin4 (List.mem_of_getElem? (i := 178) (by decide +kernel))) (by decide +kernel)
theorem cn_X7_114 : Cond.constant RX7 114 (-1000001) ∈ wsT := wsT_in (tin4 (List.mem_of_getElem? (i := 179) (by decide +kernel))) (by decide +kernel)
theorem cl_X7_115 : Cond.constantLong RX7 115 (-99) ∈ wsT := wsT_in (tin4 (List.mem_of_getElem? (i := 180) (by decide +kernel))) (by decide +kernel)
theorem cn_X7_117 : Cond.constant RX7 117 (-1000002) ∈ wsT := wsT_in (tin4 (List.mem_of_getElem? (i := 181) (by decide +kernel))) (by decide +kernel)
theorem ml_L_43 : Cond.methodLink RL 43 yX7_tell ∈ wsT := wsT_in (tin4 (List.mem_of_getElem? (i := 182) (by decide +kernel))) (by decide +kernel)
theorem im_X7_tell : Cond.instanceMethod yX7_tell ∈ wsT := wsT_in (tin4 (List.mem_of_getElem? (i := 183) (by decide +kernel))) (by decide +kernel)
theorem sl_X7_tell : Cond.selects RX7 yX7_tell yX7_tell ∈ wsT := wsT_in (tin4 (List.mem_of_getElem? (i := 184) (by decide +kernel))) (by decide +kernel)
theorem cd_X7_tell : Cond.code yX7_tell cX7_tell 6 (some .int) ∈ wsT := wsT_in (tin4 (List.mem_of_getElem? (i := 185) (by decide +kernel))) (by decide +kernel)
theorem ml_X7_128 : Cond.methodLink RX7 128 yX7_isFunction ∈ wsT := wsT_in (tin4 (List.mem_of_getElem? (i := 186) (by decide +kernel))) (by decide +kernel)
theorem sm_X7_isFunction : Cond.static yX7_isFunction ∈ wsT := wsT_in (tin4 (List.mem_of_getElem? (i := 187) (by decide +kernel))) (by decide +kernel)
theorem cd_X7_isFunction : Cond.code yX7_isFunction cX7_isFunction 1 (some .boolean) ∈ wsT := wsT_in (tin4 (List.mem_of_getElem? (i := 188) (by decide +kernel))) (by decide +kernel)
theorem ml_X7_135 : Cond.methodLink RX7 135 yX7_isValue ∈ wsT := wsT_in (tin4 (List.mem_of_getElem? (i := 189) (by decide +kernel))) (by decide +kernel)
theorem sm_X7_isValue : Cond.static yX7_isValue ∈ wsT := wsT_in (tin4 (List.mem_of_getElem? (i := 190) (by decide +kernel))) (by decide +kernel)
theorem cd_X7_isValue : Cond.code yX7_isValue cX7_isValue 2 (some .boolean) ∈ wsT := wsT_in (tin4 (List.mem_of_getElem? (i := 191) (by decide +kernel))) (by decide +kernel)
theorem cl_X7_131 : Cond.constantLong RX7 131 (-999999) ∈ wsT := wsT_in (tin4 (List.mem_of_getElem? (i := 192) (by decide +kernel))) (by decide +kernel)
theorem cl_X7_133 : Cond.constantLong RX7 133 (999999) ∈ wsT := wsT_in (tin4 (List.mem_of_getElem? (i := 193) (by decide +kernel))) (by decide +kernel)
theorem ml_L_47 : Cond.methodLink RL 47 yX7_cut ∈ wsT := wsT_in (tin4 (List.mem_of_getElem? (i := 194) (by decide +kernel))) (by decide +kernel)
theorem im_X7_cut : Cond.instanceMethod yX7_cut ∈ wsT := wsT_in (tin4 (List.mem_of_getElem? (i := 195) (by decide +kernel))) (by decide +kernel)
theorem sl_X7_cut : Cond.selects RX7 yX7_cut yX7_cut ∈ wsT := wsT_in (tin4 (List.mem_of_getElem? (i := 196) (by decide +kernel))) (by decide +kernel)
theorem cd_X7_cut : Cond.code yX7_cut cX7_cut 2 (some .int) ∈ wsT := wsT_in (tin4 (List.mem_of_getElem? (i := 197) (by decide +kernel))) (by decide +kernel)
theorem ml_X7_159 : Cond.methodLink RX7 159 yX7_makes ∈ wsT := wsT_in (tin4 (List.mem_of_getElem? (i := 198) (by decide +kernel))) (by decide +kernel)
theorem im_X7_makes : Cond.instanceMethod yX7_makes ∈ wsT := wsT_in (tin4 (List.mem_of_getElem? (i := 200) (by decide +kernel))) (by decide +kernel)
theorem cd_X7_makes : Cond.code yX7_makes cX7_makes 5 (some .int) ∈ wsT := wsT_in (tin4 (List.mem_of_getElem? (i := 201) (by decide +kernel))) (by decide +kernel)
theorem ml_X7_147 : Cond.methodLink RX7 147 yX7_cutOf ∈ wsT := wsT_in (tin4 (List.mem_of_getElem? (i := 202) (by decide +kernel))) (by decide +kernel)
theorem im_X7_cutOf : Cond.instanceMethod yX7_cutOf ∈ wsT := wsT_in (tin4 (List.mem_of_getElem? (i := 204) (by decide +kernel))) (by decide +kernel)
theorem cd_X7_cutOf : Cond.code yX7_cutOf cX7_cutOf 5 (some .int) ∈ wsT := wsT_in (tin4 (List.mem_of_getElem? (i := 205) (by decide +kernel))) (by decide +kernel)
theorem ml_X7_118 : Cond.methodLink RX7 118 yX7_has ∈ wsT := wsT_in (tin4 (List.mem_of_getElem? (i := 206) (by decide +kernel))) (by decide +kernel)
theorem sm_X7_has : Cond.static yX7_has ∈ wsT := wsT_in (tin4 (List.mem_of_getElem? (i := 207) (by decide +kernel))) (by decide +kernel)
theorem cd_X7_has : Cond.code yX7_has cX7_has 2 (some .boolean) ∈ wsT := wsT_in (tin4 (List.mem_of_getElem? (i := 208) (by decide +kernel))) (by decide +kernel)
theorem ml_X7_150 : Cond.methodLink RX7 150 yX7_coverOf ∈ wsT := wsT_in (tin4 (List.mem_of_getElem? (i := 209) (by decide +kernel))) (by decide +kernel)
theorem im_X7_coverOf : Cond.instanceMethod yX7_coverOf ∈ wsT := wsT_in (tin4 (List.mem_of_getElem? (i := 211) (by decide +kernel))) (by decide +kernel)
theorem cd_X7_coverOf : Cond.code yX7_coverOf cX7_coverOf 4 (some .int) ∈ wsT := wsT_in (tin4 (List.mem_of_getElem? (i := 212) (by decide +kernel))) (by decide +kernel)
theorem ml_X7_153 : Cond.methodLink RX7 153 yX7_cappedOf ∈ wsT := wsT_in (tin4 (List.mem_of_getElem? (i := 213) (by decide +kernel))) (by decide +kernel)
theorem im_X7_cappedOf : Cond.instanceMethod yX7_cappedOf ∈ wsT := wsT_in (tin4 (List.mem_of_getElem? (i := 215) (by decide +kernel))) (by decide +kernel)
theorem cd_X7_cappedOf : Cond.code yX7_cappedOf cX7_cappedOf 6 (some .int) ∈ wsT := wsT_in (tin4 (List.mem_of_getElem? (i := 216) (by decide +kernel))) (by decide +kernel)
theorem ml_X7_122 : Cond.methodLink RX7 122 Lib.Math.min.name ∈ wsT := wsT_in (tin4 (List.mem_of_getElem? (i := 217) (by decide +kernel))) (by decide +kernel)
theorem ml_X7_156 : Cond.methodLink RX7 156 yX7_weightOf ∈ wsT := wsT_in (tin4 (List.mem_of_getElem? (i := 218) (by decide +kernel))) (by decide +kernel)
theorem im_X7_weightOf : Cond.instanceMethod yX7_weightOf ∈ wsT := wsT_in (tin4 (List.mem_of_getElem? (i := 220) (by decide +kernel))) (by decide +kernel)
theorem cd_X7_weightOf : Cond.code yX7_weightOf cX7_weightOf 4 (some .int) ∈ wsT := wsT_in (tin4 (List.mem_of_getElem? (i := 221) (by decide +kernel))) (by decide +kernel)
theorem ml_X7_143 : Cond.methodLink RX7 143 yX7_becomes ∈ wsT := wsT_in (tin4 (List.mem_of_getElem? (i := 222) (by decide +kernel))) (by decide +kernel)
theorem im_X7_becomes : Cond.instanceMethod yX7_becomes ∈ wsT := wsT_in (tin4 (List.mem_of_getElem? (i := 224) (by decide +kernel))) (by decide +kernel)
theorem cd_X7_becomes : Cond.code yX7_becomes cX7_becomes 4 (none : Option Jvm.ClassFile.FieldType) ∈ wsT := wsT_in (tin4 (List.mem_of_getElem? (i := 225) (by decide +kernel))) (by decide +kernel)
theorem ml_L_51 : Cond.methodLink RL 51 yX7_cover ∈ wsT := wsT_in (tin4 (List.mem_of_getElem? (i := 226) (by decide +kernel))) (by decide +kernel)
theorem im_X7_cover : Cond.instanceMethod yX7_cover ∈ wsT := wsT_in (tin4 (List.mem_of_getElem? (i := 227) (by decide +kernel))) (by decide +kernel)
theorem sl_X7_cover : Cond.selects RX7 yX7_cover yX7_cover ∈ wsT := wsT_in (tin4 (List.mem_of_getElem? (i := 228) (by decide +kernel))) (by decide +kernel)
theorem cd_X7_cover : Cond.code yX7_cover cX7_cover 2 (some .int) ∈ wsT := wsT_in (tin4 (List.mem_of_getElem? (i := 229) (by decide +kernel))) (by decide +kernel)
theorem ml_L_55 : Cond.methodLink RL 55 yX7_capped ∈ wsT := wsT_in (tin4 (List.mem_of_getElem? (i := 230) (by decide +kernel))) (by decide +kernel)
theorem im_X7_capped : Cond.instanceMethod yX7_capped ∈ wsT := wsT_in (tin4 (List.mem_of_getElem? (i := 231) (by decide +kernel))) (by decide +kernel)
theorem sl_X7_capped : Cond.selects RX7 yX7_capped yX7_capped ∈ wsT := wsT_in (tin4 (List.mem_of_getElem? (i := 232) (by decide +kernel))) (by decide +kernel)
theorem cd_X7_capped : Cond.code yX7_capped cX7_capped 2 (some .int) ∈ wsT := wsT_in (tin4 (List.mem_of_getElem? (i := 233) (by decide +kernel))) (by decide +kernel)
theorem ml_L_59 : Cond.methodLink RL 59 yX7_weighed ∈ wsT := wsT_in (tin4 (List.mem_of_getElem? (i := 234) (by decide +kernel))) (by decide +kernel)
theorem im_X7_weighed : Cond.instanceMethod yX7_weighed ∈ wsT := wsT_in (tin4 (List.mem_of_getElem? (i := 235) (by decide +kernel))) (by decide +kernel)
theorem sl_X7_weighed : Cond.selects RX7 yX7_weighed yX7_weighed ∈ wsT := wsT_in (tin4 (List.mem_of_getElem? (i := 236) (by decide +kernel))) (by decide +kernel)
theorem cd_X7_weighed : Cond.code yX7_weighed cX7_weighed 2 (some .int) ∈ wsT := wsT_in (tin4 (List.mem_of_getElem? (i := 237) (by decide +kernel))) (by decide +kernel)
theorem ml_L_63 : Cond.methodLink RL 63 yX7_sum ∈ wsT := wsT_in (tin4 (List.mem_of_getElem? (i := 238) (by decide +kernel))) (by decide +kernel)
theorem im_X7_sum : Cond.instanceMethod yX7_sum ∈ wsT := wsT_in (tin4 (List.mem_of_getElem? (i := 239) (by decide +kernel))) (by decide +kernel)
theorem sl_X7_sum : Cond.selects RX7 yX7_sum yX7_sum ∈ wsT := wsT_in (tin5 (List.mem_of_getElem? (i := 0) (by decide +kernel))) (by decide +kernel)
theorem cd_X7_sum : Cond.code yX7_sum cX7_sum 5 (some .int) ∈ wsT := wsT_in (tin5 (List.mem_of_getElem? (i := 1) (by decide +kernel))) (by decide +kernel)
theorem ml_X7_163 : Cond.methodLink RX7 163 yX7_isThere ∈ wsT := wsT_in (tin5 (List.mem_of_getElem? (i := 2) (by decide +kernel))) (by decide +kernel)
theorem im_X7_isThere : Cond.instanceMethod yX7_isThere ∈ wsT := wsT_in (tin5 (List.mem_of_getElem? (i := 4) (by decide +kernel))) (by decide +kernel)
theorem cd_X7_isThere : Cond.code yX7_isThere cX7_isThere 2 (some .boolean) ∈ wsT := wsT_in (tin5 (List.mem_of_getElem? (i := 5) (by decide +kernel))) (by decide +kernel)
theorem ml_X7_166 : Cond.methodLink RX7 166 yX7_comes ∈ wsT := wsT_in (tin5 (List.mem_of_getElem? (i := 6) (by decide +kernel))) (by decide +kernel)
theorem im_X7_comes : Cond.instanceMethod yX7_comes ∈ wsT := wsT_in (tin5 (List.mem_of_getElem? (i := 8) (by decide +kernel))) (by decide +kernel)
theorem cd_X7_comes : Cond.code yX7_comes cX7_comes 2 (some .int) ∈ wsT := wsT_in (tin5 (List.mem_of_getElem? (i := 9) (by decide +kernel))) (by decide +kernel)
theorem ml_X7_139 : Cond.methodLink RX7 139 yX7_areValues ∈ wsT := wsT_in (tin5 (List.mem_of_getElem? (i := 10) (by decide +kernel))) (by decide +kernel)
theorem im_X7_areValues : Cond.instanceMethod yX7_areValues ∈ wsT := wsT_in (tin5 (List.mem_of_getElem? (i := 12) (by decide +kernel))) (by decide +kernel)
theorem cd_X7_areValues : Cond.code yX7_areValues cX7_areValues 2 (some .boolean) ∈ wsT := wsT_in (tin5 (List.mem_of_getElem? (i := 13) (by decide +kernel))) (by decide +kernel)
theorem ml_L_67 : Cond.methodLink RL 67 yX7_turn ∈ wsT := wsT_in (tin5 (List.mem_of_getElem? (i := 14) (by decide +kernel))) (by decide +kernel)
theorem im_X7_turn : Cond.instanceMethod yX7_turn ∈ wsT := wsT_in (tin5 (List.mem_of_getElem? (i := 15) (by decide +kernel))) (by decide +kernel)
theorem sl_X7_turn : Cond.selects RX7 yX7_turn yX7_turn ∈ wsT := wsT_in (tin5 (List.mem_of_getElem? (i := 16) (by decide +kernel))) (by decide +kernel)
theorem cd_X7_turn : Cond.code yX7_turn cX7_turn 4 (some .int) ∈ wsT := wsT_in (tin5 (List.mem_of_getElem? (i := 17) (by decide +kernel))) (by decide +kernel)
theorem ml_L_71 : Cond.methodLink RL 71 yX7_cutBack ∈ wsT := wsT_in (tin5 (List.mem_of_getElem? (i := 18) (by decide +kernel))) (by decide +kernel)
theorem im_X7_cutBack : Cond.instanceMethod yX7_cutBack ∈ wsT := wsT_in (tin5 (List.mem_of_getElem? (i := 19) (by decide +kernel))) (by decide +kernel)
theorem sl_X7_cutBack : Cond.selects RX7 yX7_cutBack yX7_cutBack ∈ wsT := wsT_in (tin5 (List.mem_of_getElem? (i := 20) (by decide +kernel))) (by decide +kernel)
theorem cd_X7_cutBack : Cond.code yX7_cutBack cX7_cutBack 5 (some .int) ∈ wsT := wsT_in (tin5 (List.mem_of_getElem? (i := 21) (by decide +kernel))) (by decide +kernel)
theorem ml_L_76 : Cond.methodLink RL 76 yX7_part ∈ wsT := wsT_in (tin5 (List.mem_of_getElem? (i := 22) (by decide +kernel))) (by decide +kernel)
theorem im_X7_part : Cond.instanceMethod yX7_part ∈ wsT := wsT_in (tin5 (List.mem_of_getElem? (i := 23) (by decide +kernel))) (by decide +kernel)
theorem sl_X7_part : Cond.selects RX7 yX7_part yX7_part ∈ wsT := wsT_in (tin5 (List.mem_of_getElem? (i := 24) (by decide +kernel))) (by decide +kernel)
theorem cd_X7_part : Cond.code yX7_part cX7_part 6 (some .int) ∈ wsT := wsT_in (tin5 (List.mem_of_getElem? (i := 25) (by decide +kernel))) (by decide +kernel)
theorem ml_L_80 : Cond.methodLink RL 80 yX7_held ∈ wsT := wsT_in (tin5 (List.mem_of_getElem? (i := 26) (by decide +kernel))) (by decide +kernel)
theorem im_X7_held : Cond.instanceMethod yX7_held ∈ wsT := wsT_in (tin5 (List.mem_of_getElem? (i := 27) (by decide +kernel))) (by decide +kernel)
theorem sl_X7_held : Cond.selects RX7 yX7_held yX7_held ∈ wsT := wsT_in (tin5 (List.mem_of_getElem? (i := 28) (by decide +kernel))) (by decide +kernel)
theorem cd_X7_held : Cond.code yX7_held cX7_held 5 (some .int) ∈ wsT := wsT_in (tin5 (List.mem_of_getElem? (i := 29) (by decide +kernel))) (by decide +kernel)
theorem ml_L_84 : Cond.methodLink RL 84 yX7_clear ∈ wsT := wsT_in (tin5 (List.mem_of_getElem? (i := 30) (by decide +kernel))) (by decide +kernel)
theorem im_X7_clear : Cond.instanceMethod yX7_clear ∈ wsT := wsT_in (tin5 (List.mem_of_getElem? (i := 31) (by decide +kernel))) (by decide +kernel)
theorem sl_X7_clear : Cond.selects RX7 yX7_clear yX7_clear ∈ wsT := wsT_in (tin5 (List.mem_of_getElem? (i := 32) (by decide +kernel))) (by decide +kernel)
theorem cd_X7_clear : Cond.code yX7_clear cX7_clear 3 (some .int) ∈ wsT := wsT_in (tin5 (List.mem_of_getElem? (i := 33) (by decide +kernel))) (by decide +kernel)
theorem ml_L_88 : Cond.methodLink RL 88 yX7_of ∈ wsT := wsT_in (tin5 (List.mem_of_getElem? (i := 34) (by decide +kernel))) (by decide +kernel)
theorem im_X7_of : Cond.instanceMethod yX7_of ∈ wsT := wsT_in (tin5 (List.mem_of_getElem? (i := 35) (by decide +kernel))) (by decide +kernel)
theorem sl_X7_of : Cond.selects RX7 yX7_of yX7_of ∈ wsT := wsT_in (tin5 (List.mem_of_getElem? (i := 36) (by decide +kernel))) (by decide +kernel)
theorem cd_X7_of : Cond.code yX7_of cX7_of 3 (some .int) ∈ wsT := wsT_in (tin5 (List.mem_of_getElem? (i := 37) (by decide +kernel))) (by decide +kernel)
theorem cl_X7_176 : Cond.constantLong RX7 176 (4) ∈ wsT := wsT_in (tin5 (List.mem_of_getElem? (i := 38) (by decide +kernel))) (by decide +kernel)
theorem ml_X7_178 : Cond.methodLink RX7 178 yX7_failing ∈ wsT := wsT_in (tin5 (List.mem_of_getElem? (i := 39) (by decide +kernel))) (by decide +kernel)
theorem im_X7_failing : Cond.instanceMethod yX7_failing ∈ wsT := wsT_in (tin5 (List.mem_of_getElem? (i := 41) (by decide +kernel))) (by decide +kernel)
theorem cd_X7_failing : Cond.code yX7_failing cX7_failing 5 (some .int) ∈ wsT := wsT_in (tin5 (List.mem_of_getElem? (i := 42) (by decide +kernel))) (by decide +kernel)
theorem ml_X7_172 : Cond.methodLink RX7 172 yX7_lessens ∈ wsT := wsT_in (tin5 (List.mem_of_getElem? (i := 43) (by decide +kernel))) (by decide +kernel)
theorem im_X7_lessens : Cond.instanceMethod yX7_lessens ∈ wsT := wsT_in (tin5 (List.mem_of_getElem? (i := 45) (by decide +kernel))) (by decide +kernel)
theorem cd_X7_lessens : Cond.code yX7_lessens cX7_lessens 5 (some .boolean) ∈ wsT := wsT_in (tin5 (List.mem_of_getElem? (i := 46) (by decide +kernel))) (by decide +kernel)
theorem ml_X7_169 : Cond.methodLink RX7 169 yX7_gainOf ∈ wsT := wsT_in (tin5 (List.mem_of_getElem? (i := 47) (by decide +kernel))) (by decide +kernel)
theorem im_X7_gainOf : Cond.instanceMethod yX7_gainOf ∈ wsT := wsT_in (tin5 (List.mem_of_getElem? (i := 49) (by decide +kernel))) (by decide +kernel)
theorem cd_X7_gainOf : Cond.code yX7_gainOf cX7_gainOf 4 (some .int) ∈ wsT := wsT_in (tin5 (List.mem_of_getElem? (i := 50) (by decide +kernel))) (by decide +kernel)
theorem ml_X7_181 : Cond.methodLink RX7 181 yX7_bit ∈ wsT := wsT_in (tin5 (List.mem_of_getElem? (i := 51) (by decide +kernel))) (by decide +kernel)
theorem sm_X7_bit : Cond.static yX7_bit ∈ wsT := wsT_in (tin5 (List.mem_of_getElem? (i := 52) (by decide +kernel))) (by decide +kernel)
theorem cd_X7_bit : Cond.code yX7_bit cX7_bit 1 (some .int) ∈ wsT := wsT_in (tin5 (List.mem_of_getElem? (i := 53) (by decide +kernel))) (by decide +kernel)
theorem ml_X7_185 : Cond.methodLink RX7 185 yX7_isRising ∈ wsT := wsT_in (tin5 (List.mem_of_getElem? (i := 54) (by decide +kernel))) (by decide +kernel)
theorem im_X7_isRising : Cond.instanceMethod yX7_isRising ∈ wsT := wsT_in (tin5 (List.mem_of_getElem? (i := 56) (by decide +kernel))) (by decide +kernel)
theorem cd_X7_isRising : Cond.code yX7_isRising cX7_isRising 4 (some .boolean) ∈ wsT := wsT_in (tin5 (List.mem_of_getElem? (i := 57) (by decide +kernel))) (by decide +kernel)
theorem ml_X7_188 : Cond.methodLink RX7 188 yX7_isEven ∈ wsT := wsT_in (tin5 (List.mem_of_getElem? (i := 58) (by decide +kernel))) (by decide +kernel)
theorem im_X7_isEven : Cond.instanceMethod yX7_isEven ∈ wsT := wsT_in (tin5 (List.mem_of_getElem? (i := 60) (by decide +kernel))) (by decide +kernel)
theorem cd_X7_isEven : Cond.code yX7_isEven cX7_isEven 3 (some .boolean) ∈ wsT := wsT_in (tin5 (List.mem_of_getElem? (i := 61) (by decide +kernel))) (by decide +kernel)
theorem ml_X7_191 : Cond.methodLink RX7 191 yX7_isPlain ∈ wsT := wsT_in (tin5 (List.mem_of_getElem? (i := 62) (by decide +kernel))) (by decide +kernel)
theorem im_X7_isPlain : Cond.instanceMethod yX7_isPlain ∈ wsT := wsT_in (tin5 (List.mem_of_getElem? (i := 64) (by decide +kernel))) (by decide +kernel)
theorem cd_X7_isPlain : Cond.code yX7_isPlain cX7_isPlain 4 (some .boolean) ∈ wsT := wsT_in (tin5 (List.mem_of_getElem? (i := 65) (by decide +kernel))) (by decide +kernel)
theorem ml_L_92 : Cond.methodLink RL 92 yX7_taken ∈ wsT := wsT_in (tin5 (List.mem_of_getElem? (i := 66) (by decide +kernel))) (by decide +kernel)
theorem im_X7_taken : Cond.instanceMethod yX7_taken ∈ wsT := wsT_in (tin5 (List.mem_of_getElem? (i := 67) (by decide +kernel))) (by decide +kernel)
theorem sl_X7_taken : Cond.selects RX7 yX7_taken yX7_taken ∈ wsT := wsT_in (tin5 (List.mem_of_getElem? (i := 68) (by decide +kernel))) (by decide +kernel)
theorem cd_X7_taken : Cond.code yX7_taken cX7_taken 3 (some .int) ∈ wsT := wsT_in (tin5 (List.mem_of_getElem? (i := 69) (by decide +kernel))) (by decide +kernel)
theorem ml_X7_194 : Cond.methodLink RX7 194 yX7_isUnder ∈ wsT := wsT_in (tin5 (List.mem_of_getElem? (i := 70) (by decide +kernel))) (by decide +kernel)
theorem sm_X7_isUnder : Cond.static yX7_isUnder ∈ wsT := wsT_in (tin5 (List.mem_of_getElem? (i := 71) (by decide +kernel))) (by decide +kernel)
theorem cd_X7_isUnder : Cond.code yX7_isUnder cX7_isUnder 2 (some .boolean) ∈ wsT := wsT_in (tin5 (List.mem_of_getElem? (i := 72) (by decide +kernel))) (by decide +kernel)
theorem ml_L_96 : Cond.methodLink RL 96 yX7_value ∈ wsT := wsT_in (tin5 (List.mem_of_getElem? (i := 73) (by decide +kernel))) (by decide +kernel)
theorem im_X7_value : Cond.instanceMethod yX7_value ∈ wsT := wsT_in (tin5 (List.mem_of_getElem? (i := 74) (by decide +kernel))) (by decide +kernel)
theorem sl_X7_value : Cond.selects RX7 yX7_value yX7_value ∈ wsT := wsT_in (tin5 (List.mem_of_getElem? (i := 75) (by decide +kernel))) (by decide +kernel)
theorem cd_X7_value : Cond.code yX7_value cX7_value 3 (some .int) ∈ wsT := wsT_in (tin5 (List.mem_of_getElem? (i := 76) (by decide +kernel))) (by decide +kernel)
theorem cn_X7_197 : Cond.constant RX7 197 (-1000011) ∈ wsT := wsT_in (tin5 (List.mem_of_getElem? (i := 77) (by decide +kernel))) (by decide +kernel)
theorem ml_L_101 : Cond.methodLink RL 101 yX7_gain ∈ wsT := wsT_in (tin5 (List.mem_of_getElem? (i := 78) (by decide +kernel))) (by decide +kernel)
theorem im_X7_gain : Cond.instanceMethod yX7_gain ∈ wsT := wsT_in (tin5 (List.mem_of_getElem? (i := 79) (by decide +kernel))) (by decide +kernel)
theorem sl_X7_gain : Cond.selects RX7 yX7_gain yX7_gain ∈ wsT := wsT_in (tin5 (List.mem_of_getElem? (i := 80) (by decide +kernel))) (by decide +kernel)
theorem cd_X7_gain : Cond.code yX7_gain cX7_gain 4 (some .long) ∈ wsT := wsT_in (tin5 (List.mem_of_getElem? (i := 81) (by decide +kernel))) (by decide +kernel)
theorem cl_X7_198 : Cond.constantLong RX7 198 (-9223372036854775808) ∈ wsT := wsT_in (tin5 (List.mem_of_getElem? (i := 82) (by decide +kernel))) (by decide +kernel)
theorem ml_L_105 : Cond.methodLink RL 105 yX7_fails ∈ wsT := wsT_in (tin5 (List.mem_of_getElem? (i := 83) (by decide +kernel))) (by decide +kernel)
theorem im_X7_fails : Cond.instanceMethod yX7_fails ∈ wsT := wsT_in (tin5 (List.mem_of_getElem? (i := 84) (by decide +kernel))) (by decide +kernel)
theorem sl_X7_fails : Cond.selects RX7 yX7_fails yX7_fails ∈ wsT := wsT_in (tin5 (List.mem_of_getElem? (i := 85) (by decide +kernel))) (by decide +kernel)
theorem cd_X7_fails : Cond.code yX7_fails cX7_fails 4 (some .int) ∈ wsT := wsT_in (tin5 (List.mem_of_getElem? (i := 86) (by decide +kernel))) (by decide +kernel)
theorem cl_X7_200 : Cond.constantLong RX7 200 (2) ∈ wsT := wsT_in (tin5 (List.mem_of_getElem? (i := 87) (by decide +kernel))) (by decide +kernel)
theorem ml_L_109 : Cond.methodLink RL 109 yX7_base ∈ wsT := wsT_in (tin5 (List.mem_of_getElem? (i := 88) (by decide +kernel))) (by decide +kernel)
theorem im_X7_base : Cond.instanceMethod yX7_base ∈ wsT := wsT_in (tin5 (List.mem_of_getElem? (i := 89) (by decide +kernel))) (by decide +kernel)
theorem sl_X7_base : Cond.selects RX7 yX7_base yX7_base ∈ wsT := wsT_in (tin5 (List.mem_of_getElem? (i := 90) (by decide +kernel))) (by decide +kernel)
theorem cd_X7_base : Cond.code yX7_base cX7_base 4 (some .long) ∈ wsT := wsT_in (tin5 (List.mem_of_getElem? (i := 91) (by decide +kernel))) (by decide +kernel)
theorem ml_X7_205 : Cond.methodLink RX7 205 yX7_isOrder ∈ wsT := wsT_in (tin5 (List.mem_of_getElem? (i := 92) (by decide +kernel))) (by decide +kernel)
theorem im_X7_isOrder : Cond.instanceMethod yX7_isOrder ∈ wsT := wsT_in (tin5 (List.mem_of_getElem? (i := 94) (by decide +kernel))) (by decide +kernel)
theorem cd_X7_isOrder : Cond.code yX7_isOrder cX7_isOrder 2 (some .boolean) ∈ wsT := wsT_in (tin5 (List.mem_of_getElem? (i := 95) (by decide +kernel))) (by decide +kernel)
theorem ml_X7_202 : Cond.methodLink RX7 202 yX7_orders ∈ wsT := wsT_in (tin5 (List.mem_of_getElem? (i := 96) (by decide +kernel))) (by decide +kernel)
theorem sm_X7_orders : Cond.static yX7_orders ∈ wsT := wsT_in (tin5 (List.mem_of_getElem? (i := 97) (by decide +kernel))) (by decide +kernel)
theorem cd_X7_orders : Cond.code yX7_orders cX7_orders 1 (some .int) ∈ wsT := wsT_in (tin5 (List.mem_of_getElem? (i := 98) (by decide +kernel))) (by decide +kernel)
theorem ml_X7_208 : Cond.methodLink RX7 208 yX7_layOrder ∈ wsT := wsT_in (tin5 (List.mem_of_getElem? (i := 99) (by decide +kernel))) (by decide +kernel)
theorem im_X7_layOrder : Cond.instanceMethod yX7_layOrder ∈ wsT := wsT_in (tin5 (List.mem_of_getElem? (i := 101) (by decide +kernel))) (by decide +kernel)
theorem cd_X7_layOrder : Cond.code yX7_layOrder cX7_layOrder 8 (none : Option Jvm.ClassFile.FieldType) ∈ wsT := wsT_in (tin5 (List.mem_of_getElem? (i := 102) (by decide +kernel))) (by decide +kernel)
theorem ml_X7_212 : Cond.methodLink RX7 212 yX7_baseOf ∈ wsT := wsT_in (tin5 (List.mem_of_getElem? (i := 103) (by decide +kernel))) (by decide +kernel)
theorem im_X7_baseOf : Cond.instanceMethod yX7_baseOf ∈ wsT := wsT_in (tin5 (List.mem_of_getElem? (i := 105) (by decide +kernel))) (by decide +kernel)
theorem cd_X7_baseOf : Cond.code yX7_baseOf cX7_baseOf 5 (some .int) ∈ wsT := wsT_in (tin5 (List.mem_of_getElem? (i := 106) (by decide +kernel))) (by decide +kernel)
theorem ml_L_114 : Cond.methodLink RL 114 yX7_negative ∈ wsT := wsT_in (tin5 (List.mem_of_getElem? (i := 107) (by decide +kernel))) (by decide +kernel)
theorem im_X7_negative : Cond.instanceMethod yX7_negative ∈ wsT := wsT_in (tin5 (List.mem_of_getElem? (i := 108) (by decide +kernel))) (by decide +kernel)
theorem sl_X7_negative : Cond.selects RX7 yX7_negative yX7_negative ∈ wsT := wsT_in (tin5 (List.mem_of_getElem? (i := 109) (by decide +kernel))) (by decide +kernel)
theorem cd_X7_negative : Cond.code yX7_negative cX7_negative 5 (some .long) ∈ wsT := wsT_in (tin5 (List.mem_of_getElem? (i := 110) (by decide +kernel))) (by decide +kernel)
theorem ml_L_118 : Cond.methodLink RL 118 yX7_based ∈ wsT := wsT_in (tin5 (List.mem_of_getElem? (i := 111) (by decide +kernel))) (by decide +kernel)
theorem im_X7_based : Cond.instanceMethod yX7_based ∈ wsT := wsT_in (tin5 (List.mem_of_getElem? (i := 112) (by decide +kernel))) (by decide +kernel)
theorem sl_X7_based : Cond.selects RX7 yX7_based yX7_based ∈ wsT := wsT_in (tin5 (List.mem_of_getElem? (i := 113) (by decide +kernel))) (by decide +kernel)
theorem cd_X7_based : Cond.code yX7_based cX7_based 7 (some .int) ∈ wsT := wsT_in (tin5 (List.mem_of_getElem? (i := 114) (by decide +kernel))) (by decide +kernel)
theorem cl_X7_218 : Cond.constantLong RX7 218 (3) ∈ wsT := wsT_in (tin5 (List.mem_of_getElem? (i := 115) (by decide +kernel))) (by decide +kernel)
theorem ml_X7_220 : Cond.methodLink RX7 220 yX7_isBase ∈ wsT := wsT_in (tin5 (List.mem_of_getElem? (i := 116) (by decide +kernel))) (by decide +kernel)
theorem im_X7_isBase : Cond.instanceMethod yX7_isBase ∈ wsT := wsT_in (tin5 (List.mem_of_getElem? (i := 118) (by decide +kernel))) (by decide +kernel)
theorem cd_X7_isBase : Cond.code yX7_isBase cX7_isBase 3 (some .boolean) ∈ wsT := wsT_in (tin5 (List.mem_of_getElem? (i := 119) (by decide +kernel))) (by decide +kernel)
theorem ml_X7_215 : Cond.methodLink RX7 215 yX7_spare ∈ wsT := wsT_in (tin5 (List.mem_of_getElem? (i := 120) (by decide +kernel))) (by decide +kernel)
theorem im_X7_spare : Cond.instanceMethod yX7_spare ∈ wsT := wsT_in (tin5 (List.mem_of_getElem? (i := 122) (by decide +kernel))) (by decide +kernel)
theorem cd_X7_spare : Cond.code yX7_spare cX7_spare 3 (some .int) ∈ wsT := wsT_in (tin5 (List.mem_of_getElem? (i := 123) (by decide +kernel))) (by decide +kernel)
theorem ml_L_123 : Cond.methodLink RL 123 yX7_least ∈ wsT := wsT_in (tin5 (List.mem_of_getElem? (i := 124) (by decide +kernel))) (by decide +kernel)
theorem im_X7_least : Cond.instanceMethod yX7_least ∈ wsT := wsT_in (tin5 (List.mem_of_getElem? (i := 125) (by decide +kernel))) (by decide +kernel)
theorem sl_X7_least : Cond.selects RX7 yX7_least yX7_least ∈ wsT := wsT_in (tin5 (List.mem_of_getElem? (i := 126) (by decide +kernel))) (by decide +kernel)
theorem cd_X7_least : Cond.code yX7_least cX7_least 2 (some .long) ∈ wsT := wsT_in (tin5 (List.mem_of_getElem? (i := 127) (by decide +kernel))) (by decide +kernel)
theorem ml_X7_223 : Cond.methodLink RX7 223 yX7_leastOf ∈ wsT := wsT_in (tin5 (List.mem_of_getElem? (i := 128) (by decide +kernel))) (by decide +kernel)
theorem im_X7_leastOf : Cond.instanceMethod yX7_leastOf ∈ wsT := wsT_in (tin5 (List.mem_of_getElem? (i := 130) (by decide +kernel))) (by decide +kernel)
theorem cd_X7_leastOf : Cond.code yX7_leastOf cX7_leastOf 4 (some .int) ∈ wsT := wsT_in (tin5 (List.mem_of_getElem? (i := 131) (by decide +kernel))) (by decide +kernel)
theorem ml_L_127 : Cond.methodLink RL 127 yX7_leastSets ∈ wsT := wsT_in (tin5 (List.mem_of_getElem? (i := 132) (by decide +kernel))) (by decide +kernel)
theorem im_X7_leastSets : Cond.instanceMethod yX7_leastSets ∈ wsT := wsT_in (tin5 (List.mem_of_getElem? (i := 133) (by decide +kernel))) (by decide +kernel)
theorem sl_X7_leastSets : Cond.selects RX7 yX7_leastSets yX7_leastSets ∈ wsT := wsT_in (tin5 (List.mem_of_getElem? (i := 134) (by decide +kernel))) (by decide +kernel)
theorem cd_X7_leastSets : Cond.code yX7_leastSets cX7_leastSets 8 (some .int) ∈ wsT := wsT_in (tin5 (List.mem_of_getElem? (i := 135) (by decide +kernel))) (by decide +kernel)
theorem ml_X7_226 : Cond.methodLink RX7 226 yX7_areClosed ∈ wsT := wsT_in (tin5 (List.mem_of_getElem? (i := 136) (by decide +kernel))) (by decide +kernel)
theorem im_X7_areClosed : Cond.instanceMethod yX7_areClosed ∈ wsT := wsT_in (tin5 (List.mem_of_getElem? (i := 138) (by decide +kernel))) (by decide +kernel)
theorem cd_X7_areClosed : Cond.code yX7_areClosed cX7_areClosed 5 (some .boolean) ∈ wsT := wsT_in (tin5 (List.mem_of_getElem? (i := 139) (by decide +kernel))) (by decide +kernel)
theorem ml_L_131 : Cond.methodLink RL 131 yX7_ring ∈ wsT := wsT_in (tin5 (List.mem_of_getElem? (i := 140) (by decide +kernel))) (by decide +kernel)
theorem im_X7_ring : Cond.instanceMethod yX7_ring ∈ wsT := wsT_in (tin5 (List.mem_of_getElem? (i := 141) (by decide +kernel))) (by decide +kernel)
theorem sl_X7_ring : Cond.selects RX7 yX7_ring yX7_ring ∈ wsT := wsT_in (tin5 (List.mem_of_getElem? (i := 142) (by decide +kernel))) (by decide +kernel)
theorem cd_X7_ring : Cond.code yX7_ring cX7_ring 6 (some .int) ∈ wsT := wsT_in (tin5 (List.mem_of_getElem? (i := 143) (by decide +kernel))) (by decide +kernel)
theorem ml_L_135 : Cond.methodLink RL 135 yX7_level ∈ wsT := wsT_in (tin5 (List.mem_of_getElem? (i := 144) (by decide +kernel))) (by decide +kernel)
theorem im_X7_level : Cond.instanceMethod yX7_level ∈ wsT := wsT_in (tin5 (List.mem_of_getElem? (i := 145) (by decide +kernel))) (by decide +kernel)
theorem sl_X7_level : Cond.selects RX7 yX7_level yX7_level ∈ wsT := wsT_in (tin5 (List.mem_of_getElem? (i := 146) (by decide +kernel))) (by decide +kernel)
theorem cd_X7_level : Cond.code yX7_level cX7_level 3 (some .int) ∈ wsT := wsT_in (tin5 (List.mem_of_getElem? (i := 147) (by decide +kernel))) (by decide +kernel)
theorem ml_X7_238 : Cond.methodLink RX7 238 yX7_layLevels ∈ wsT := wsT_in (tin5 (List.mem_of_getElem? (i := 148) (by decide +kernel))) (by decide +kernel)
theorem im_X7_layLevels : Cond.instanceMethod yX7_layLevels ∈ wsT := wsT_in (tin5 (List.mem_of_getElem? (i := 150) (by decide +kernel))) (by decide +kernel)
theorem cd_X7_layLevels : Cond.code yX7_layLevels cX7_layLevels 5 (none : Option Jvm.ClassFile.FieldType) ∈ wsT := wsT_in (tin5 (List.mem_of_getElem? (i := 151) (by decide +kernel))) (by decide +kernel)
theorem ml_X7_235 : Cond.methodLink RX7 235 yX7_isLower ∈ wsT := wsT_in (tin5 (List.mem_of_getElem? (i := 152) (by decide +kernel))) (by decide +kernel)
theorem im_X7_isLower : Cond.instanceMethod yX7_isLower ∈ wsT := wsT_in (tin5 (List.mem_of_getElem? (i := 154) (by decide +kernel))) (by decide +kernel)
theorem cd_X7_isLower : Cond.code yX7_isLower cX7_isLower 9 (some .boolean) ∈ wsT := wsT_in (tin5 (List.mem_of_getElem? (i := 155) (by decide +kernel))) (by decide +kernel)
theorem ml_X7_229 : Cond.methodLink RX7 229 yX7_many ∈ wsT := wsT_in (tin5 (List.mem_of_getElem? (i := 156) (by decide +kernel))) (by decide +kernel)
theorem sm_X7_many : Cond.static yX7_many ∈ wsT := wsT_in (tin5 (List.mem_of_getElem? (i := 157) (by decide +kernel))) (by decide +kernel)
theorem cd_X7_many : Cond.code yX7_many cX7_many 1 (some .int) ∈ wsT := wsT_in (tin5 (List.mem_of_getElem? (i := 158) (by decide +kernel))) (by decide +kernel)
theorem ml_X7_90 : Cond.methodLink RX7 90 yJ6_bitCount_0f7a4 ∈ wsT := wsT_in (tin5 (List.mem_of_getElem? (i := 159) (by decide +kernel))) (by decide +kernel)
theorem ml_L_139 : Cond.methodLink RL 139 yX7_height ∈ wsT := wsT_in (tin5 (List.mem_of_getElem? (i := 160) (by decide +kernel))) (by decide +kernel)
theorem im_X7_height : Cond.instanceMethod yX7_height ∈ wsT := wsT_in (tin5 (List.mem_of_getElem? (i := 161) (by decide +kernel))) (by decide +kernel)
theorem sl_X7_height : Cond.selects RX7 yX7_height yX7_height ∈ wsT := wsT_in (tin5 (List.mem_of_getElem? (i := 162) (by decide +kernel))) (by decide +kernel)
theorem cd_X7_height : Cond.code yX7_height cX7_height 7 (some .long) ∈ wsT := wsT_in (tin5 (List.mem_of_getElem? (i := 163) (by decide +kernel))) (by decide +kernel)
theorem ml_X7_244 : Cond.methodLink RX7 244 Lib.Math.abs.name ∈ wsT := wsT_in (tin5 (List.mem_of_getElem? (i := 164) (by decide +kernel))) (by decide +kernel)
theorem ml_X7_241 : Cond.methodLink RX7 241 yX7_common ∈ wsT := wsT_in (tin5 (List.mem_of_getElem? (i := 165) (by decide +kernel))) (by decide +kernel)
theorem sm_X7_common : Cond.static yX7_common ∈ wsT := wsT_in (tin5 (List.mem_of_getElem? (i := 166) (by decide +kernel))) (by decide +kernel)
theorem cd_X7_common : Cond.code yX7_common cX7_common 2 (some .int) ∈ wsT := wsT_in (tin5 (List.mem_of_getElem? (i := 167) (by decide +kernel))) (by decide +kernel)
theorem ml_L_143 : Cond.methodLink RL 143 yX7_wall ∈ wsT := wsT_in (tin5 (List.mem_of_getElem? (i := 168) (by decide +kernel))) (by decide +kernel)
theorem im_X7_wall : Cond.instanceMethod yX7_wall ∈ wsT := wsT_in (tin5 (List.mem_of_getElem? (i := 169) (by decide +kernel))) (by decide +kernel)
theorem sl_X7_wall : Cond.selects RX7 yX7_wall yX7_wall ∈ wsT := wsT_in (tin5 (List.mem_of_getElem? (i := 170) (by decide +kernel))) (by decide +kernel)
theorem cd_X7_wall : Cond.code yX7_wall cX7_wall 4 (some .int) ∈ wsT := wsT_in (tin5 (List.mem_of_getElem? (i := 171) (by decide +kernel))) (by decide +kernel)
theorem ml_X7_247 : Cond.methodLink RX7 247 yX7_areUnlike ∈ wsT := wsT_in (tin5 (List.mem_of_getElem? (i := 172) (by decide +kernel))) (by decide +kernel)
theorem im_X7_areUnlike : Cond.instanceMethod yX7_areUnlike ∈ wsT := wsT_in (tin5 (List.mem_of_getElem? (i := 174) (by decide +kernel))) (by decide +kernel)
theorem cd_X7_areUnlike : Cond.code yX7_areUnlike cX7_areUnlike 3 (some .boolean) ∈ wsT := wsT_in (tin5 (List.mem_of_getElem? (i := 175) (by decide +kernel))) (by decide +kernel)
theorem ml_X7_250 : Cond.methodLink RX7 250 yX7_wallOf ∈ wsT := wsT_in (tin5 (List.mem_of_getElem? (i := 176) (by decide +kernel))) (by decide +kernel)
theorem im_X7_wallOf : Cond.instanceMethod yX7_wallOf ∈ wsT := wsT_in (tin5 (List.mem_of_getElem? (i := 178) (by decide +kernel))) (by decide +kernel)
theorem cd_X7_wallOf : Cond.code yX7_wallOf cX7_wallOf 6 (some .int) ∈ wsT := wsT_in (tin5 (List.mem_of_getElem? (i := 179) (by decide +kernel))) (by decide +kernel)
theorem ml_L_147 : Cond.methodLink RL 147 yX7_wallValue ∈ wsT := wsT_in (tin5 (List.mem_of_getElem? (i := 180) (by decide +kernel))) (by decide +kernel)
theorem im_X7_wallValue : Cond.instanceMethod yX7_wallValue ∈ wsT := wsT_in (tin5 (List.mem_of_getElem? (i := 181) (by decide +kernel))) (by decide +kernel)
theorem sl_X7_wallValue : Cond.selects RX7 yX7_wallValue yX7_wallValue ∈ wsT := wsT_in (tin5 (List.mem_of_getElem? (i := 182) (by decide +kernel))) (by decide +kernel)
theorem cd_X7_wallValue : Cond.code yX7_wallValue cX7_wallValue 4 (some .long) ∈ wsT := wsT_in (tin5 (List.mem_of_getElem? (i := 183) (by decide +kernel))) (by decide +kernel)
theorem ml_L_151 : Cond.methodLink RL 151 yX7_most ∈ wsT := wsT_in (tin5 (List.mem_of_getElem? (i := 184) (by decide +kernel))) (by decide +kernel)
theorem im_X7_most : Cond.instanceMethod yX7_most ∈ wsT := wsT_in (tin5 (List.mem_of_getElem? (i := 185) (by decide +kernel))) (by decide +kernel)
theorem sl_X7_most : Cond.selects RX7 yX7_most yX7_most ∈ wsT := wsT_in (tin5 (List.mem_of_getElem? (i := 186) (by decide +kernel))) (by decide +kernel)
theorem cd_X7_most : Cond.code yX7_most cX7_most 4 (some .int) ∈ wsT := wsT_in (tin5 (List.mem_of_getElem? (i := 187) (by decide +kernel))) (by decide +kernel)
theorem ml_X7_253 : Cond.methodLink RX7 253 yX7_greed ∈ wsT := wsT_in (tin5 (List.mem_of_getElem? (i := 188) (by decide +kernel))) (by decide +kernel)
theorem im_X7_greed : Cond.instanceMethod yX7_greed ∈ wsT := wsT_in (tin5 (List.mem_of_getElem? (i := 190) (by decide +kernel))) (by decide +kernel)
theorem cd_X7_greed : Cond.code yX7_greed cX7_greed 7 (some .int) ∈ wsT := wsT_in (tin5 (List.mem_of_getElem? (i := 191) (by decide +kernel))) (by decide +kernel)
theorem ml_X7_256 : Cond.methodLink RX7 256 yX7_best ∈ wsT := wsT_in (tin5 (List.mem_of_getElem? (i := 192) (by decide +kernel))) (by decide +kernel)
theorem im_X7_best : Cond.instanceMethod yX7_best ∈ wsT := wsT_in (tin5 (List.mem_of_getElem? (i := 194) (by decide +kernel))) (by decide +kernel)
theorem cd_X7_best : Cond.code yX7_best cX7_best 5 (some .int) ∈ wsT := wsT_in (tin5 (List.mem_of_getElem? (i := 195) (by decide +kernel))) (by decide +kernel)
theorem ml_L_155 : Cond.methodLink RL 155 yX7_feed ∈ wsT := wsT_in (tin5 (List.mem_of_getElem? (i := 196) (by decide +kernel))) (by decide +kernel)
theorem im_X7_feed : Cond.instanceMethod yX7_feed ∈ wsT := wsT_in (tin5 (List.mem_of_getElem? (i := 197) (by decide +kernel))) (by decide +kernel)
theorem sl_X7_feed : Cond.selects RX7 yX7_feed yX7_feed ∈ wsT := wsT_in (tin5 (List.mem_of_getElem? (i := 198) (by decide +kernel))) (by decide +kernel)
theorem cd_X7_feed : Cond.code yX7_feed cX7_feed 2 (some .int) ∈ wsT := wsT_in (tin5 (List.mem_of_getElem? (i := 199) (by decide +kernel))) (by decide +kernel)
theorem cl_X7_259 : Cond.constantLong RX7 259 (127) ∈ wsT := wsT_in (tin5 (List.mem_of_getElem? (i := 200) (by decide +kernel))) (by decide +kernel)
theorem ml_L_160 : Cond.methodLink RL 160 yX7_deeds ∈ wsT := wsT_in (tin5 (List.mem_of_getElem? (i := 201) (by decide +kernel))) (by decide +kernel)
theorem im_X7_deeds : Cond.instanceMethod yX7_deeds ∈ wsT := wsT_in (tin5 (List.mem_of_getElem? (i := 202) (by decide +kernel))) (by decide +kernel)
theorem sl_X7_deeds : Cond.selects RX7 yX7_deeds yX7_deeds ∈ wsT := wsT_in (tin5 (List.mem_of_getElem? (i := 203) (by decide +kernel))) (by decide +kernel)
theorem cd_X7_deeds : Cond.code yX7_deeds cX7_deeds 4 (some .int) ∈ wsT := wsT_in (tin5 (List.mem_of_getElem? (i := 204) (by decide +kernel))) (by decide +kernel)
theorem ml_X7_347 : Cond.methodLink RX7 347 yX7_takesAll ∈ wsT := wsT_in (tin5 (List.mem_of_getElem? (i := 205) (by decide +kernel))) (by decide +kernel)
theorem im_X7_takesAll : Cond.instanceMethod yX7_takesAll ∈ wsT := wsT_in (tin5 (List.mem_of_getElem? (i := 207) (by decide +kernel))) (by decide +kernel)
theorem cd_X7_takesAll : Cond.code yX7_takesAll cX7_takesAll 1 (some .boolean) ∈ wsT := wsT_in (tin5 (List.mem_of_getElem? (i := 208) (by decide +kernel))) (by decide +kernel)
theorem ml_X7_321 : Cond.methodLink RX7 321 yX7_takesDeed ∈ wsT := wsT_in (tin5 (List.mem_of_getElem? (i := 209) (by decide +kernel))) (by decide +kernel)
theorem im_X7_takesDeed : Cond.instanceMethod yX7_takesDeed ∈ wsT := wsT_in (tin5 (List.mem_of_getElem? (i := 211) (by decide +kernel))) (by decide +kernel)
theorem cd_X7_takesDeed : Cond.code yX7_takesDeed cX7_takesDeed 2 (some .boolean) ∈ wsT := wsT_in (tin5 (List.mem_of_getElem? (i := 212) (by decide +kernel))) (by decide +kernel)
theorem ml_X7_312 : Cond.methodLink RX7 312 yX7_takesWord ∈ wsT := wsT_in (tin5 (List.mem_of_getElem? (i := 213) (by decide +kernel))) (by decide +kernel)
theorem im_X7_takesWord : Cond.instanceMethod yX7_takesWord ∈ wsT := wsT_in (tin5 (List.mem_of_getElem? (i := 215) (by decide +kernel))) (by decide +kernel)
theorem cd_X7_takesWord : Cond.code yX7_takesWord cX7_takesWord 3 (some .boolean) ∈ wsT := wsT_in (tin5 (List.mem_of_getElem? (i := 216) (by decide +kernel))) (by decide +kernel)
theorem ml_X7_302 : Cond.methodLink RX7 302 yX7_isAt ∈ wsT := wsT_in (tin5 (List.mem_of_getElem? (i := 217) (by decide +kernel))) (by decide +kernel)
theorem im_X7_isAt : Cond.instanceMethod yX7_isAt ∈ wsT := wsT_in (tin5 (List.mem_of_getElem? (i := 219) (by decide +kernel))) (by decide +kernel)
theorem cd_X7_isAt : Cond.code yX7_isAt cX7_isAt 3 (some .boolean) ∈ wsT := wsT_in (tin5 (List.mem_of_getElem? (i := 220) (by decide +kernel))) (by decide +kernel)
theorem ml_X7_306 : Cond.methodLink RX7 306 yX7_isWord ∈ wsT := wsT_in (tin5 (List.mem_of_getElem? (i := 221) (by decide +kernel))) (by decide +kernel)
theorem im_X7_isWord : Cond.instanceMethod yX7_isWord ∈ wsT := wsT_in (tin5 (List.mem_of_getElem? (i := 223) (by decide +kernel))) (by decide +kernel)
theorem cd_X7_isWord : Cond.code yX7_isWord cX7_isWord 6 (some .boolean) ∈ wsT := wsT_in (tin5 (List.mem_of_getElem? (i := 224) (by decide +kernel))) (by decide +kernel)
theorem ml_X7_289 : Cond.methodLink RX7 289 yX7_wordOf ∈ wsT := wsT_in (tin5 (List.mem_of_getElem? (i := 225) (by decide +kernel))) (by decide +kernel)
theorem sm_X7_wordOf : Cond.static yX7_wordOf ∈ wsT := wsT_in (tin5 (List.mem_of_getElem? (i := 226) (by decide +kernel))) (by decide +kernel)
theorem cd_X7_wordOf : Cond.code yX7_wordOf cX7_wordOf 1 (some (.object "java/lang/String" )) ∈ wsT := wsT_in (tin5 (List.mem_of_getElem? (i := 227) (by decide +kernel))) (by decide +kernel)
theorem ml_X7_293 : Cond.methodLink RX7 293 yJ0_length_8abf5 ∈ wsT := wsT_in (tin5 (List.mem_of_getElem? (i := 239) (by decide +kernel))) (by decide +kernel)
theorem ml_X7_298 : Cond.methodLink RX7 298 yJ0_charAt_5068e ∈ wsT := wsT_in (tin6 (List.mem_of_getElem? (i := 0) (by decide +kernel))) (by decide +kernel)
theorem ml_X7_315 : Cond.methodLink RX7 315 yX7_manyOf ∈ wsT := wsT_in (tin6 (List.mem_of_getElem? (i := 1) (by decide +kernel))) (by decide +kernel)
theorem sm_X7_manyOf : Cond.static yX7_manyOf ∈ wsT := wsT_in (tin6 (List.mem_of_getElem? (i := 2) (by decide +kernel))) (by decide +kernel)
theorem cd_X7_manyOf : Cond.code yX7_manyOf cX7_manyOf 1 (some .int) ∈ wsT := wsT_in (tin6 (List.mem_of_getElem? (i := 3) (by decide +kernel))) (by decide +kernel)
theorem ml_X7_318 : Cond.methodLink RX7 318 yX7_takesNumber ∈ wsT := wsT_in (tin6 (List.mem_of_getElem? (i := 4) (by decide +kernel))) (by decide +kernel)
theorem im_X7_takesNumber : Cond.instanceMethod yX7_takesNumber ∈ wsT := wsT_in (tin6 (List.mem_of_getElem? (i := 6) (by decide +kernel))) (by decide +kernel)
theorem cd_X7_takesNumber : Cond.code yX7_takesNumber cX7_takesNumber 5 (some .boolean) ∈ wsT := wsT_in (tin6 (List.mem_of_getElem? (i := 7) (by decide +kernel))) (by decide +kernel)
theorem ml_X7_350 : Cond.methodLink RX7 350 yX7_isDone ∈ wsT := wsT_in (tin6 (List.mem_of_getElem? (i := 8) (by decide +kernel))) (by decide +kernel)
theorem im_X7_isDone : Cond.instanceMethod yX7_isDone ∈ wsT := wsT_in (tin6 (List.mem_of_getElem? (i := 10) (by decide +kernel))) (by decide +kernel)
theorem cd_X7_isDone : Cond.code yX7_isDone cX7_isDone 5 (some .boolean) ∈ wsT := wsT_in (tin6 (List.mem_of_getElem? (i := 11) (by decide +kernel))) (by decide +kernel)
theorem ml_X7_324 : Cond.methodLink RX7 324 yX7_arc ∈ wsT := wsT_in (tin6 (List.mem_of_getElem? (i := 12) (by decide +kernel))) (by decide +kernel)
theorem ml_X7_326 : Cond.methodLink RX7 326 yX7_item ∈ wsT := wsT_in (tin6 (List.mem_of_getElem? (i := 13) (by decide +kernel))) (by decide +kernel)
theorem ml_X7_328 : Cond.methodLink RX7 328 yX7_sum ∈ wsT := wsT_in (tin6 (List.mem_of_getElem? (i := 14) (by decide +kernel))) (by decide +kernel)
theorem ml_X7_330 : Cond.methodLink RX7 330 yX7_block ∈ wsT := wsT_in (tin6 (List.mem_of_getElem? (i := 15) (by decide +kernel))) (by decide +kernel)
theorem ml_X7_332 : Cond.methodLink RX7 332 yX7_cap ∈ wsT := wsT_in (tin6 (List.mem_of_getElem? (i := 16) (by decide +kernel))) (by decide +kernel)
theorem ml_X7_334 : Cond.methodLink RX7 334 yX7_weight ∈ wsT := wsT_in (tin6 (List.mem_of_getElem? (i := 17) (by decide +kernel))) (by decide +kernel)
theorem cn_X7_336 : Cond.constant RX7 336 (-1000000) ∈ wsT := wsT_in (tin6 (List.mem_of_getElem? (i := 18) (by decide +kernel))) (by decide +kernel)
theorem ml_X7_337 : Cond.methodLink RX7 337 yX7_turn ∈ wsT := wsT_in (tin6 (List.mem_of_getElem? (i := 19) (by decide +kernel))) (by decide +kernel)
theorem ml_X7_339 : Cond.methodLink RX7 339 yX7_cut ∈ wsT := wsT_in (tin6 (List.mem_of_getElem? (i := 20) (by decide +kernel))) (by decide +kernel)
theorem ml_X7_341 : Cond.methodLink RX7 341 yX7_cover ∈ wsT := wsT_in (tin6 (List.mem_of_getElem? (i := 21) (by decide +kernel))) (by decide +kernel)
theorem ml_X7_343 : Cond.methodLink RX7 343 yX7_capped ∈ wsT := wsT_in (tin6 (List.mem_of_getElem? (i := 22) (by decide +kernel))) (by decide +kernel)
theorem ml_X7_345 : Cond.methodLink RX7 345 yX7_weighed ∈ wsT := wsT_in (tin6 (List.mem_of_getElem? (i := 23) (by decide +kernel))) (by decide +kernel)
theorem ml_L_164 : Cond.methodLink RL 164 yX7_write ∈ wsT := wsT_in (tin6 (List.mem_of_getElem? (i := 24) (by decide +kernel))) (by decide +kernel)
theorem im_X7_write : Cond.instanceMethod yX7_write ∈ wsT := wsT_in (tin6 (List.mem_of_getElem? (i := 25) (by decide +kernel))) (by decide +kernel)
theorem sl_X7_write : Cond.selects RX7 yX7_write yX7_write ∈ wsT := wsT_in (tin6 (List.mem_of_getElem? (i := 26) (by decide +kernel))) (by decide +kernel)
theorem cd_X7_write : Cond.code yX7_write cX7_write 3 (some .int) ∈ wsT := wsT_in (tin6 (List.mem_of_getElem? (i := 27) (by decide +kernel))) (by decide +kernel)
theorem ml_X7_356 : Cond.methodLink RX7 356 yX7_says ∈ wsT := wsT_in (tin6 (List.mem_of_getElem? (i := 28) (by decide +kernel))) (by decide +kernel)
theorem im_X7_says : Cond.instanceMethod yX7_says ∈ wsT := wsT_in (tin6 (List.mem_of_getElem? (i := 30) (by decide +kernel))) (by decide +kernel)
theorem cd_X7_says : Cond.code yX7_says cX7_says 2 (none : Option Jvm.ClassFile.FieldType) ∈ wsT := wsT_in (tin6 (List.mem_of_getElem? (i := 31) (by decide +kernel))) (by decide +kernel)
theorem ml_X7_359 : Cond.methodLink RX7 359 yX7_saysNumber ∈ wsT := wsT_in (tin6 (List.mem_of_getElem? (i := 32) (by decide +kernel))) (by decide +kernel)
theorem im_X7_saysNumber : Cond.instanceMethod yX7_saysNumber ∈ wsT := wsT_in (tin6 (List.mem_of_getElem? (i := 34) (by decide +kernel))) (by decide +kernel)
theorem cd_X7_saysNumber : Cond.code yX7_saysNumber cX7_saysNumber 3 (none : Option Jvm.ClassFile.FieldType) ∈ wsT := wsT_in (tin6 (List.mem_of_getElem? (i := 35) (by decide +kernel))) (by decide +kernel)
theorem ml_L_168 : Cond.methodLink RL 168 yX7_paper ∈ wsT := wsT_in (tin6 (List.mem_of_getElem? (i := 36) (by decide +kernel))) (by decide +kernel)
theorem im_X7_paper : Cond.instanceMethod yX7_paper ∈ wsT := wsT_in (tin6 (List.mem_of_getElem? (i := 37) (by decide +kernel))) (by decide +kernel)
theorem sl_X7_paper : Cond.selects RX7 yX7_paper yX7_paper ∈ wsT := wsT_in (tin6 (List.mem_of_getElem? (i := 38) (by decide +kernel))) (by decide +kernel)
theorem cd_X7_paper : Cond.code yX7_paper cX7_paper 2 (some .int) ∈ wsT := wsT_in (tin6 (List.mem_of_getElem? (i := 39) (by decide +kernel))) (by decide +kernel)
theorem ml_L_172 : Cond.methodLink RL 172 yX7_list ∈ wsT := wsT_in (tin6 (List.mem_of_getElem? (i := 40) (by decide +kernel))) (by decide +kernel)
theorem im_X7_list : Cond.instanceMethod yX7_list ∈ wsT := wsT_in (tin6 (List.mem_of_getElem? (i := 41) (by decide +kernel))) (by decide +kernel)
theorem sl_X7_list : Cond.selects RX7 yX7_list yX7_list ∈ wsT := wsT_in (tin6 (List.mem_of_getElem? (i := 42) (by decide +kernel))) (by decide +kernel)
theorem cd_X7_list : Cond.code yX7_list cX7_list 4 (some .int) ∈ wsT := wsT_in (tin6 (List.mem_of_getElem? (i := 43) (by decide +kernel))) (by decide +kernel)
theorem ml_X7_362 : Cond.methodLink RX7 362 yX7_isList ∈ wsT := wsT_in (tin6 (List.mem_of_getElem? (i := 44) (by decide +kernel))) (by decide +kernel)
theorem sm_X7_isList : Cond.static yX7_isList ∈ wsT := wsT_in (tin6 (List.mem_of_getElem? (i := 45) (by decide +kernel))) (by decide +kernel)
theorem cd_X7_isList : Cond.code yX7_isList cX7_isList 1 (some .boolean) ∈ wsT := wsT_in (tin6 (List.mem_of_getElem? (i := 46) (by decide +kernel))) (by decide +kernel)
theorem ml_L_176 : Cond.methodLink RL 176 yX7_put ∈ wsT := wsT_in (tin6 (List.mem_of_getElem? (i := 47) (by decide +kernel))) (by decide +kernel)
theorem im_X7_put : Cond.instanceMethod yX7_put ∈ wsT := wsT_in (tin6 (List.mem_of_getElem? (i := 48) (by decide +kernel))) (by decide +kernel)
theorem sl_X7_put : Cond.selects RX7 yX7_put yX7_put ∈ wsT := wsT_in (tin6 (List.mem_of_getElem? (i := 49) (by decide +kernel))) (by decide +kernel)
theorem cd_X7_put : Cond.code yX7_put cX7_put 4 (some .int) ∈ wsT := wsT_in (tin6 (List.mem_of_getElem? (i := 50) (by decide +kernel))) (by decide +kernel)
theorem ml_L_180 : Cond.methodLink RL 180 yX7_get ∈ wsT := wsT_in (tin6 (List.mem_of_getElem? (i := 51) (by decide +kernel))) (by decide +kernel)
theorem im_X7_get : Cond.instanceMethod yX7_get ∈ wsT := wsT_in (tin6 (List.mem_of_getElem? (i := 52) (by decide +kernel))) (by decide +kernel)
theorem sl_X7_get : Cond.selects RX7 yX7_get yX7_get ∈ wsT := wsT_in (tin6 (List.mem_of_getElem? (i := 53) (by decide +kernel))) (by decide +kernel)
theorem cd_X7_get : Cond.code yX7_get cX7_get 3 (some .long) ∈ wsT := wsT_in (tin6 (List.mem_of_getElem? (i := 54) (by decide +kernel))) (by decide +kernel)
theorem ml_L_184 : Cond.methodLink RL 184 yX7_lay ∈ wsT := wsT_in (tin6 (List.mem_of_getElem? (i := 55) (by decide +kernel))) (by decide +kernel)
theorem im_X7_lay : Cond.instanceMethod yX7_lay ∈ wsT := wsT_in (tin6 (List.mem_of_getElem? (i := 56) (by decide +kernel))) (by decide +kernel)
theorem sl_X7_lay : Cond.selects RX7 yX7_lay yX7_lay ∈ wsT := wsT_in (tin6 (List.mem_of_getElem? (i := 57) (by decide +kernel))) (by decide +kernel)
theorem cd_X7_lay : Cond.code yX7_lay cX7_lay 5 (some .int) ∈ wsT := wsT_in (tin6 (List.mem_of_getElem? (i := 58) (by decide +kernel))) (by decide +kernel)
theorem ml_L_188 : Cond.methodLink RL 188 yX7_judge ∈ wsT := wsT_in (tin6 (List.mem_of_getElem? (i := 59) (by decide +kernel))) (by decide +kernel)
theorem im_X7_judge : Cond.instanceMethod yX7_judge ∈ wsT := wsT_in (tin6 (List.mem_of_getElem? (i := 60) (by decide +kernel))) (by decide +kernel)
theorem sl_X7_judge : Cond.selects RX7 yX7_judge yX7_judge ∈ wsT := wsT_in (tin6 (List.mem_of_getElem? (i := 61) (by decide +kernel))) (by decide +kernel)
theorem cd_X7_judge : Cond.code yX7_judge cX7_judge 4 (some .int) ∈ wsT := wsT_in (tin6 (List.mem_of_getElem? (i := 62) (by decide +kernel))) (by decide +kernel)
theorem ml_L_192 : Cond.methodLink RL 192 yX7_image ∈ wsT := wsT_in (tin6 (List.mem_of_getElem? (i := 63) (by decide +kernel))) (by decide +kernel)
theorem im_X7_image : Cond.instanceMethod yX7_image ∈ wsT := wsT_in (tin6 (List.mem_of_getElem? (i := 64) (by decide +kernel))) (by decide +kernel)
theorem sl_X7_image : Cond.selects RX7 yX7_image yX7_image ∈ wsT := wsT_in (tin6 (List.mem_of_getElem? (i := 65) (by decide +kernel))) (by decide +kernel)
theorem cd_X7_image : Cond.code yX7_image cX7_image 2 (some .int) ∈ wsT := wsT_in (tin6 (List.mem_of_getElem? (i := 66) (by decide +kernel))) (by decide +kernel)
theorem ml_X7_372 : Cond.methodLink RX7 372 yX7_rowOf ∈ wsT := wsT_in (tin6 (List.mem_of_getElem? (i := 67) (by decide +kernel))) (by decide +kernel)
theorem im_X7_rowOf : Cond.instanceMethod yX7_rowOf ∈ wsT := wsT_in (tin6 (List.mem_of_getElem? (i := 69) (by decide +kernel))) (by decide +kernel)
theorem cd_X7_rowOf : Cond.code yX7_rowOf cX7_rowOf 2 (some (.array .int)) ∈ wsT := wsT_in (tin6 (List.mem_of_getElem? (i := 70) (by decide +kernel))) (by decide +kernel)
theorem ml_X7_376 : Cond.methodLink RX7 376 arraycopyName ∈ wsT := wsT_in (tin6 (List.mem_of_getElem? (i := 71) (by decide +kernel))) (by decide +kernel)
theorem ml_X7_382 : Cond.methodLink RX7 382 yX7_functions ∈ wsT := wsT_in (tin6 (List.mem_of_getElem? (i := 72) (by decide +kernel))) (by decide +kernel)
theorem im_X7_functions : Cond.instanceMethod yX7_functions ∈ wsT := wsT_in (tin6 (List.mem_of_getElem? (i := 74) (by decide +kernel))) (by decide +kernel)
theorem cd_X7_functions : Cond.code yX7_functions cX7_functions 3 (some .int) ∈ wsT := wsT_in (tin6 (List.mem_of_getElem? (i := 75) (by decide +kernel))) (by decide +kernel)
theorem ml_L_196 : Cond.methodLink RL 196 yX7_back ∈ wsT := wsT_in (tin6 (List.mem_of_getElem? (i := 76) (by decide +kernel))) (by decide +kernel)
theorem im_X7_back : Cond.instanceMethod yX7_back ∈ wsT := wsT_in (tin6 (List.mem_of_getElem? (i := 77) (by decide +kernel))) (by decide +kernel)
theorem sl_X7_back : Cond.selects RX7 yX7_back yX7_back ∈ wsT := wsT_in (tin6 (List.mem_of_getElem? (i := 78) (by decide +kernel))) (by decide +kernel)
theorem cd_X7_back : Cond.code yX7_back cX7_back 2 (some .int) ∈ wsT := wsT_in (tin6 (List.mem_of_getElem? (i := 79) (by decide +kernel))) (by decide +kernel)
theorem ml_L_200 : Cond.methodLink RL 200 yX7_count ∈ wsT := wsT_in (tin6 (List.mem_of_getElem? (i := 80) (by decide +kernel))) (by decide +kernel)
theorem im_X7_count : Cond.instanceMethod yX7_count ∈ wsT := wsT_in (tin6 (List.mem_of_getElem? (i := 81) (by decide +kernel))) (by decide +kernel)
theorem sl_X7_count : Cond.selects RX7 yX7_count yX7_count ∈ wsT := wsT_in (tin6 (List.mem_of_getElem? (i := 82) (by decide +kernel))) (by decide +kernel)
theorem cd_X7_count : Cond.code yX7_count cX7_count 2 (some .int) ∈ wsT := wsT_in (tin6 (List.mem_of_getElem? (i := 83) (by decide +kernel))) (by decide +kernel)
theorem ml_X7_385 : Cond.methodLink RX7 385 yX7_unlikeNought ∈ wsT := wsT_in (tin6 (List.mem_of_getElem? (i := 84) (by decide +kernel))) (by decide +kernel)
theorem sm_X7_unlikeNought : Cond.static yX7_unlikeNought ∈ wsT := wsT_in (tin6 (List.mem_of_getElem? (i := 85) (by decide +kernel))) (by decide +kernel)
theorem cd_X7_unlikeNought : Cond.code yX7_unlikeNought cX7_unlikeNought 3 (some .int) ∈ wsT := wsT_in (tin6 (List.mem_of_getElem? (i := 86) (by decide +kernel))) (by decide +kernel)
theorem fl_J0_9 : Cond.fieldLink RJ0 9 RJ0 "value" "[B" ∈ wsT := wsT_in (tin6 (List.mem_of_getElem? (i := 87) (by decide +kernel))) (by decide +kernel)
theorem fl_J0_15 : Cond.fieldLink RJ0 15 RJ0 "coder" "B" ∈ wsT := wsT_in (tin6 (List.mem_of_getElem? (i := 88) (by decide +kernel))) (by decide +kernel)
theorem sl_X6_setFromData : Cond.selects RX6 yX6_setFromData yX6_setFromData ∈ wsT := wsT_in (tin0 (List.mem_of_getElem? (i := 0) (by decide +kernel))) (by decide +kernel)
theorem sl_X5_loadOut : Cond.selects RX5 yX5_loadOut yX5_loadOut ∈ wsT := wsT_in (tin0 (List.mem_of_getElem? (i := 1) (by decide +kernel))) (by decide +kernel)
theorem sl_X5_worthMet : Cond.selects RX5 yX5_worthMet yX5_worthMet ∈ wsT := wsT_in (tin0 (List.mem_of_getElem? (i := 2) (by decide +kernel))) (by decide +kernel)
theorem sl_X5_cappedSize : Cond.selects RX5 yX5_cappedSize yX5_cappedSize ∈ wsT := wsT_in (tin0 (List.mem_of_getElem? (i := 3) (by decide +kernel))) (by decide +kernel)
theorem sl_X6_settle : Cond.selects RX6 yX6_settle yX6_settle ∈ wsT := wsT_in (tin0 (List.mem_of_getElem? (i := 4) (by decide +kernel))) (by decide +kernel)
theorem sl_X6_settleIfInRange : Cond.selects RX6 yX6_settleIfInRange yX6_settleIfInRange ∈ wsT := wsT_in (tin0 (List.mem_of_getElem? (i := 5) (by decide +kernel))) (by decide +kernel)
theorem sl_X6_errorOfPair : Cond.selects RX6 yX6_errorOfPair yX6_errorOfPair ∈ wsT := wsT_in (tin0 (List.mem_of_getElem? (i := 6) (by decide +kernel))) (by decide +kernel)
theorem sl_X6_errorOf : Cond.selects RX6 yX6_errorOf yX6_errorOf ∈ wsT := wsT_in (tin0 (List.mem_of_getElem? (i := 7) (by decide +kernel))) (by decide +kernel)
theorem sl_X6_leastOverSubsets : Cond.selects RX6 yX6_leastOverSubsets yX6_leastOverSubsets ∈ wsT := wsT_in (tin0 (List.mem_of_getElem? (i := 8) (by decide +kernel))) (by decide +kernel)
theorem sl_X3_gainGrows : Cond.selects RX3 yX3_gainGrows yX3_gainGrows ∈ wsT := wsT_in (tin0 (List.mem_of_getElem? (i := 9) (by decide +kernel))) (by decide +kernel)
theorem sl_X6_isOrder : Cond.selects RX6 yX6_isOrder yX6_isOrder ∈ wsT := wsT_in (tin0 (List.mem_of_getElem? (i := 10) (by decide +kernel))) (by decide +kernel)
theorem sl_X6_unrank : Cond.selects RX6 yX6_unrank yX6_unrank ∈ wsT := wsT_in (tin0 (List.mem_of_getElem? (i := 11) (by decide +kernel))) (by decide +kernel)
theorem sl_X6_errorOfChoice : Cond.selects RX6 yX6_errorOfChoice yX6_errorOfChoice ∈ wsT := wsT_in (tin0 (List.mem_of_getElem? (i := 12) (by decide +kernel))) (by decide +kernel)
theorem sl_X3_isSmallerCut : Cond.selects RX3 yX3_isSmallerCut yX3_isSmallerCut ∈ wsT := wsT_in (tin0 (List.mem_of_getElem? (i := 13) (by decide +kernel))) (by decide +kernel)
theorem sl_X4_readCommand : Cond.selects RX4 yX4_readCommand yX4_readCommand ∈ wsT := wsT_in (tin0 (List.mem_of_getElem? (i := 14) (by decide +kernel))) (by decide +kernel)
theorem sl_X4_endOfWord : Cond.selects RX4 yX4_endOfWord yX4_endOfWord ∈ wsT := wsT_in (tin0 (List.mem_of_getElem? (i := 15) (by decide +kernel))) (by decide +kernel)
theorem sl_X4_findWord : Cond.selects RX4 yX4_findWord yX4_findWord ∈ wsT := wsT_in (tin0 (List.mem_of_getElem? (i := 16) (by decide +kernel))) (by decide +kernel)
theorem sl_X4_isSame : Cond.selects RX4 yX4_isSame yX4_isSame ∈ wsT := wsT_in (tin0 (List.mem_of_getElem? (i := 17) (by decide +kernel))) (by decide +kernel)
theorem sl_X4_readNumber : Cond.selects RX4 yX4_readNumber yX4_readNumber ∈ wsT := wsT_in (tin0 (List.mem_of_getElem? (i := 18) (by decide +kernel))) (by decide +kernel)
theorem sl_X4_isNext : Cond.selects RX4 yX4_isNext yX4_isNext ∈ wsT := wsT_in (tin0 (List.mem_of_getElem? (i := 19) (by decide +kernel))) (by decide +kernel)
theorem sl_X4_isDigitNext : Cond.selects RX4 yX4_isDigitNext yX4_isDigitNext ∈ wsT := wsT_in (tin0 (List.mem_of_getElem? (i := 20) (by decide +kernel))) (by decide +kernel)
theorem sl_X6_obey : Cond.selects RX6 yX6_obey yX6_obey ∈ wsT := wsT_in (tin0 (List.mem_of_getElem? (i := 21) (by decide +kernel))) (by decide +kernel)
theorem sl_X7_empties : Cond.selects RX7 yX7_empties yX7_empties ∈ wsT := wsT_in (tin0 (List.mem_of_getElem? (i := 22) (by decide +kernel))) (by decide +kernel)
theorem sl_X7_isPoint : Cond.selects RX7 yX7_isPoint yX7_isPoint ∈ wsT := wsT_in (tin0 (List.mem_of_getElem? (i := 23) (by decide +kernel))) (by decide +kernel)
theorem sl_X7_isSet : Cond.selects RX7 yX7_isSet yX7_isSet ∈ wsT := wsT_in (tin0 (List.mem_of_getElem? (i := 24) (by decide +kernel))) (by decide +kernel)
theorem sl_X7_all : Cond.selects RX7 yX7_all yX7_all ∈ wsT := wsT_in (tin0 (List.mem_of_getElem? (i := 25) (by decide +kernel))) (by decide +kernel)
theorem sl_X7_sets : Cond.selects RX7 yX7_sets yX7_sets ∈ wsT := wsT_in (tin0 (List.mem_of_getElem? (i := 26) (by decide +kernel))) (by decide +kernel)
theorem sl_X7_makes : Cond.selects RX7 yX7_makes yX7_makes ∈ wsT := wsT_in (tin0 (List.mem_of_getElem? (i := 27) (by decide +kernel))) (by decide +kernel)
theorem sl_X7_cutOf : Cond.selects RX7 yX7_cutOf yX7_cutOf ∈ wsT := wsT_in (tin0 (List.mem_of_getElem? (i := 28) (by decide +kernel))) (by decide +kernel)
theorem sl_X7_coverOf : Cond.selects RX7 yX7_coverOf yX7_coverOf ∈ wsT := wsT_in (tin0 (List.mem_of_getElem? (i := 29) (by decide +kernel))) (by decide +kernel)
theorem sl_X7_cappedOf : Cond.selects RX7 yX7_cappedOf yX7_cappedOf ∈ wsT := wsT_in (tin0 (List.mem_of_getElem? (i := 30) (by decide +kernel))) (by decide +kernel)
theorem sl_X7_weightOf : Cond.selects RX7 yX7_weightOf yX7_weightOf ∈ wsT := wsT_in (tin0 (List.mem_of_getElem? (i := 31) (by decide +kernel))) (by decide +kernel)
theorem sl_X7_becomes : Cond.selects RX7 yX7_becomes yX7_becomes ∈ wsT := wsT_in (tin0 (List.mem_of_getElem? (i := 32) (by decide +kernel))) (by decide +kernel)
theorem sl_X7_isThere : Cond.selects RX7 yX7_isThere yX7_isThere ∈ wsT := wsT_in (tin0 (List.mem_of_getElem? (i := 33) (by decide +kernel))) (by decide +kernel)
theorem sl_X7_comes : Cond.selects RX7 yX7_comes yX7_comes ∈ wsT := wsT_in (tin0 (List.mem_of_getElem? (i := 34) (by decide +kernel))) (by decide +kernel)
theorem sl_X7_areValues : Cond.selects RX7 yX7_areValues yX7_areValues ∈ wsT := wsT_in (tin0 (List.mem_of_getElem? (i := 35) (by decide +kernel))) (by decide +kernel)
theorem sl_X7_failing : Cond.selects RX7 yX7_failing yX7_failing ∈ wsT := wsT_in (tin0 (List.mem_of_getElem? (i := 36) (by decide +kernel))) (by decide +kernel)
theorem sl_X7_lessens : Cond.selects RX7 yX7_lessens yX7_lessens ∈ wsT := wsT_in (tin0 (List.mem_of_getElem? (i := 37) (by decide +kernel))) (by decide +kernel)
theorem sl_X7_gainOf : Cond.selects RX7 yX7_gainOf yX7_gainOf ∈ wsT := wsT_in (tin0 (List.mem_of_getElem? (i := 38) (by decide +kernel))) (by decide +kernel)
theorem sl_X7_isRising : Cond.selects RX7 yX7_isRising yX7_isRising ∈ wsT := wsT_in (tin0 (List.mem_of_getElem? (i := 39) (by decide +kernel))) (by decide +kernel)
theorem sl_X7_isEven : Cond.selects RX7 yX7_isEven yX7_isEven ∈ wsT := wsT_in (tin0 (List.mem_of_getElem? (i := 40) (by decide +kernel))) (by decide +kernel)
theorem sl_X7_isPlain : Cond.selects RX7 yX7_isPlain yX7_isPlain ∈ wsT := wsT_in (tin0 (List.mem_of_getElem? (i := 41) (by decide +kernel))) (by decide +kernel)
theorem sl_X7_isOrder : Cond.selects RX7 yX7_isOrder yX7_isOrder ∈ wsT := wsT_in (tin0 (List.mem_of_getElem? (i := 42) (by decide +kernel))) (by decide +kernel)
theorem sl_X7_layOrder : Cond.selects RX7 yX7_layOrder yX7_layOrder ∈ wsT := wsT_in (tin0 (List.mem_of_getElem? (i := 43) (by decide +kernel))) (by decide +kernel)
theorem sl_X7_baseOf : Cond.selects RX7 yX7_baseOf yX7_baseOf ∈ wsT := wsT_in (tin0 (List.mem_of_getElem? (i := 44) (by decide +kernel))) (by decide +kernel)
theorem sl_X7_isBase : Cond.selects RX7 yX7_isBase yX7_isBase ∈ wsT := wsT_in (tin0 (List.mem_of_getElem? (i := 45) (by decide +kernel))) (by decide +kernel)
theorem sl_X7_spare : Cond.selects RX7 yX7_spare yX7_spare ∈ wsT := wsT_in (tin0 (List.mem_of_getElem? (i := 46) (by decide +kernel))) (by decide +kernel)
theorem sl_X7_leastOf : Cond.selects RX7 yX7_leastOf yX7_leastOf ∈ wsT := wsT_in (tin0 (List.mem_of_getElem? (i := 47) (by decide +kernel))) (by decide +kernel)
theorem sl_X7_areClosed : Cond.selects RX7 yX7_areClosed yX7_areClosed ∈ wsT := wsT_in (tin0 (List.mem_of_getElem? (i := 48) (by decide +kernel))) (by decide +kernel)
theorem sl_X7_layLevels : Cond.selects RX7 yX7_layLevels yX7_layLevels ∈ wsT := wsT_in (tin0 (List.mem_of_getElem? (i := 49) (by decide +kernel))) (by decide +kernel)
theorem sl_X7_isLower : Cond.selects RX7 yX7_isLower yX7_isLower ∈ wsT := wsT_in (tin0 (List.mem_of_getElem? (i := 50) (by decide +kernel))) (by decide +kernel)
theorem sl_X7_areUnlike : Cond.selects RX7 yX7_areUnlike yX7_areUnlike ∈ wsT := wsT_in (tin0 (List.mem_of_getElem? (i := 51) (by decide +kernel))) (by decide +kernel)
theorem sl_X7_wallOf : Cond.selects RX7 yX7_wallOf yX7_wallOf ∈ wsT := wsT_in (tin0 (List.mem_of_getElem? (i := 52) (by decide +kernel))) (by decide +kernel)
theorem sl_X7_greed : Cond.selects RX7 yX7_greed yX7_greed ∈ wsT := wsT_in (tin0 (List.mem_of_getElem? (i := 53) (by decide +kernel))) (by decide +kernel)
theorem sl_X7_best : Cond.selects RX7 yX7_best yX7_best ∈ wsT := wsT_in (tin0 (List.mem_of_getElem? (i := 54) (by decide +kernel))) (by decide +kernel)
theorem sl_X7_takesAll : Cond.selects RX7 yX7_takesAll yX7_takesAll ∈ wsT := wsT_in (tin0 (List.mem_of_getElem? (i := 55) (by decide +kernel))) (by decide +kernel)
theorem sl_X7_takesDeed : Cond.selects RX7 yX7_takesDeed yX7_takesDeed ∈ wsT := wsT_in (tin0 (List.mem_of_getElem? (i := 56) (by decide +kernel))) (by decide +kernel)
theorem sl_X7_takesWord : Cond.selects RX7 yX7_takesWord yX7_takesWord ∈ wsT := wsT_in (tin0 (List.mem_of_getElem? (i := 57) (by decide +kernel))) (by decide +kernel)
theorem sl_X7_isAt : Cond.selects RX7 yX7_isAt yX7_isAt ∈ wsT := wsT_in (tin0 (List.mem_of_getElem? (i := 58) (by decide +kernel))) (by decide +kernel)
theorem sl_X7_isWord : Cond.selects RX7 yX7_isWord yX7_isWord ∈ wsT := wsT_in (tin0 (List.mem_of_getElem? (i := 59) (by decide +kernel))) (by decide +kernel)
theorem sl_X7_takesNumber : Cond.selects RX7 yX7_takesNumber yX7_takesNumber ∈ wsT := wsT_in (tin0 (List.mem_of_getElem? (i := 60) (by decide +kernel))) (by decide +kernel)
theorem sl_X7_isDone : Cond.selects RX7 yX7_isDone yX7_isDone ∈ wsT := wsT_in (tin0 (List.mem_of_getElem? (i := 61) (by decide +kernel))) (by decide +kernel)
theorem sl_X7_says : Cond.selects RX7 yX7_says yX7_says ∈ wsT := wsT_in (tin0 (List.mem_of_getElem? (i := 62) (by decide +kernel))) (by decide +kernel)
theorem sl_X7_saysNumber : Cond.selects RX7 yX7_saysNumber yX7_saysNumber ∈ wsT := wsT_in (tin0 (List.mem_of_getElem? (i := 63) (by decide +kernel))) (by decide +kernel)
theorem sl_X7_rowOf : Cond.selects RX7 yX7_rowOf yX7_rowOf ∈ wsT := wsT_in (tin0 (List.mem_of_getElem? (i := 64) (by decide +kernel))) (by decide +kernel)
theorem sl_X7_functions : Cond.selects RX7 yX7_functions yX7_functions ∈ wsT := wsT_in (tin0 (List.mem_of_getElem? (i := 65) (by decide +kernel))) (by decide +kernel)
theorem inX0 : ∀ w ∈ u_ws RX0 TX0 2, w ∈ wsT := fun w hw => by
  obtain ⟨k, hk, rfl⟩ := List.mem_map.mp hw
  exact match k, List.mem_range.mp hk with
  | 0, _ => ly_X0_length
  | 1, _ => ly_X0_numbers
  | k + 2, h => absurd h (by omega)
theorem inX1 : ∀ w ∈ u_ws RX1 TX1 2, w ∈ wsT := fun w hw => by
  obtain ⟨k, hk, rfl⟩ := List.mem_map.mp hw
  exact match k, List.mem_range.mp hk with
  | 0, _ => ly_X1_length
  | 1, _ => ly_X1_bytes
  | k + 2, h => absurd h (by omega)
theorem inX2 : ∀ w ∈ u_ws RX2 TX2 4, w ∈ wsT := fun w hw => by
  obtain ⟨k, hk, rfl⟩ := List.mem_map.mp hw
  exact match k, List.mem_range.mp hk with
  | 0, _ => ly_X2_members
  | 1, _ => ly_X2_sets
  | 2, _ => ly_X2_rises
  | 3, _ => ly_X2_sizes
  | k + 4, h => absurd h (by omega)
theorem inX3 : ∀ w ∈ u_ws RX3 TX3 2, w ∈ wsT := fun w hw => by
  obtain ⟨k, hk, rfl⟩ := List.mem_map.mp hw
  exact match k, List.mem_range.mp hk with
  | 0, _ => ly_X3_kind
  | 1, _ => ly_X3_values
  | k + 2, h => absurd h (by omega)
theorem inX4 : ∀ w ∈ u_ws RX4 TX4 6, w ∈ wsT := fun w hw => by
  obtain ⟨k, hk, rfl⟩ := List.mem_map.mp hw
  exact match k, List.mem_range.mp hk with
  | 0, _ => ly_X4_length
  | 1, _ => ly_X4_commands
  | 2, _ => ly_X4_words
  | 3, _ => ly_X4_numbers
  | 4, _ => ly_X4_bytes
  | 5, _ => ly_X4_at
  | k + 6, h => absurd h (by omega)
theorem inX5 : ∀ w ∈ u_ws RX5 TX5 9, w ∈ wsT := fun w hw => by
  obtain ⟨k, hk, rfl⟩ := List.mem_map.mp hw
  exact match k, List.mem_range.mp hk with
  | 0, _ => ly_X5_n
  | 1, _ => ly_X5_loads
  | 2, _ => ly_X5_worths
  | 3, _ => ly_X5_itemSets
  | 4, _ => ly_X5_blocks
  | 5, _ => ly_X5_caps
  | 6, _ => ly_X5_weights
  | 7, _ => ly_X5_functions
  | 8, _ => ly_X5_blockSizes
  | k + 9, h => absurd h (by omega)
theorem inX6 : ∀ w ∈ u_ws RX6 TX6 10, w ∈ wsT := fun w hw => by
  obtain ⟨k, hk, rfl⟩ := List.mem_map.mp hw
  exact match k, List.mem_range.mp hk with
  | 0, _ => ly_X6_now
  | 1, _ => ly_X6_saved
  | 2, _ => ly_X6_hasImage
  | 3, _ => ly_X6_lists
  | 4, _ => ly_X6_tape
  | 5, _ => ly_X6_sheet
  | 6, _ => ly_X6_sequence
  | 7, _ => ly_X6_draft
  | 8, _ => ly_X6_setWeights
  | 9, _ => ly_X6_orderRow
  | k + 10, h => absurd h (by omega)
theorem inX7 : ∀ w ∈ u_ws RX7 TX7 27, w ∈ wsT := fun w hw => by
  obtain ⟨k, hk, rfl⟩ := List.mem_map.mp hw
  exact match k, List.mem_range.mp hk with
  | 0, _ => ly_X7_n
  | 1, _ => ly_X7_loads
  | 2, _ => ly_X7_worths
  | 3, _ => ly_X7_itemSets
  | 4, _ => ly_X7_blocks
  | 5, _ => ly_X7_caps
  | 6, _ => ly_X7_weights
  | 7, _ => ly_X7_kinds
  | 8, _ => ly_X7_values
  | 9, _ => ly_X7_made
  | 10, _ => ly_X7_row
  | 11, _ => ly_X7_levels
  | 12, _ => ly_X7_leveled
  | 13, _ => ly_X7_tape
  | 14, _ => ly_X7_taped
  | 15, _ => ly_X7_at
  | 16, _ => ly_X7_told
  | 17, _ => ly_X7_words
  | 18, _ => ly_X7_numbers
  | 19, _ => ly_X7_paper
  | 20, _ => ly_X7_papered
  | 21, _ => ly_X7_lengths
  | 22, _ => ly_X7_lists
  | 23, _ => ly_X7_isKept
  | 24, _ => ly_X7_keptN
  | 25, _ => ly_X7_keptRows
  | 26, _ => ly_X7_keptValues
  | k + 27, h => absurd h (by omega)
end
section
/-! THE UNIFORM WORLD: all cells of the class (0..64) and of the reference (65..107); their ints are a flat memory M : cell -> slot -> int; their references are fixed by 'ent' -/
abbrev Mm : Type := Nat → Nat → Int32
def rset (M : Mm) (k : Nat) (r : Nat → Int32) : Mm := fun k' => if k' = k then r else M k'
def mw (M : Mm) (k j : Nat) (x : Int32) : Mm := rset M k (upd (M k) j x)
theorem rset_eq (M : Mm) (k : Nat) (r : Nat → Int32) : rset M k r k = r := if_pos rfl
theorem rset_ne (M : Mm) {k k' : Nat} (r : Nat → Int32) (h : k' ≠ k) : rset M k r k' = M k' := if_neg h
theorem rset_rset (M : Mm) (k : Nat) (r r' : Nat → Int32) : rset (rset M k r) k r' = rset M k r' := by
  funext k'
  by_cases h : k' = k
  · subst h; rw [rset_eq, rset_eq]
  · rw [rset_ne _ _ h, rset_ne _ _ h, rset_ne _ _ h]
theorem rset_same (M : Mm) (k : Nat) : rset M k (M k) = M := by
  funext k'
  by_cases h : k' = k
  · subst h; rw [rset_eq]
  · rw [rset_ne _ _ h]
theorem rset_comm (M : Mm) {k k' : Nat} (r r' : Nat → Int32) (h : k ≠ k') : rset (rset M k r) k' r' = rset (rset M k' r') k r := by
  funext i
  by_cases h1 : i = k'
  · subst h1; rw [rset_eq, rset_ne _ _ (Ne.symm h), rset_eq]
  · rw [rset_ne _ _ h1]
    by_cases h2 : i = k
    · subst h2; rw [rset_eq, rset_eq]
    · rw [rset_ne _ _ h2, rset_ne _ _ h2, rset_ne _ _ h1]
theorem mw_eq (M : Mm) (k j : Nat) (x : Int32) : mw M k j x k j = x := by
  unfold mw; rw [rset_eq]; exact pk_us
theorem mw_nj (M : Mm) (k : Nat) {j j' : Nat} (x : Int32) (h : j' ≠ j) : mw M k j x k j' = M k j' := by
  unfold mw; rw [rset_eq]; exact pk_un h
theorem mw_nk (M : Mm) {k k' : Nat} (j : Nat) (x : Int32) (h : k' ≠ k) : mw M k j x k' = M k' := rset_ne _ _ h
theorem mw_row (M : Mm) (k j : Nat) (x : Int32) : mw M k j x k = upd (M k) j x := rset_eq _ _ _
def ai (cA : Nat → ClassId) (n : Nat) (r : Nat → Int32) : va_E := .inl (cA 0, n, .inl r)
def ab (cA : Nat → ClassId) (n : Nat) (r : Nat → Int32) : va_E := .inl (cA 1, n, .inl r)
def ag (c : ClassId) (n : Nat) (g : Nat → Option Nat) : va_E := .inl (c, n, .inr (.inr (.inr (.inr g))))

def ent (ad : Nat → Nat) (cA : Nat → ClassId) (k : Nat) (r : Nat → Int32) : va_E := match k with
  | 0 => .inr (6, [.ref (ad 1), .ref (ad 22), .int (r 2), .ref (ad 43), .ref (ad 52), .ref (ad 56), .ref (ad 58), .ref (ad 62), .ref (ad 63), .ref (ad 64)])
  | 1 => .inr (5, [.int (r 0), .ref (ad 2), .ref (ad 3), .ref (ad 4), .ref (ad 5), .ref (ad 6), .ref (ad 7), .ref (ad 8), .ref (ad 9)])
  | 2 => ai cA 36 r
  | 3 => ai cA 8 r
  | 4 => ai cA 8 r
  | 5 => ai cA 6 r
  | 6 => ai cA 6 r
  | 7 => ai cA 6 r
  | 8 => ag (cA 2) 6 (fun f => some (ad (10 + 2 * f)))
  | 9 => ai cA 6 r
  | 10 => .inr (3, [.int (r 0), .ref (ad 11)])
  | 11 => ai cA 64 r
  | 12 => .inr (3, [.int (r 0), .ref (ad 13)])
  | 13 => ai cA 64 r
  | 14 => .inr (3, [.int (r 0), .ref (ad 15)])
  | 15 => ai cA 64 r
  | 16 => .inr (3, [.int (r 0), .ref (ad 17)])
  | 17 => ai cA 64 r
  | 18 => .inr (3, [.int (r 0), .ref (ad 19)])
  | 19 => ai cA 64 r
  | 20 => .inr (3, [.int (r 0), .ref (ad 21)])
  | 21 => ai cA 64 r
  | 22 => .inr (5, [.int (r 0), .ref (ad 23), .ref (ad 24), .ref (ad 25), .ref (ad 26), .ref (ad 27), .ref (ad 28), .ref (ad 29), .ref (ad 30)])
  | 23 => ai cA 36 r
  | 24 => ai cA 8 r
  | 25 => ai cA 8 r
  | 26 => ai cA 6 r
  | 27 => ai cA 6 r
  | 28 => ai cA 6 r
  | 29 => ag (cA 2) 6 (fun f => some (ad (31 + 2 * f)))
  | 30 => ai cA 6 r
  | 31 => .inr (3, [.int (r 0), .ref (ad 32)])
  | 32 => ai cA 64 r
  | 33 => .inr (3, [.int (r 0), .ref (ad 34)])
  | 34 => ai cA 64 r
  | 35 => .inr (3, [.int (r 0), .ref (ad 36)])
  | 36 => ai cA 64 r
  | 37 => .inr (3, [.int (r 0), .ref (ad 38)])
  | 38 => ai cA 64 r
  | 39 => .inr (3, [.int (r 0), .ref (ad 40)])
  | 40 => ai cA 64 r
  | 41 => .inr (3, [.int (r 0), .ref (ad 42)])
  | 42 => ai cA 64 r
  | 43 => ag (cA 3) 4 (fun i => some (ad (44 + 2 * i)))
  | 44 => .inr (0, [.int (r 0), .ref (ad 45)])
  | 45 => ai cA 64 r
  | 46 => .inr (0, [.int (r 0), .ref (ad 47)])
  | 47 => ai cA 64 r
  | 48 => .inr (0, [.int (r 0), .ref (ad 49)])
  | 49 => ai cA 64 r
  | 50 => .inr (0, [.int (r 0), .ref (ad 51)])
  | 51 => ai cA 64 r
  | 52 => .inr (4, [.int (r 0), .int (r 1), .ref (ad 53), .ref (ad 54), .ref (ad 55), .int (r 5)])
  | 53 => ai cA 20 r
  | 54 => ai cA 60 r
  | 55 => ab cA 100 r
  | 56 => .inr (1, [.int (r 0), .ref (ad 57)])
  | 57 => ab cA 511 r
  | 58 => .inr (2, [.int (r 0), .ref (ad 59), .ref (ad 60), .ref (ad 61)])
  | 59 => ai cA 6 r
  | 60 => ai cA 6 r
  | 61 => ai cA 6 r
  | 62 => ai cA 64 r
  | 63 => ai cA 64 r
  | 64 => ai cA 6 r
  | 65 => .inr (7, [.int (r 0), .ref (ad 66), .ref (ad 67), .ref (ad 68), .ref (ad 69), .ref (ad 70), .ref (ad 71), .ref (ad 72), .ref (ad 73), .ref (ad 80), .ref (ad 81), .ref (ad 82), .int (r 12), .ref (ad 83), .int (r 14), .int (r 15), .int (r 16), .ref (ad 84), .ref (ad 85), .ref (ad 86), .int (r 20), .ref (ad 87), .ref (ad 88), .int (r 23), .int (r 24), .ref (ad 93), .ref (ad 101)])
  | 66 => ai cA 36 r
  | 67 => ai cA 8 r
  | 68 => ai cA 8 r
  | 69 => ai cA 6 r
  | 70 => ai cA 6 r
  | 71 => ai cA 6 r
  | 72 => ai cA 6 r
  | 73 => ag (cA 4) 6 (fun f => some (ad (74 + f)))
  | 74 => ai cA 64 r
  | 75 => ai cA 64 r
  | 76 => ai cA 64 r
  | 77 => ai cA 64 r
  | 78 => ai cA 64 r
  | 79 => ai cA 64 r
  | 80 => ai cA 64 r
  | 81 => ai cA 6 r
  | 82 => ai cA 7 r
  | 83 => ab cA 100 r
  | 84 => ai cA 100 r
  | 85 => ai cA 300 r
  | 86 => ab cA 512 r
  | 87 => ai cA 4 r
  | 88 => ag (cA 4) 4 (fun f => some (ad (89 + f)))
  | 89 => ai cA 64 r
  | 90 => ai cA 64 r
  | 91 => ai cA 64 r
  | 92 => ai cA 64 r
  | 93 => ag (cA 4) 7 (fun f => some (ad (94 + f)))
  | 94 => ai cA 36 r
  | 95 => ai cA 36 r
  | 96 => ai cA 36 r
  | 97 => ai cA 36 r
  | 98 => ai cA 36 r
  | 99 => ai cA 36 r
  | 100 => ai cA 36 r
  | 101 => ag (cA 4) 6 (fun f => some (ad (102 + f)))
  | 102 => ai cA 64 r
  | 103 => ai cA 64 r
  | 104 => ai cA 64 r
  | 105 => ai cA 64 r
  | 106 => ai cA 64 r
  | _ => ai cA 64 r
abbrev Am : Type := (Nat × Nat) × (Nat → Nat) × (Nat → Nat)
/-- the tables of the objects, the cells' numbers, their addresses, the array classes, the statics' addresses -/
abbrev Ev : Type := va_G × List Nat × (Nat → Nat) × (Nat → ClassId) × Am
abbrev adE (E : Ev) : Nat → Nat := E.2.2.1
def wlist (E : Ev) (M : Mm) : va_W := E.2.1.map (fun k => (E.2.2.1 k, ent E.2.2.1 E.2.2.2.1 k (M k)))
def inW (E : Ev) : Nat → Prop := fun q => ∃ k, k ∈ E.2.1 ∧ q = E.2.2.1 k
def tysE (E : Ev) : List (ClassId × FieldType) := [(E.2.2.2.1 0, .int), (E.2.2.2.1 1, .byte), (E.2.2.2.1 2, .object "LesseningGains$SetFunction"), (E.2.2.2.1 3, .object "LesseningGains$NumberList"), (E.2.2.2.1 4, .array .int)]
theorem wlist_get {E : Ev} {M : Mm} {k : Nat} (h : k ∈ E.2.1) : ∃ q : Nat, E.2.1[q]? = some k ∧ (wlist E M)[q]? = some (E.2.2.1 k, ent E.2.2.1 E.2.2.2.1 k (M k)) := by
  obtain ⟨q, hq⟩ := List.getElem?_of_mem h
  exact ⟨q, hq, by unfold wlist; rw [List.getElem?_map, hq]; rfl⟩
theorem wlist_set {E : Ev} {M : Mm} {A : Nat → Prop} {k q : Nat} {r : Nat → Int32} {x : va_E} (hD : va_D A (wlist E M)) (hq : E.2.1[q]? = some k) (he : ent E.2.2.1 E.2.2.2.1 k r = x) : (wlist E M).set q (E.2.2.1 k, x) = wlist E (rset M k r) := by
  have hlt : q < E.2.1.length := (List.getElem?_eq_some_iff.mp hq).1
  have hw : ∀ i, (wlist E M)[i]? = (E.2.1[i]?).map (fun k => (E.2.2.1 k, ent E.2.2.1 E.2.2.2.1 k (M k))) := fun i => by unfold wlist; rw [List.getElem?_map]
  apply List.ext_getElem?
  intro i
  have hr : (wlist E (rset M k r))[i]? = (E.2.1[i]?).map (fun k' => (E.2.2.1 k', ent E.2.2.1 E.2.2.2.1 k' (rset M k r k'))) := by unfold wlist; rw [List.getElem?_map]
  rw [hr]
  by_cases hi : i = q
  · subst hi
    rw [List.getElem?_set_self (by unfold wlist; rw [List.length_map]; exact hlt), hq]
    have e2 : ent E.2.2.1 E.2.2.2.1 k (rset M k r k) = x := by rw [rset_eq, he]
    show some (E.2.2.1 k, x) = some (E.2.2.1 k, ent E.2.2.1 E.2.2.2.1 k (rset M k r k))
    rw [e2]
  · rw [List.getElem?_set_ne (Ne.symm hi), hw]
    cases hc : E.2.1[i]? with
    | none => rfl
    | some k' =>
      have hne : k' ≠ k := fun e => by
        subst e
        exact hi (hD.1 i q _ _ (by rw [hw, hc]; rfl) (by rw [hw, hq]; rfl) rfl)
      show some (E.2.2.1 k', ent E.2.2.1 E.2.2.2.1 k' (M k')) = some (E.2.2.1 k', ent E.2.2.1 E.2.2.2.1 k' (rset M k r k'))
      rw [rset_ne _ _ hne]
theorem inW_A {E : Ev} {M : Mm} : va_D (fun _ => True) (wlist E M) → va_D (inW E) (wlist E M) := fun h => ⟨h.1, fun k q hk => by
  unfold wlist at hk
  rw [List.getElem?_map] at hk
  cases hc : E.2.1[k]? with
  | none => rw [hc] at hk; cases hk
  | some k' => rw [hc] at hk; cases hk; exact ⟨k', List.mem_of_getElem? hc, rfl⟩⟩
/-! what stands around the world and is only read: links to a nest mate, two static tables, the String constants -/
def aboveL : List Int32 := [-1, 0, 0, 0, 3, 1]
def numbersL : List Int32 := [3, 3, 2, 2, 2, 1, 1, 1, 1, 3, 2]
def bytL : List (List Int32) := [[97, 114, 99], [105, 116, 101, 109], [98, 108, 111, 99, 107], [99, 97, 112], [119, 101, 105, 103, 104, 116], [99, 117, 116], [99, 111, 118, 101, 114], [99, 97, 112, 112, 101, 100], [119, 101, 105, 103, 104, 101, 100], [115, 117, 109], [116, 117, 114, 110]]
def lenL : List Nat := [3, 4, 5, 3, 6, 3, 5, 6, 7, 3, 4]
def strL : List (String × Nat × String × Nat) := [(RX4, 76, "arc", 0), (RX4, 78, "item", 1), (RX4, 80, "block", 2), (RX4, 82, "cap", 3), (RX4, 84, "weight", 4), (RX4, 86, "cut", 5), (RX4, 88, "cover", 6), (RX4, 90, "capped", 7), (RX4, 92, "weighed", 8), (RX4, 94, "sum", 9), (RX4, 96, "turn", 10),
  (RX7, 264, "arc", 0), (RX7, 266, "item", 1), (RX7, 268, "sum", 9), (RX7, 270, "block", 2), (RX7, 272, "cap", 3), (RX7, 274, "weight", 4), (RX7, 276, "turn", 10), (RX7, 278, "cut", 5), (RX7, 280, "cover", 6), (RX7, 282, "capped", 7), (RX7, 284, "weighed", 8)]
def Amb (am : Am) (A : Nat → Prop) (U : State) (H : Heap) : Prop :=
  (va_Nw (.methodLinkNest RX3 35 yX6_holds RX6) U ∧ va_Nw (.methodLinkNest RX5 88 yX6_holds RX6) U) ∧
  (va_Z RX6 "ABOVE" "[I" (.ref am.1.1) A U H ∧ va_T .int am.1.1 6 (fun j => .int (aboveL.getD j 0)) A U H) ∧
  (va_Z RX4 "NUMBERS" "[I" (.ref am.1.2) A U H ∧ va_T .int am.1.2 11 (fun j => .int (numbersL.getD j 0)) A U H) ∧
  va_Z "java/lang/String" "COMPACT_STRINGS" "Z" (.int 1) A U H ∧
  vk_S 11 lenL bytL am.2.1 am.2.2 A U H ∧ (∀ q ∈ strL, vk_R q.1 q.2.1 q.2.2.1 (am.2.1 q.2.2.2) U)
theorem Amb.same {am : Am} {A : Nat → Prop} {u U : State} {H : Heap} (h : Amb am A u H) (hv : u.vm = U.vm) : Amb am A U H := by
  obtain ⟨⟨n1, n2⟩, ⟨z1, t1⟩, ⟨z2, t2⟩, z3, s1, s2⟩ := h
  have ha : u.vm.Alike U.vm := by rw [hv]; exact Vm.Alike.refl _
  exact ⟨⟨va_Nw.same rfl hv n1, va_Nw.same rfl hv n2⟩, ⟨z1.moved ha, t1.moved ha⟩, ⟨z2.moved ha, t2.moved ha⟩, z3.moved ha, s1.moved ha, fun q hq => vk_R.same hv.symm (s2 q hq)⟩
theorem Amb.warm {am : Am} {A : Nat → Prop} {s U : State} {H : Heap} (h : Amb am A s H) (hW : s.WarmedH U.vm) : Amb am A U H := by
  obtain ⟨⟨n1, n2⟩, ⟨z1, t1⟩, ⟨z2, t2⟩, z3, s1, s2⟩ := h
  have ha : s.vm.Alike U.vm := hW.alike
  exact ⟨⟨va_Nw.warmM hW n1, va_Nw.warmM hW n2⟩, ⟨z1.moved ha, t1.moved ha⟩, ⟨z2.moved ha, t2.moved ha⟩, z3.moved ha, s1.moved ha, fun q hq => vk_R.warm hW (s2 q hq)⟩
theorem Amb.kept {am : Am} {A : Nat → Prop} {U : State} {H H1 : Heap} (h : Amb am A U H) (hq : ∀ a : Nat, a < H.size → ¬ A a → H1[a]? = H[a]?) : Amb am A U H1 := by
  obtain ⟨n, ⟨z1, t1⟩, ⟨z2, t2⟩, z3, s1, s2⟩ := h
  exact ⟨n, ⟨z1.kept hq, t1.kept hq⟩, ⟨z2.kept hq, t2.kept hq⟩, z3.kept hq, s1.kept hq, s2⟩
theorem Amb.narrow {am : Am} {A B : Nat → Prop} {U : State} {H : Heap} (h : Amb am A U H) (hAB : ∀ q, B q → A q) : Amb am B U H := by
  obtain ⟨n, ⟨z1, t1⟩, ⟨z2, t2⟩, z3, s1, s2⟩ := h
  exact ⟨n, ⟨z1.narrow hAB, t1.narrow hAB⟩, ⟨z2.narrow hAB, t2.narrow hAB⟩, z3.narrow hAB, s1.narrow hAB, s2⟩
/-! the world in a state, a contract, the judgement -/
def StW (E : Ev) (M : Mm) (U : State) : Prop := va_P E.1 vwCl (wlist E M) U.heap ∧ va_K E.1 vwCl (tysE E) U ∧ va_D (fun _ => True) (wlist E M) ∧ Amb E.2.2.2.2 (inW E) U U.heap
def rmD (d : Nat) : Room := { frames := d, cells := 0, slots := 0, locals := 60 * d }
def CmQ (E : Ev) (post : Option Value → Mm → Prop) : Array Value → State → Outcome → State → Prop := fun _ st oc t => (∃ (r : Option Value) (M' : Mm), oc = .returned r ∧ post r M' ∧ StW E M' t) ∧ va_F (inW E) st t
def Cm (l : Launch) (E : Ev) (y : MethodName) (cc : ByteArray) (maxL : Nat) (ret : Option FieldType) (d : Nat) (as : List Value) (M : Mm) (post : Option Value → Mm → Prop) : Prop :=
  Met l y (Cond.code y cc maxL ret :: wsT) (rmD d) (va_Pc as (StW E M)) (CmQ E post) 0 0 (inW E)
abbrev Kt : Type := (Program × Env × Room × State × MethodId × Array Value) × (List Frame × Method × Code × Nat × Nat) × ((State → Prop) × (Nat → Prop) × Nat)
def G (l : Launch) (E : Ev) (K : Kt) (pc : Nat) (lv : List (Nat × Value)) (st : List Value) (M : Mm) : Prop :=
  match K with
  | ((p, e, R, s, m, args), (below, meth, c, cells, slots), (Q, A, nL)) => ∀ (H : Heap) (locs : List Loc) (ls : Array Slot), lv_has ls nL lv → va_P E.1 vwCl (wlist E M) H → va_D A (wlist E M) → va_S A s.heap H locs → W p l e R s m args below meth c H locs cells slots Q (F0 m pc ls st)
def Ok (l : Launch) (E : Ev) (K : Kt) (cc : ByteArray) (own : String) (d nL : Nat) : Prop :=
  match K with
  | ((p, _, R, s, m, args), (_, _, c, cells, slots), (_, A, nL')) => p.tables.exec = Jvm.exec ∧ c.code = cc ∧ c.maxLocals = nL ∧ nL' = nL ∧ s.vm.findClass own = some m.cls ∧ (∀ w ∈ wsT, w.before args s = true) ∧ va_K E.1 vwCl (tysE E) s ∧ Amb E.2.2.2.2 A s s.heap ∧ (∀ q, inW E q → A q) ∧ d ≤ R.frames ∧ 60 * d ≤ R.locals ∧ cells ≤ R.cells ∧ slots ≤ R.slots
def Rt (E : Ev) (K : Kt) (ret : Option FieldType) (post : Option Value → Mm → Prop) : Prop :=
  match K with
  | ((_, _, _, s, _, args), (below, meth, _, cells, slots), (Q, A, _)) => Q = MQ below (CmQ E post) args s 0 0 (inW E) ∧ cells = 0 ∧ slots = 0 ∧ A = inW E ∧ meth.sig.returnType = ret ∧ meth.locks = false
theorem ws_goodIn : ∀ w ∈ wsT, w ∈ wsT ∧ ((w.onTables && w.keeps) = true ∨ ∃ ty, w = .arrayClass ty) := fun w h => ⟨h, good_of_word (List.mem_filter.mp h).2⟩
theorem ws_goodC {c : Cond} (h : c ∈ wsT) : GoodIn wsT (c :: wsT) := fun w hw => (List.mem_cons.mp hw).elim (fun e => by rw [e]; exact ws_goodIn c h) (fun h => ws_goodIn w h)
theorem StW.blind {E : Ev} {M : Mm} {as : List Value} : FrameBlind (va_Pc as (StW E M)) := fun a U g mk h => by
  obtain ⟨h0, hP, hK, hD, hA⟩ := h
  exact ⟨h0, hP, va_K.moved (u := U) (U := U.calling g mk a) (Vm.Alike.refl U.vm) hK, hD, hA.same (U := U.calling g mk a) rfl⟩
/-- a contract out of a walk in the judgement -/
theorem Cm.of {l : Launch} {E : Ev} {y : MethodName} {cc : ByteArray} {maxL : Nat} {ret : Option FieldType} {d : Nat} {as : List Value} {M : Mm} {post : Option Value → Mm → Prop} (hy : plainName y.cls = true) (hn : (lg_sl as).length ≤ maxL)
    (body : ∀ K : Kt, Ok l E K cc y.cls d maxL → Rt E K ret post → G l E K 0 (lv_args 0 as) [] M) : Cm l E y cc maxL ret d as M post := by
  refine Met.ofW (cc := cc) (maxL := maxL) (ret := ret) hy rfl ?_
  intro p e s m args below meth c s₁ B hml hv
  obtain ⟨rfl, hP, hK, hD, hA⟩ := hv
  have hts := atoms_spec (ws := Cond.code y cc maxL ret :: wsT) B.pre
  have hown : s.vm.findClass y.cls = some m.cls := findClass_of_methodNamed B.named
  rw [lg_entry_eq]
  exact body ((p, e, rmD d, s, m, as.toArray), (below, meth, c, 0, 0), (MQ below (CmQ E post) as.toArray s 0 0 (inW E), inW E, maxL))
    ⟨B.exec, B.bytes, hml, rfl, hown, fun w h => hts w (List.mem_cons_of_mem _ h), hK, hA, fun _ h => h, Nat.le_refl _, Nat.le_refl _, Nat.le_refl _, Nat.le_refl _⟩
    ⟨rfl, rfl, rfl, rfl, B.returns, B.notSynchronized⟩ s.heap [] _ (lv_entry as hn) hP (inW_A hD) va_S.rf
theorem stw_end {E : Ev} {M : Mm} {s t : State} {H : Heap} {A : Nat → Prop} {locs : List Loc} (hP : va_P E.1 vwCl (wlist E M) H) (hK : va_K E.1 vwCl (tysE E) s) (hD : va_D A (wlist E M)) (hA : Amb E.2.2.2.2 A s s.heap) (hS : va_S A s.heap H locs) (hin : ∀ q, inW E q → A q) (ht : t.heap = H) (hW : s.WarmedH t.vm) : StW E M t :=
  ⟨by rw [ht]; exact hP, va_K.moved hW.alike hK, hD.weaken (fun _ _ _ _ => trivial), by rw [ht]; exact ((hA.kept (fun a h1 h2 => hS.2.1 a h1 h2)).warm hW).narrow hin⟩

theorem gs_iadd {l : Launch} {E : Ev} {K : Kt} {cc : ByteArray} {own : String} {d nL pc : Nat} {lv : List (Nat × Value)} {st : List Value} {M : Mm} {x y : Int32} (k : Ok l E K cc own d nL)  (hd : decode cc pc = .ok (.iadd, 1)) (h : G l E K (pc + 1) lv (.int (x + y) :: st) M) : G l E K pc lv (.int y :: .int x :: st) M := by
  obtain ⟨⟨p, e, R, s, m, args⟩, ⟨below, meth, c, cells, slots⟩, ⟨Q, A, nL'⟩⟩ := K
  obtain ⟨hx, hb, hml, hnl, hown, hts, hK, hA, hin, hfr, hlo, hce, hsl⟩ := id k
  subst hnl
  intro H locs ls hl hP hD hS
  exact lv_iadd hx hb hd (h H locs ls hl hP hD hS)
theorem gs_isub {l : Launch} {E : Ev} {K : Kt} {cc : ByteArray} {own : String} {d nL pc : Nat} {lv : List (Nat × Value)} {st : List Value} {M : Mm} {x y : Int32} (k : Ok l E K cc own d nL)  (hd : decode cc pc = .ok (.isub, 1)) (h : G l E K (pc + 1) lv (.int (x - y) :: st) M) : G l E K pc lv (.int y :: .int x :: st) M := by
  obtain ⟨⟨p, e, R, s, m, args⟩, ⟨below, meth, c, cells, slots⟩, ⟨Q, A, nL'⟩⟩ := K
  obtain ⟨hx, hb, hml, hnl, hown, hts, hK, hA, hin, hfr, hlo, hce, hsl⟩ := id k
  subst hnl
  intro H locs ls hl hP hD hS
  exact lv_isub hx hb hd (h H locs ls hl hP hD hS)
theorem gs_imul {l : Launch} {E : Ev} {K : Kt} {cc : ByteArray} {own : String} {d nL pc : Nat} {lv : List (Nat × Value)} {st : List Value} {M : Mm} {x y : Int32} (k : Ok l E K cc own d nL)  (hd : decode cc pc = .ok (.imul, 1)) (h : G l E K (pc + 1) lv (.int (x * y) :: st) M) : G l E K pc lv (.int y :: .int x :: st) M := by
  obtain ⟨⟨p, e, R, s, m, args⟩, ⟨below, meth, c, cells, slots⟩, ⟨Q, A, nL'⟩⟩ := K
  obtain ⟨hx, hb, hml, hnl, hown, hts, hK, hA, hin, hfr, hlo, hce, hsl⟩ := id k
  subst hnl
  intro H locs ls hl hP hD hS
  exact lv_imul hx hb hd (h H locs ls hl hP hD hS)
theorem gs_iand {l : Launch} {E : Ev} {K : Kt} {cc : ByteArray} {own : String} {d nL pc : Nat} {lv : List (Nat × Value)} {st : List Value} {M : Mm} {x y : Int32} (k : Ok l E K cc own d nL)  (hd : decode cc pc = .ok (.iand, 1)) (h : G l E K (pc + 1) lv (.int (x &&& y) :: st) M) : G l E K pc lv (.int y :: .int x :: st) M := by
  obtain ⟨⟨p, e, R, s, m, args⟩, ⟨below, meth, c, cells, slots⟩, ⟨Q, A, nL'⟩⟩ := K
  obtain ⟨hx, hb, hml, hnl, hown, hts, hK, hA, hin, hfr, hlo, hce, hsl⟩ := id k
  subst hnl
  intro H locs ls hl hP hD hS
  exact lv_iand hx hb hd (h H locs ls hl hP hD hS)
theorem gs_ior {l : Launch} {E : Ev} {K : Kt} {cc : ByteArray} {own : String} {d nL pc : Nat} {lv : List (Nat × Value)} {st : List Value} {M : Mm} {x y : Int32} (k : Ok l E K cc own d nL)  (hd : decode cc pc = .ok (.ior, 1)) (h : G l E K (pc + 1) lv (.int (x ||| y) :: st) M) : G l E K pc lv (.int y :: .int x :: st) M := by
  obtain ⟨⟨p, e, R, s, m, args⟩, ⟨below, meth, c, cells, slots⟩, ⟨Q, A, nL'⟩⟩ := K
  obtain ⟨hx, hb, hml, hnl, hown, hts, hK, hA, hin, hfr, hlo, hce, hsl⟩ := id k
  subst hnl
  intro H locs ls hl hP hD hS
  exact lv_ior hx hb hd (h H locs ls hl hP hD hS)
theorem gs_ixor {l : Launch} {E : Ev} {K : Kt} {cc : ByteArray} {own : String} {d nL pc : Nat} {lv : List (Nat × Value)} {st : List Value} {M : Mm} {x y : Int32} (k : Ok l E K cc own d nL)  (hd : decode cc pc = .ok (.ixor, 1)) (h : G l E K (pc + 1) lv (.int (x ^^^ y) :: st) M) : G l E K pc lv (.int y :: .int x :: st) M := by
  obtain ⟨⟨p, e, R, s, m, args⟩, ⟨below, meth, c, cells, slots⟩, ⟨Q, A, nL'⟩⟩ := K
  obtain ⟨hx, hb, hml, hnl, hown, hts, hK, hA, hin, hfr, hlo, hce, hsl⟩ := id k
  subst hnl
  intro H locs ls hl hP hD hS
  exact lv_ixor hx hb hd (h H locs ls hl hP hD hS)
theorem gs_ishl {l : Launch} {E : Ev} {K : Kt} {cc : ByteArray} {own : String} {d nL pc : Nat} {lv : List (Nat × Value)} {st : List Value} {M : Mm} {x y : Int32} (k : Ok l E K cc own d nL)  (hd : decode cc pc = .ok (.ishl, 1)) (h : G l E K (pc + 1) lv (.int (x <<< (y &&& 31)) :: st) M) : G l E K pc lv (.int y :: .int x :: st) M := by
  obtain ⟨⟨p, e, R, s, m, args⟩, ⟨below, meth, c, cells, slots⟩, ⟨Q, A, nL'⟩⟩ := K
  obtain ⟨hx, hb, hml, hnl, hown, hts, hK, hA, hin, hfr, hlo, hce, hsl⟩ := id k
  subst hnl
  intro H locs ls hl hP hD hS
  exact lv_ishl hx hb hd (h H locs ls hl hP hD hS)
theorem gs_ishr {l : Launch} {E : Ev} {K : Kt} {cc : ByteArray} {own : String} {d nL pc : Nat} {lv : List (Nat × Value)} {st : List Value} {M : Mm} {x y : Int32} (k : Ok l E K cc own d nL)  (hd : decode cc pc = .ok (.ishr, 1)) (h : G l E K (pc + 1) lv (.int (x >>> (y &&& 31)) :: st) M) : G l E K pc lv (.int y :: .int x :: st) M := by
  obtain ⟨⟨p, e, R, s, m, args⟩, ⟨below, meth, c, cells, slots⟩, ⟨Q, A, nL'⟩⟩ := K
  obtain ⟨hx, hb, hml, hnl, hown, hts, hK, hA, hin, hfr, hlo, hce, hsl⟩ := id k
  subst hnl
  intro H locs ls hl hP hD hS
  exact lv_ishr hx hb hd (h H locs ls hl hP hD hS)
theorem gs_iushr {l : Launch} {E : Ev} {K : Kt} {cc : ByteArray} {own : String} {d nL pc : Nat} {lv : List (Nat × Value)} {st : List Value} {M : Mm} {x y v : Int32} (k : Ok l E K cc own d nL) (hv : (x.toUInt32 >>> (y.toUInt32 &&& Int32.toUInt32 31)).toInt32 = v) (hd : decode cc pc = .ok (.iushr, 1)) (h : G l E K (pc + 1) lv (.int v :: st) M) : G l E K pc lv (.int y :: .int x :: st) M := by
  obtain ⟨⟨p, e, R, s, m, args⟩, ⟨below, meth, c, cells, slots⟩, ⟨Q, A, nL'⟩⟩ := K
  obtain ⟨hx, hb, hml, hnl, hown, hts, hK, hA, hin, hfr, hlo, hce, hsl⟩ := id k
  subst hnl
  intro H locs ls hl hP hD hS
  exact lv_iushr hx hb hd hv (h H locs ls hl hP hD hS)
theorem gs_idiv {l : Launch} {E : Ev} {K : Kt} {cc : ByteArray} {own : String} {d nL pc : Nat} {lv : List (Nat × Value)} {st : List Value} {M : Mm} {x y : Int32} (k : Ok l E K cc own d nL) (hne : ¬ y = 0) (hd : decode cc pc = .ok (.idiv, 1)) (h : G l E K (pc + 1) lv (.int (x / y) :: st) M) : G l E K pc lv (.int y :: .int x :: st) M := by
  obtain ⟨⟨p, e, R, s, m, args⟩, ⟨below, meth, c, cells, slots⟩, ⟨Q, A, nL'⟩⟩ := K
  obtain ⟨hx, hb, hml, hnl, hown, hts, hK, hA, hin, hfr, hlo, hce, hsl⟩ := id k
  subst hnl
  intro H locs ls hl hP hD hS
  exact lv_idiv hx hb hd hne (h H locs ls hl hP hD hS)
theorem gs_irem {l : Launch} {E : Ev} {K : Kt} {cc : ByteArray} {own : String} {d nL pc : Nat} {lv : List (Nat × Value)} {st : List Value} {M : Mm} {x y : Int32} (k : Ok l E K cc own d nL) (hne : ¬ y = 0) (hd : decode cc pc = .ok (.irem, 1)) (h : G l E K (pc + 1) lv (.int (x - x / y * y) :: st) M) : G l E K pc lv (.int y :: .int x :: st) M := by
  obtain ⟨⟨p, e, R, s, m, args⟩, ⟨below, meth, c, cells, slots⟩, ⟨Q, A, nL'⟩⟩ := K
  obtain ⟨hx, hb, hml, hnl, hown, hts, hK, hA, hin, hfr, hlo, hce, hsl⟩ := id k
  subst hnl
  intro H locs ls hl hP hD hS
  exact lv_irem hx hb hd hne (h H locs ls hl hP hD hS)
theorem gs_ineg {l : Launch} {E : Ev} {K : Kt} {cc : ByteArray} {own : String} {d nL pc : Nat} {lv : List (Nat × Value)} {st : List Value} {M : Mm} {x : Int32} (k : Ok l E K cc own d nL)  (hd : decode cc pc = .ok (.ineg, 1)) (h : G l E K (pc + 1) lv (.int (-x) :: st) M) : G l E K pc lv (.int x :: st) M := by
  obtain ⟨⟨p, e, R, s, m, args⟩, ⟨below, meth, c, cells, slots⟩, ⟨Q, A, nL'⟩⟩ := K
  obtain ⟨hx, hb, hml, hnl, hown, hts, hK, hA, hin, hfr, hlo, hce, hsl⟩ := id k
  subst hnl
  intro H locs ls hl hP hD hS
  exact lv_ineg hx hb hd (h H locs ls hl hP hD hS)
theorem gs_i2l {l : Launch} {E : Ev} {K : Kt} {cc : ByteArray} {own : String} {d nL pc : Nat} {lv : List (Nat × Value)} {st : List Value} {M : Mm} {x : Int32} (k : Ok l E K cc own d nL)  (hd : decode cc pc = .ok (.i2l, 1)) (h : G l E K (pc + 1) lv (.long x.toInt64 :: st) M) : G l E K pc lv (.int x :: st) M := by
  obtain ⟨⟨p, e, R, s, m, args⟩, ⟨below, meth, c, cells, slots⟩, ⟨Q, A, nL'⟩⟩ := K
  obtain ⟨hx, hb, hml, hnl, hown, hts, hK, hA, hin, hfr, hlo, hce, hsl⟩ := id k
  subst hnl
  intro H locs ls hl hP hD hS
  exact lv_i2l hx hb hd rfl (h H locs ls hl hP hD hS)
theorem gs_i2b {l : Launch} {E : Ev} {K : Kt} {cc : ByteArray} {own : String} {d nL pc : Nat} {lv : List (Nat × Value)} {st : List Value} {M : Mm} {x v : Int32} (k : Ok l E K cc own d nL) (hv : x.toInt8.toInt32 = v) (hd : decode cc pc = .ok (.i2b, 1)) (h : G l E K (pc + 1) lv (.int v :: st) M) : G l E K pc lv (.int x :: st) M := by
  obtain ⟨⟨p, e, R, s, m, args⟩, ⟨below, meth, c, cells, slots⟩, ⟨Q, A, nL'⟩⟩ := K
  obtain ⟨hx, hb, hml, hnl, hown, hts, hK, hA, hin, hfr, hlo, hce, hsl⟩ := id k
  subst hnl
  intro H locs ls hl hP hD hS
  exact lv_i2b hx hb hd hv (h H locs ls hl hP hD hS)
theorem gs_i2c {l : Launch} {E : Ev} {K : Kt} {cc : ByteArray} {own : String} {d nL pc : Nat} {lv : List (Nat × Value)} {st : List Value} {M : Mm} {x v : Int32} (k : Ok l E K cc own d nL) (hv : (x.toUInt32 % 65536).toInt32 = v) (hd : decode cc pc = .ok (.i2c, 1)) (h : G l E K (pc + 1) lv (.int v :: st) M) : G l E K pc lv (.int x :: st) M := by
  obtain ⟨⟨p, e, R, s, m, args⟩, ⟨below, meth, c, cells, slots⟩, ⟨Q, A, nL'⟩⟩ := K
  obtain ⟨hx, hb, hml, hnl, hown, hts, hK, hA, hin, hfr, hlo, hce, hsl⟩ := id k
  subst hnl
  intro H locs ls hl hP hD hS
  exact lv_i2c hx hb hd hv (h H locs ls hl hP hD hS)
theorem gs_lmul {l : Launch} {E : Ev} {K : Kt} {cc : ByteArray} {own : String} {d nL pc : Nat} {lv : List (Nat × Value)} {st : List Value} {M : Mm} {x y : Int64} (k : Ok l E K cc own d nL)  (hd : decode cc pc = .ok (.lmul, 1)) (h : G l E K (pc + 1) lv (.long (x * y) :: st) M) : G l E K pc lv (.long y :: .long x :: st) M := by
  obtain ⟨⟨p, e, R, s, m, args⟩, ⟨below, meth, c, cells, slots⟩, ⟨Q, A, nL'⟩⟩ := K
  obtain ⟨hx, hb, hml, hnl, hown, hts, hK, hA, hin, hfr, hlo, hce, hsl⟩ := id k
  subst hnl
  intro H locs ls hl hP hD hS
  exact lv_lmul hx hb hd (h H locs ls hl hP hD hS)
theorem gs_ladd {l : Launch} {E : Ev} {K : Kt} {cc : ByteArray} {own : String} {d nL pc : Nat} {lv : List (Nat × Value)} {st : List Value} {M : Mm} {x y : Int64} (k : Ok l E K cc own d nL)  (hd : decode cc pc = .ok (.ladd, 1)) (h : G l E K (pc + 1) lv (.long (x + y) :: st) M) : G l E K pc lv (.long y :: .long x :: st) M := by
  obtain ⟨⟨p, e, R, s, m, args⟩, ⟨below, meth, c, cells, slots⟩, ⟨Q, A, nL'⟩⟩ := K
  obtain ⟨hx, hb, hml, hnl, hown, hts, hK, hA, hin, hfr, hlo, hce, hsl⟩ := id k
  subst hnl
  intro H locs ls hl hP hD hS
  exact lv_ladd hx hb hd (h H locs ls hl hP hD hS)
theorem gs_lcmp {l : Launch} {E : Ev} {K : Kt} {cc : ByteArray} {own : String} {d nL pc : Nat} {lv : List (Nat × Value)} {st : List Value} {M : Mm} {x y : Int64} (k : Ok l E K cc own d nL)  (hd : decode cc pc = .ok (.lcmp, 1)) (h : G l E K (pc + 1) lv (.int (lg_cmp x y) :: st) M) : G l E K pc lv (.long y :: .long x :: st) M := by
  obtain ⟨⟨p, e, R, s, m, args⟩, ⟨below, meth, c, cells, slots⟩, ⟨Q, A, nL'⟩⟩ := K
  obtain ⟨hx, hb, hml, hnl, hown, hts, hK, hA, hin, hfr, hlo, hce, hsl⟩ := id k
  subst hnl
  intro H locs ls hl hP hD hS
  exact W.lcmp hx hb hd (h H locs ls hl hP hD hS)
theorem gs_dup {l : Launch} {E : Ev} {K : Kt} {cc : ByteArray} {own : String} {d nL pc : Nat} {lv : List (Nat × Value)} {st : List Value} {M : Mm} {v : Value} (k : Ok l E K cc own d nL) (hc : v.category = 1) (hd : decode cc pc = .ok (.dup, 1)) (h : G l E K (pc + 1) lv (v :: v :: st) M) : G l E K pc lv (v :: st) M := by
  obtain ⟨⟨p, e, R, s, m, args⟩, ⟨below, meth, c, cells, slots⟩, ⟨Q, A, nL'⟩⟩ := K
  obtain ⟨hx, hb, hml, hnl, hown, hts, hK, hA, hin, hfr, hlo, hce, hsl⟩ := id k
  subst hnl
  intro H locs ls hl hP hD hS
  exact lv_dup hx hb hd hc (h H locs ls hl hP hD hS)
theorem gs_pop {l : Launch} {E : Ev} {K : Kt} {cc : ByteArray} {own : String} {d nL pc : Nat} {lv : List (Nat × Value)} {st : List Value} {M : Mm} {v : Value} (k : Ok l E K cc own d nL) (hc : v.category = 1) (hd : decode cc pc = .ok (.pop, 1)) (h : G l E K (pc + 1) lv st M) : G l E K pc lv (v :: st) M := by
  obtain ⟨⟨p, e, R, s, m, args⟩, ⟨below, meth, c, cells, slots⟩, ⟨Q, A, nL'⟩⟩ := K
  obtain ⟨hx, hb, hml, hnl, hown, hts, hK, hA, hin, hfr, hlo, hce, hsl⟩ := id k
  subst hnl
  intro H locs ls hl hP hD hS
  exact lv_pop hx hb hd hc (h H locs ls hl hP hD hS)
theorem gs_dup2 {l : Launch} {E : Ev} {K : Kt} {cc : ByteArray} {own : String} {d nL pc : Nat} {lv : List (Nat × Value)} {st : List Value} {M : Mm} {v u : Value} (k : Ok l E K cc own d nL) (hc : v.category = 1) (hc2 : u.category = 1) (hd : decode cc pc = .ok (.dup2, 1)) (h : G l E K (pc + 1) lv (v :: u :: v :: u :: st) M) : G l E K pc lv (v :: u :: st) M := by
  obtain ⟨⟨p, e, R, s, m, args⟩, ⟨below, meth, c, cells, slots⟩, ⟨Q, A, nL'⟩⟩ := K
  obtain ⟨hx, hb, hml, hnl, hown, hts, hK, hA, hin, hfr, hlo, hce, hsl⟩ := id k
  subst hnl
  intro H locs ls hl hP hD hS
  exact lv_dup2_11 hx hb hd hc hc2 (h H locs ls hl hP hD hS)
theorem gs_iconst {l : Launch} {E : Ev} {K : Kt} {cc : ByteArray} {own : String} {d nL pc : Nat} {lv : List (Nat × Value)} {st : List Value} {M : Mm} {n : Int} {v : Int32} (k : Ok l E K cc own d nL) (hv : Int32.ofInt n = v) (hd : decode cc pc = .ok (.iconst n, 1)) (h : G l E K (pc + 1) lv (.int v :: st) M) : G l E K pc lv st M := by
  obtain ⟨⟨p, e, R, s, m, args⟩, ⟨below, meth, c, cells, slots⟩, ⟨Q, A, nL'⟩⟩ := K
  obtain ⟨hx, hb, hml, hnl, hown, hts, hK, hA, hin, hfr, hlo, hce, hsl⟩ := id k
  subst hnl
  intro H locs ls hl hP hD hS
  exact lv_iconst hx hb hd hv (h H locs ls hl hP hD hS)
theorem gs_bipush {l : Launch} {E : Ev} {K : Kt} {cc : ByteArray} {own : String} {d nL pc : Nat} {lv : List (Nat × Value)} {st : List Value} {M : Mm} {n : Int} {v : Int32} (k : Ok l E K cc own d nL) (hv : (Int8.ofInt n).toInt32 = v) (hd : decode cc pc = .ok (.bipush n, 2)) (h : G l E K (pc + 2) lv (.int v :: st) M) : G l E K pc lv st M := by
  obtain ⟨⟨p, e, R, s, m, args⟩, ⟨below, meth, c, cells, slots⟩, ⟨Q, A, nL'⟩⟩ := K
  obtain ⟨hx, hb, hml, hnl, hown, hts, hK, hA, hin, hfr, hlo, hce, hsl⟩ := id k
  subst hnl
  intro H locs ls hl hP hD hS
  exact lv_bipush hx hb hd hv (h H locs ls hl hP hD hS)
theorem gs_sipush {l : Launch} {E : Ev} {K : Kt} {cc : ByteArray} {own : String} {d nL pc : Nat} {lv : List (Nat × Value)} {st : List Value} {M : Mm} {n : Int} {v : Int32} (k : Ok l E K cc own d nL) (hv : (Int16.ofInt n).toInt32 = v) (hd : decode cc pc = .ok (.sipush n, 3)) (h : G l E K (pc + 3) lv (.int v :: st) M) : G l E K pc lv st M := by
  obtain ⟨⟨p, e, R, s, m, args⟩, ⟨below, meth, c, cells, slots⟩, ⟨Q, A, nL'⟩⟩ := K
  obtain ⟨hx, hb, hml, hnl, hown, hts, hK, hA, hin, hfr, hlo, hce, hsl⟩ := id k
  subst hnl
  intro H locs ls hl hP hD hS
  exact lv_sipush hx hb hd hv (h H locs ls hl hP hD hS)
theorem gs_lconst {l : Launch} {E : Ev} {K : Kt} {cc : ByteArray} {own : String} {d nL pc : Nat} {lv : List (Nat × Value)} {st : List Value} {M : Mm} {n : Fin 2} {v : Int64} (k : Ok l E K cc own d nL) (hv : Int64.ofNat (n : Nat) = v) (hd : decode cc pc = .ok (.lconst n, 1)) (h : G l E K (pc + 1) lv (.long v :: st) M) : G l E K pc lv st M := by
  obtain ⟨⟨p, e, R, s, m, args⟩, ⟨below, meth, c, cells, slots⟩, ⟨Q, A, nL'⟩⟩ := K
  obtain ⟨hx, hb, hml, hnl, hown, hts, hK, hA, hin, hfr, hlo, hce, hsl⟩ := id k
  subst hnl
  intro H locs ls hl hP hD hS
  exact lv_lconst hx hb hd hv (h H locs ls hl hP hD hS)
theorem gs_iload_n {l : Launch} {E : Ev} {K : Kt} {cc : ByteArray} {own : String} {d nL pc : Nat} {lv : List (Nat × Value)} {st : List Value} {M : Mm} {k0 : Fin 4} {i q : Nat} {x : Int32} (k : Ok l E K cc own d nL) (hi : (k0 : Nat) = i) (hq : lv[q]? = some (i, .int x)) (hd : decode cc pc = .ok (.iload_n k0, 1)) (h : G l E K (pc + 1) lv (.int x :: st) M) : G l E K pc lv st M := by
  obtain ⟨⟨p, e, R, s, m, args⟩, ⟨below, meth, c, cells, slots⟩, ⟨Q, A, nL'⟩⟩ := K
  obtain ⟨hx, hb, hml, hnl, hown, hts, hK, hA, hin, hfr, hlo, hce, hsl⟩ := id k
  subst hnl
  intro H locs ls hl hP hD hS
  exact lv_iload_n hx hb hd hi (lv_at hl q hq) (h H locs ls hl hP hD hS)
theorem gs_iload {l : Launch} {E : Ev} {K : Kt} {cc : ByteArray} {own : String} {d nL pc : Nat} {lv : List (Nat × Value)} {st : List Value} {M : Mm} {i q : Nat} {x : Int32} (k : Ok l E K cc own d nL) (hq : lv[q]? = some (i, .int x)) (hd : decode cc pc = .ok (.iload i, 2)) (h : G l E K (pc + 2) lv (.int x :: st) M) : G l E K pc lv st M := by
  obtain ⟨⟨p, e, R, s, m, args⟩, ⟨below, meth, c, cells, slots⟩, ⟨Q, A, nL'⟩⟩ := K
  obtain ⟨hx, hb, hml, hnl, hown, hts, hK, hA, hin, hfr, hlo, hce, hsl⟩ := id k
  subst hnl
  intro H locs ls hl hP hD hS
  exact lv_iload hx hb hd (lv_at hl q hq) (h H locs ls hl hP hD hS)
theorem gs_istore_n {l : Launch} {E : Ev} {K : Kt} {cc : ByteArray} {own : String} {d nL pc : Nat} {lv : List (Nat × Value)} {st : List Value} {M : Mm} {k0 : Fin 4} {i : Nat} {x : Int32} {lv' : List (Nat × Value)} (k : Ok l E K cc own d nL) (hi : (k0 : Nat) = i) (hn : i < nL) (hl' : (i, Value.int x) :: lv.filter (fun q => !(q.1 == i) && !(q.1 + 1 == i && q.2.category == 2)) = lv') (hd : decode cc pc = .ok (.istore_n k0, 1)) (h : G l E K (pc + 1) lv' st M) : G l E K pc lv (.int x :: st) M := by
  obtain ⟨⟨p, e, R, s, m, args⟩, ⟨below, meth, c, cells, slots⟩, ⟨Q, A, nL'⟩⟩ := K
  obtain ⟨hx, hb, hml, hnl, hown, hts, hK, hA, hin, hfr, hlo, hce, hsl⟩ := id k
  subst hnl
  intro H locs ls hl hP hD hS
  exact lv_istore_n hx hb hd hi hl hn hl' (fun ls hl => h H locs ls hl hP hD hS)
theorem gs_istore {l : Launch} {E : Ev} {K : Kt} {cc : ByteArray} {own : String} {d nL pc : Nat} {lv : List (Nat × Value)} {st : List Value} {M : Mm}  {i : Nat} {x : Int32} {lv' : List (Nat × Value)} (k : Ok l E K cc own d nL)  (hn : i < nL) (hl' : (i, Value.int x) :: lv.filter (fun q => !(q.1 == i) && !(q.1 + 1 == i && q.2.category == 2)) = lv') (hd : decode cc pc = .ok (.istore i, 2)) (h : G l E K (pc + 2) lv' st M) : G l E K pc lv (.int x :: st) M := by
  obtain ⟨⟨p, e, R, s, m, args⟩, ⟨below, meth, c, cells, slots⟩, ⟨Q, A, nL'⟩⟩ := K
  obtain ⟨hx, hb, hml, hnl, hown, hts, hK, hA, hin, hfr, hlo, hce, hsl⟩ := id k
  subst hnl
  intro H locs ls hl hP hD hS
  exact lv_istore hx hb hd  hl hn hl' (fun ls hl => h H locs ls hl hP hD hS)
theorem gs_lload_n {l : Launch} {E : Ev} {K : Kt} {cc : ByteArray} {own : String} {d nL pc : Nat} {lv : List (Nat × Value)} {st : List Value} {M : Mm} {k0 : Fin 4} {i q : Nat} {x : Int64} (k : Ok l E K cc own d nL) (hi : (k0 : Nat) = i) (hq : lv[q]? = some (i, .long x)) (hd : decode cc pc = .ok (.lload_n k0, 1)) (h : G l E K (pc + 1) lv (.long x :: st) M) : G l E K pc lv st M := by
  obtain ⟨⟨p, e, R, s, m, args⟩, ⟨below, meth, c, cells, slots⟩, ⟨Q, A, nL'⟩⟩ := K
  obtain ⟨hx, hb, hml, hnl, hown, hts, hK, hA, hin, hfr, hlo, hce, hsl⟩ := id k
  subst hnl
  intro H locs ls hl hP hD hS
  exact lv_lload_n hx hb hd hi (lv_at hl q hq) (h H locs ls hl hP hD hS)
theorem gs_lload {l : Launch} {E : Ev} {K : Kt} {cc : ByteArray} {own : String} {d nL pc : Nat} {lv : List (Nat × Value)} {st : List Value} {M : Mm} {i q : Nat} {x : Int64} (k : Ok l E K cc own d nL) (hq : lv[q]? = some (i, .long x)) (hd : decode cc pc = .ok (.lload i, 2)) (h : G l E K (pc + 2) lv (.long x :: st) M) : G l E K pc lv st M := by
  obtain ⟨⟨p, e, R, s, m, args⟩, ⟨below, meth, c, cells, slots⟩, ⟨Q, A, nL'⟩⟩ := K
  obtain ⟨hx, hb, hml, hnl, hown, hts, hK, hA, hin, hfr, hlo, hce, hsl⟩ := id k
  subst hnl
  intro H locs ls hl hP hD hS
  exact lv_lload hx hb hd (lv_at hl q hq) (h H locs ls hl hP hD hS)
theorem gs_lstore_n {l : Launch} {E : Ev} {K : Kt} {cc : ByteArray} {own : String} {d nL pc : Nat} {lv : List (Nat × Value)} {st : List Value} {M : Mm} {k0 : Fin 4} {i : Nat} {x : Int64} {lv' : List (Nat × Value)} (k : Ok l E K cc own d nL) (hi : (k0 : Nat) = i) (hn : i + 1 < nL) (hl' : (i, Value.long x) :: lv.filter (fun q => !(q.1 == i) && (!(q.1 == i + 1) && !(q.1 + 1 == i && q.2.category == 2))) = lv') (hd : decode cc pc = .ok (.lstore_n k0, 1)) (h : G l E K (pc + 1) lv' st M) : G l E K pc lv (.long x :: st) M := by
  obtain ⟨⟨p, e, R, s, m, args⟩, ⟨below, meth, c, cells, slots⟩, ⟨Q, A, nL'⟩⟩ := K
  obtain ⟨hx, hb, hml, hnl, hown, hts, hK, hA, hin, hfr, hlo, hce, hsl⟩ := id k
  subst hnl
  intro H locs ls hl hP hD hS
  exact lv_lstore_n hx hb hd hi hl hn hl' (fun ls hl => h H locs ls hl hP hD hS)
theorem gs_lstore {l : Launch} {E : Ev} {K : Kt} {cc : ByteArray} {own : String} {d nL pc : Nat} {lv : List (Nat × Value)} {st : List Value} {M : Mm}  {i : Nat} {x : Int64} {lv' : List (Nat × Value)} (k : Ok l E K cc own d nL)  (hn : i + 1 < nL) (hl' : (i, Value.long x) :: lv.filter (fun q => !(q.1 == i) && (!(q.1 == i + 1) && !(q.1 + 1 == i && q.2.category == 2))) = lv') (hd : decode cc pc = .ok (.lstore i, 2)) (h : G l E K (pc + 2) lv' st M) : G l E K pc lv (.long x :: st) M := by
  obtain ⟨⟨p, e, R, s, m, args⟩, ⟨below, meth, c, cells, slots⟩, ⟨Q, A, nL'⟩⟩ := K
  obtain ⟨hx, hb, hml, hnl, hown, hts, hK, hA, hin, hfr, hlo, hce, hsl⟩ := id k
  subst hnl
  intro H locs ls hl hP hD hS
  exact lv_lstore hx hb hd  hl hn hl' (fun ls hl => h H locs ls hl hP hD hS)
theorem gs_aload_n {l : Launch} {E : Ev} {K : Kt} {cc : ByteArray} {own : String} {d nL pc : Nat} {lv : List (Nat × Value)} {st : List Value} {M : Mm} {k0 : Fin 4} {i q : Nat} {x : Nat} (k : Ok l E K cc own d nL) (hi : (k0 : Nat) = i) (hq : lv[q]? = some (i, .ref x)) (hd : decode cc pc = .ok (.aload_n k0, 1)) (h : G l E K (pc + 1) lv (.ref x :: st) M) : G l E K pc lv st M := by
  obtain ⟨⟨p, e, R, s, m, args⟩, ⟨below, meth, c, cells, slots⟩, ⟨Q, A, nL'⟩⟩ := K
  obtain ⟨hx, hb, hml, hnl, hown, hts, hK, hA, hin, hfr, hlo, hce, hsl⟩ := id k
  subst hnl
  intro H locs ls hl hP hD hS
  exact lv_aload_n hx hb hd hi (lv_at hl q hq) (h H locs ls hl hP hD hS)
theorem gs_aload {l : Launch} {E : Ev} {K : Kt} {cc : ByteArray} {own : String} {d nL pc : Nat} {lv : List (Nat × Value)} {st : List Value} {M : Mm} {i q : Nat} {x : Nat} (k : Ok l E K cc own d nL) (hq : lv[q]? = some (i, .ref x)) (hd : decode cc pc = .ok (.aload i, 2)) (h : G l E K (pc + 2) lv (.ref x :: st) M) : G l E K pc lv st M := by
  obtain ⟨⟨p, e, R, s, m, args⟩, ⟨below, meth, c, cells, slots⟩, ⟨Q, A, nL'⟩⟩ := K
  obtain ⟨hx, hb, hml, hnl, hown, hts, hK, hA, hin, hfr, hlo, hce, hsl⟩ := id k
  subst hnl
  intro H locs ls hl hP hD hS
  exact lv_aload hx hb hd (lv_at hl q hq) (h H locs ls hl hP hD hS)
theorem gs_astore_n {l : Launch} {E : Ev} {K : Kt} {cc : ByteArray} {own : String} {d nL pc : Nat} {lv : List (Nat × Value)} {st : List Value} {M : Mm} {k0 : Fin 4} {i : Nat} {x : Nat} {lv' : List (Nat × Value)} (k : Ok l E K cc own d nL) (hi : (k0 : Nat) = i) (hn : i < nL) (hl' : (i, Value.ref x) :: lv.filter (fun q => !(q.1 == i) && !(q.1 + 1 == i && q.2.category == 2)) = lv') (hd : decode cc pc = .ok (.astore_n k0, 1)) (h : G l E K (pc + 1) lv' st M) : G l E K pc lv (.ref x :: st) M := by
  obtain ⟨⟨p, e, R, s, m, args⟩, ⟨below, meth, c, cells, slots⟩, ⟨Q, A, nL'⟩⟩ := K
  obtain ⟨hx, hb, hml, hnl, hown, hts, hK, hA, hin, hfr, hlo, hce, hsl⟩ := id k
  subst hnl
  intro H locs ls hl hP hD hS
  exact lv_astore_n hx hb hd hi hl hn hl' (fun ls hl => h H locs ls hl hP hD hS)
theorem gs_astore {l : Launch} {E : Ev} {K : Kt} {cc : ByteArray} {own : String} {d nL pc : Nat} {lv : List (Nat × Value)} {st : List Value} {M : Mm}  {i : Nat} {x : Nat} {lv' : List (Nat × Value)} (k : Ok l E K cc own d nL)  (hn : i < nL) (hl' : (i, Value.ref x) :: lv.filter (fun q => !(q.1 == i) && !(q.1 + 1 == i && q.2.category == 2)) = lv') (hd : decode cc pc = .ok (.astore i, 2)) (h : G l E K (pc + 2) lv' st M) : G l E K pc lv (.ref x :: st) M := by
  obtain ⟨⟨p, e, R, s, m, args⟩, ⟨below, meth, c, cells, slots⟩, ⟨Q, A, nL'⟩⟩ := K
  obtain ⟨hx, hb, hml, hnl, hown, hts, hK, hA, hin, hfr, hlo, hce, hsl⟩ := id k
  subst hnl
  intro H locs ls hl hP hD hS
  exact lv_astore hx hb hd  hl hn hl' (fun ls hl => h H locs ls hl hP hD hS)
theorem gs_iinc {l : Launch} {E : Ev} {K : Kt} {cc : ByteArray} {own : String} {d nL pc : Nat} {lv : List (Nat × Value)} {st : List Value} {M : Mm} {i q : Nat} {n : Int} {x v : Int32} {lv' : List (Nat × Value)} (k : Ok l E K cc own d nL) (hq : lv[q]? = some (i, .int x)) (hv : x + Int32.ofInt n = v) (hn : i < nL) (hl' : (i, Value.int v) :: lv.filter (fun q => !(q.1 == i) && !(q.1 + 1 == i && q.2.category == 2)) = lv') (hd : decode cc pc = .ok (.iinc i n, 3)) (h : G l E K (pc + 3) lv' st M) : G l E K pc lv st M := by
  obtain ⟨⟨p, e, R, s, m, args⟩, ⟨below, meth, c, cells, slots⟩, ⟨Q, A, nL'⟩⟩ := K
  obtain ⟨hx, hb, hml, hnl, hown, hts, hK, hA, hin, hfr, hlo, hce, hsl⟩ := id k
  subst hnl
  intro H locs ls hl hP hD hS
  exact lv_iinc hx hb hd hl hq hv hn hl' (fun ls hl => h H locs ls hl hP hD hS)
theorem gs_goto {l : Launch} {E : Ev} {K : Kt} {cc : ByteArray} {own : String} {d nL pc : Nat} {lv : List (Nat × Value)} {st : List Value} {M : Mm} {off : Int} {tgt : Nat} (k : Ok l E K cc own d nL) (ht : (pc : Int) + off = (tgt : Int)) (hd : decode cc pc = .ok (.goto off, 3)) (h : G l E K tgt lv st M) : G l E K pc lv st M := by
  obtain ⟨⟨p, e, R, s, m, args⟩, ⟨below, meth, c, cells, slots⟩, ⟨Q, A, nL'⟩⟩ := K
  obtain ⟨hx, hb, hml, hnl, hown, hts, hK, hA, hin, hfr, hlo, hce, hsl⟩ := id k
  subst hnl
  intro H locs ls hl hP hD hS
  exact lv_goto hx hb hd ht (h H locs ls hl hP hD hS)
-- branches
theorem gs_if_eq {l : Launch} {E : Ev} {K : Kt} {cc : ByteArray} {own : String} {d nL pc : Nat} {lv : List (Nat × Value)} {st : List Value} {M : Mm} {x : Int32} {off : Int} {tgt : Nat} (k : Ok l E K cc own d nL) (ht : (pc : Int) + off = (tgt : Int)) (hd : decode cc pc = .ok (.ifCond .eq off, 3)) (kt : x = 0 → G l E K tgt lv st M) (kf : ¬ x = 0 → G l E K (pc + 3) lv st M) : G l E K pc lv (.int x :: st) M := by
  obtain ⟨⟨p, e, R, s, m, args⟩, ⟨below, meth, c, cells, slots⟩, ⟨Q, A, nL'⟩⟩ := K
  obtain ⟨hx, hb, hml, hnl, hown, hts, hK, hA, hin, hfr, hlo, hce, hsl⟩ := id k
  subst hnl
  intro H locs ls hl hP hD hS
  exact lv_if_eq hx hb hd ht (fun z => kt z H locs ls hl hP hD hS) (fun z => kf z H locs ls hl hP hD hS)
theorem gs_icmp_eq {l : Launch} {E : Ev} {K : Kt} {cc : ByteArray} {own : String} {d nL pc : Nat} {lv : List (Nat × Value)} {st : List Value} {M : Mm} {x y : Int32} {off : Int} {tgt : Nat} (k : Ok l E K cc own d nL) (ht : (pc : Int) + off = (tgt : Int)) (hd : decode cc pc = .ok (.if_icmp .eq off, 3)) (kt : x = y → G l E K tgt lv st M) (kf : ¬ x = y → G l E K (pc + 3) lv st M) : G l E K pc lv (.int y :: .int x :: st) M := by
  obtain ⟨⟨p, e, R, s, m, args⟩, ⟨below, meth, c, cells, slots⟩, ⟨Q, A, nL'⟩⟩ := K
  obtain ⟨hx, hb, hml, hnl, hown, hts, hK, hA, hin, hfr, hlo, hce, hsl⟩ := id k
  subst hnl
  intro H locs ls hl hP hD hS
  exact lv_icmp_eq hx hb hd ht (fun z => kt z H locs ls hl hP hD hS) (fun z => kf z H locs ls hl hP hD hS)
theorem gs_if_ne {l : Launch} {E : Ev} {K : Kt} {cc : ByteArray} {own : String} {d nL pc : Nat} {lv : List (Nat × Value)} {st : List Value} {M : Mm} {x : Int32} {off : Int} {tgt : Nat} (k : Ok l E K cc own d nL) (ht : (pc : Int) + off = (tgt : Int)) (hd : decode cc pc = .ok (.ifCond .ne off, 3)) (kt : ¬ x = 0 → G l E K tgt lv st M) (kf : x = 0 → G l E K (pc + 3) lv st M) : G l E K pc lv (.int x :: st) M := by
  obtain ⟨⟨p, e, R, s, m, args⟩, ⟨below, meth, c, cells, slots⟩, ⟨Q, A, nL'⟩⟩ := K
  obtain ⟨hx, hb, hml, hnl, hown, hts, hK, hA, hin, hfr, hlo, hce, hsl⟩ := id k
  subst hnl
  intro H locs ls hl hP hD hS
  exact lv_if_ne hx hb hd ht (fun z => kt z H locs ls hl hP hD hS) (fun z => kf z H locs ls hl hP hD hS)
theorem gs_icmp_ne {l : Launch} {E : Ev} {K : Kt} {cc : ByteArray} {own : String} {d nL pc : Nat} {lv : List (Nat × Value)} {st : List Value} {M : Mm} {x y : Int32} {off : Int} {tgt : Nat} (k : Ok l E K cc own d nL) (ht : (pc : Int) + off = (tgt : Int)) (hd : decode cc pc = .ok (.if_icmp .ne off, 3)) (kt : ¬ x = y → G l E K tgt lv st M) (kf : x = y → G l E K (pc + 3) lv st M) : G l E K pc lv (.int y :: .int x :: st) M := by
  obtain ⟨⟨p, e, R, s, m, args⟩, ⟨below, meth, c, cells, slots⟩, ⟨Q, A, nL'⟩⟩ := K
  obtain ⟨hx, hb, hml, hnl, hown, hts, hK, hA, hin, hfr, hlo, hce, hsl⟩ := id k
  subst hnl
  intro H locs ls hl hP hD hS
  exact lv_icmp_ne hx hb hd ht (fun z => kt z H locs ls hl hP hD hS) (fun z => kf z H locs ls hl hP hD hS)
theorem gs_if_lt {l : Launch} {E : Ev} {K : Kt} {cc : ByteArray} {own : String} {d nL pc : Nat} {lv : List (Nat × Value)} {st : List Value} {M : Mm} {x : Int32} {off : Int} {tgt : Nat} (k : Ok l E K cc own d nL) (ht : (pc : Int) + off = (tgt : Int)) (hd : decode cc pc = .ok (.ifCond .lt off, 3)) (kt : x < 0 → G l E K tgt lv st M) (kf : ¬ x < 0 → G l E K (pc + 3) lv st M) : G l E K pc lv (.int x :: st) M := by
  obtain ⟨⟨p, e, R, s, m, args⟩, ⟨below, meth, c, cells, slots⟩, ⟨Q, A, nL'⟩⟩ := K
  obtain ⟨hx, hb, hml, hnl, hown, hts, hK, hA, hin, hfr, hlo, hce, hsl⟩ := id k
  subst hnl
  intro H locs ls hl hP hD hS
  exact lv_if_lt hx hb hd ht (fun z => kt z H locs ls hl hP hD hS) (fun z => kf z H locs ls hl hP hD hS)
theorem gs_icmp_lt {l : Launch} {E : Ev} {K : Kt} {cc : ByteArray} {own : String} {d nL pc : Nat} {lv : List (Nat × Value)} {st : List Value} {M : Mm} {x y : Int32} {off : Int} {tgt : Nat} (k : Ok l E K cc own d nL) (ht : (pc : Int) + off = (tgt : Int)) (hd : decode cc pc = .ok (.if_icmp .lt off, 3)) (kt : x < y → G l E K tgt lv st M) (kf : ¬ x < y → G l E K (pc + 3) lv st M) : G l E K pc lv (.int y :: .int x :: st) M := by
  obtain ⟨⟨p, e, R, s, m, args⟩, ⟨below, meth, c, cells, slots⟩, ⟨Q, A, nL'⟩⟩ := K
  obtain ⟨hx, hb, hml, hnl, hown, hts, hK, hA, hin, hfr, hlo, hce, hsl⟩ := id k
  subst hnl
  intro H locs ls hl hP hD hS
  exact lv_icmp_lt hx hb hd ht (fun z => kt z H locs ls hl hP hD hS) (fun z => kf z H locs ls hl hP hD hS)
theorem gs_if_ge {l : Launch} {E : Ev} {K : Kt} {cc : ByteArray} {own : String} {d nL pc : Nat} {lv : List (Nat × Value)} {st : List Value} {M : Mm} {x : Int32} {off : Int} {tgt : Nat} (k : Ok l E K cc own d nL) (ht : (pc : Int) + off = (tgt : Int)) (hd : decode cc pc = .ok (.ifCond .ge off, 3)) (kt : 0 ≤ x → G l E K tgt lv st M) (kf : ¬ 0 ≤ x → G l E K (pc + 3) lv st M) : G l E K pc lv (.int x :: st) M := by
  obtain ⟨⟨p, e, R, s, m, args⟩, ⟨below, meth, c, cells, slots⟩, ⟨Q, A, nL'⟩⟩ := K
  obtain ⟨hx, hb, hml, hnl, hown, hts, hK, hA, hin, hfr, hlo, hce, hsl⟩ := id k
  subst hnl
  intro H locs ls hl hP hD hS
  exact lv_if_ge hx hb hd ht (fun z => kt z H locs ls hl hP hD hS) (fun z => kf z H locs ls hl hP hD hS)
theorem gs_icmp_ge {l : Launch} {E : Ev} {K : Kt} {cc : ByteArray} {own : String} {d nL pc : Nat} {lv : List (Nat × Value)} {st : List Value} {M : Mm} {x y : Int32} {off : Int} {tgt : Nat} (k : Ok l E K cc own d nL) (ht : (pc : Int) + off = (tgt : Int)) (hd : decode cc pc = .ok (.if_icmp .ge off, 3)) (kt : y ≤ x → G l E K tgt lv st M) (kf : ¬ y ≤ x → G l E K (pc + 3) lv st M) : G l E K pc lv (.int y :: .int x :: st) M := by
  obtain ⟨⟨p, e, R, s, m, args⟩, ⟨below, meth, c, cells, slots⟩, ⟨Q, A, nL'⟩⟩ := K
  obtain ⟨hx, hb, hml, hnl, hown, hts, hK, hA, hin, hfr, hlo, hce, hsl⟩ := id k
  subst hnl
  intro H locs ls hl hP hD hS
  exact lv_icmp_ge hx hb hd ht (fun z => kt z H locs ls hl hP hD hS) (fun z => kf z H locs ls hl hP hD hS)
theorem gs_if_gt {l : Launch} {E : Ev} {K : Kt} {cc : ByteArray} {own : String} {d nL pc : Nat} {lv : List (Nat × Value)} {st : List Value} {M : Mm} {x : Int32} {off : Int} {tgt : Nat} (k : Ok l E K cc own d nL) (ht : (pc : Int) + off = (tgt : Int)) (hd : decode cc pc = .ok (.ifCond .gt off, 3)) (kt : 0 < x → G l E K tgt lv st M) (kf : ¬ 0 < x → G l E K (pc + 3) lv st M) : G l E K pc lv (.int x :: st) M := by
  obtain ⟨⟨p, e, R, s, m, args⟩, ⟨below, meth, c, cells, slots⟩, ⟨Q, A, nL'⟩⟩ := K
  obtain ⟨hx, hb, hml, hnl, hown, hts, hK, hA, hin, hfr, hlo, hce, hsl⟩ := id k
  subst hnl
  intro H locs ls hl hP hD hS
  exact lv_if_gt hx hb hd ht (fun z => kt z H locs ls hl hP hD hS) (fun z => kf z H locs ls hl hP hD hS)
theorem gs_icmp_gt {l : Launch} {E : Ev} {K : Kt} {cc : ByteArray} {own : String} {d nL pc : Nat} {lv : List (Nat × Value)} {st : List Value} {M : Mm} {x y : Int32} {off : Int} {tgt : Nat} (k : Ok l E K cc own d nL) (ht : (pc : Int) + off = (tgt : Int)) (hd : decode cc pc = .ok (.if_icmp .gt off, 3)) (kt : y < x → G l E K tgt lv st M) (kf : ¬ y < x → G l E K (pc + 3) lv st M) : G l E K pc lv (.int y :: .int x :: st) M := by
  obtain ⟨⟨p, e, R, s, m, args⟩, ⟨below, meth, c, cells, slots⟩, ⟨Q, A, nL'⟩⟩ := K
  obtain ⟨hx, hb, hml, hnl, hown, hts, hK, hA, hin, hfr, hlo, hce, hsl⟩ := id k
  subst hnl
  intro H locs ls hl hP hD hS
  exact lv_icmp_gt hx hb hd ht (fun z => kt z H locs ls hl hP hD hS) (fun z => kf z H locs ls hl hP hD hS)
theorem gs_if_le {l : Launch} {E : Ev} {K : Kt} {cc : ByteArray} {own : String} {d nL pc : Nat} {lv : List (Nat × Value)} {st : List Value} {M : Mm} {x : Int32} {off : Int} {tgt : Nat} (k : Ok l E K cc own d nL) (ht : (pc : Int) + off = (tgt : Int)) (hd : decode cc pc = .ok (.ifCond .le off, 3)) (kt : x ≤ 0 → G l E K tgt lv st M) (kf : ¬ x ≤ 0 → G l E K (pc + 3) lv st M) : G l E K pc lv (.int x :: st) M := by
  obtain ⟨⟨p, e, R, s, m, args⟩, ⟨below, meth, c, cells, slots⟩, ⟨Q, A, nL'⟩⟩ := K
  obtain ⟨hx, hb, hml, hnl, hown, hts, hK, hA, hin, hfr, hlo, hce, hsl⟩ := id k
  subst hnl
  intro H locs ls hl hP hD hS
  exact lv_if_le hx hb hd ht (fun z => kt z H locs ls hl hP hD hS) (fun z => kf z H locs ls hl hP hD hS)
theorem gs_icmp_le {l : Launch} {E : Ev} {K : Kt} {cc : ByteArray} {own : String} {d nL pc : Nat} {lv : List (Nat × Value)} {st : List Value} {M : Mm} {x y : Int32} {off : Int} {tgt : Nat} (k : Ok l E K cc own d nL) (ht : (pc : Int) + off = (tgt : Int)) (hd : decode cc pc = .ok (.if_icmp .le off, 3)) (kt : x ≤ y → G l E K tgt lv st M) (kf : ¬ x ≤ y → G l E K (pc + 3) lv st M) : G l E K pc lv (.int y :: .int x :: st) M := by
  obtain ⟨⟨p, e, R, s, m, args⟩, ⟨below, meth, c, cells, slots⟩, ⟨Q, A, nL'⟩⟩ := K
  obtain ⟨hx, hb, hml, hnl, hown, hts, hK, hA, hin, hfr, hlo, hce, hsl⟩ := id k
  subst hnl
  intro H locs ls hl hP hD hS
  exact lv_icmp_le hx hb hd ht (fun z => kt z H locs ls hl hP hD hS) (fun z => kf z H locs ls hl hP hD hS)
theorem gs_tableOut {l : Launch} {E : Ev} {K : Kt} {cc : ByteArray} {own : String} {d nL pc : Nat} {lv : List (Nat × Value)} {st : List Value} {M : Mm} {dflt lo hi : Int} {offs : Array Int} {len : Nat} {x : Int32} {tgt : Nat} (k : Ok l E K cc own d nL) (ho : x.toInt < lo ∨ hi < x.toInt) (ht : (pc : Int) + dflt = (tgt : Int)) (hd : decode cc pc = .ok (.tableswitch dflt lo hi offs, len)) (h : G l E K tgt lv st M) : G l E K pc lv (.int x :: st) M := by
  obtain ⟨⟨p, e, R, s, m, args⟩, ⟨below, meth, c, cells, slots⟩, ⟨Q, A, nL'⟩⟩ := K
  obtain ⟨hx, hb, hml, hnl, hown, hts, hK, hA, hin, hfr, hlo, hce, hsl⟩ := id k
  subst hnl
  intro H locs ls hl hP hD hS
  exact lv_tableOut hx hb hd ho ht (h H locs ls hl hP hD hS)
theorem gs_tableIn {l : Launch} {E : Ev} {K : Kt} {cc : ByteArray} {own : String} {d nL pc : Nat} {lv : List (Nat × Value)} {st : List Value} {M : Mm} {dflt lo hi : Int} {offs : Array Int} {len : Nat} {x : Int32} {off : Int} {tgt : Nat} (k : Ok l E K cc own d nL) (h1 : ¬ x.toInt < lo) (h2 : ¬ hi < x.toInt) (ho : offs[(x.toInt - lo).toNat]? = some off) (ht : (pc : Int) + off = (tgt : Int)) (hd : decode cc pc = .ok (.tableswitch dflt lo hi offs, len)) (h : G l E K tgt lv st M) : G l E K pc lv (.int x :: st) M := by
  obtain ⟨⟨p, e, R, s, m, args⟩, ⟨below, meth, c, cells, slots⟩, ⟨Q, A, nL'⟩⟩ := K
  obtain ⟨hx, hb, hml, hnl, hown, hts, hK, hA, hin, hfr, hlo, hce, hsl⟩ := id k
  subst hnl
  intro H locs ls hl hP hD hS
  exact lv_tableIn hx hb hd h1 h2 ho ht (h H locs ls hl hP hD hS)
theorem gs_lookup {l : Launch} {E : Ev} {K : Kt} {cc : ByteArray} {own : String} {d nL pc : Nat} {lv : List (Nat × Value)} {st : List Value} {M : Mm} {dflt : Int} {ps : Array (Int × Int)} {len : Nat} {x : Int32} {off : Int} {tgt : Nat} (k : Ok l E K cc own d nL) (hp : (ps.toList.zip (ps.toList.drop 1)).all (fun (a, next) => a.1 < next.1) = true) (ho : Op.lookupswitch.offset ps.toList dflt x.toInt = off) (ht : (pc : Int) + off = (tgt : Int)) (hd : decode cc pc = .ok (.lookupswitch dflt ps, len)) (h : G l E K tgt lv st M) : G l E K pc lv (.int x :: st) M := by
  obtain ⟨⟨p, e, R, s, m, args⟩, ⟨below, meth, c, cells, slots⟩, ⟨Q, A, nL'⟩⟩ := K
  obtain ⟨hx, hb, hml, hnl, hown, hts, hK, hA, hin, hfr, hlo, hce, hsl⟩ := id k
  subst hnl
  intro H locs ls hl hP hD hS
  exact lv_lookup hx hb hd hp ho ht (h H locs ls hl hP hD hS)
theorem gs_ldc {l : Launch} {E : Ev} {K : Kt} {cc : ByteArray} {own : String} {d nL pc : Nat} {lv : List (Nat × Value)} {st : List Value} {M : Mm} {index : Nat} {v : Int32} (k : Ok l E K cc own d nL) (hc : Cond.constant own index v ∈ wsT) (hd : decode cc pc = .ok (.ldc index, 2)) (h : G l E K (pc + 2) lv (.int v :: st) M) : G l E K pc lv st M := by
  obtain ⟨⟨p, e, R, s, m, args⟩, ⟨below, meth, c, cells, slots⟩, ⟨Q, A, nL'⟩⟩ := K
  obtain ⟨hx, hb, hml, hnl, hown, hts, hK, hA, hin, hfr, hlo, hce, hsl⟩ := id k
  subst hnl
  intro H locs ls hl hP hD hS
  exact lv_ldc hx hb hown (hts _ hc) hd (h H locs ls hl hP hD hS)
theorem gs_ldcw {l : Launch} {E : Ev} {K : Kt} {cc : ByteArray} {own : String} {d nL pc : Nat} {lv : List (Nat × Value)} {st : List Value} {M : Mm} {index : Nat} {v : Int32} (k : Ok l E K cc own d nL) (hc : Cond.constant own index v ∈ wsT) (hd : decode cc pc = .ok (.ldc_w index, 3)) (h : G l E K (pc + 3) lv (.int v :: st) M) : G l E K pc lv st M := by
  obtain ⟨⟨p, e, R, s, m, args⟩, ⟨below, meth, c, cells, slots⟩, ⟨Q, A, nL'⟩⟩ := K
  obtain ⟨hx, hb, hml, hnl, hown, hts, hK, hA, hin, hfr, hlo, hce, hsl⟩ := id k
  subst hnl
  intro H locs ls hl hP hD hS
  exact lv_ldcw hx hb hown (hts _ hc) hd (h H locs ls hl hP hD hS)
theorem gs_ldc2 {l : Launch} {E : Ev} {K : Kt} {cc : ByteArray} {own : String} {d nL pc : Nat} {lv : List (Nat × Value)} {st : List Value} {M : Mm} {index : Nat} {v : Int64} (k : Ok l E K cc own d nL) (hc : Cond.constantLong own index v ∈ wsT) (hd : decode cc pc = .ok (.ldc2_w index, 3)) (h : G l E K (pc + 3) lv (.long v :: st) M) : G l E K pc lv st M := by
  obtain ⟨⟨p, e, R, s, m, args⟩, ⟨below, meth, c, cells, slots⟩, ⟨Q, A, nL'⟩⟩ := K
  obtain ⟨hx, hb, hml, hnl, hown, hts, hK, hA, hin, hfr, hlo, hce, hsl⟩ := id k
  subst hnl
  intro H locs ls hl hP hD hS
  exact lv_ldc2 hx hb hown (hts _ hc) hd (h H locs ls hl hP hD hS)
theorem gs_ldcS {l : Launch} {E : Ev} {K : Kt} {cc : ByteArray} {own : String} {d nL pc : Nat} {lv : List (Nat × Value)} {st : List Value} {M : Mm} {index i : Nat} {tx : String} (k : Ok l E K cc own d nL) (hq : (own, index, tx, i) ∈ strL) (hd : decode cc pc = .ok (.ldc index, 2)) (h : G l E K (pc + 2) lv (.ref (E.2.2.2.2.2.1 i) :: st) M) : G l E K pc lv st M := by
  obtain ⟨⟨p, e, R, s, m, args⟩, ⟨below, meth, c, cells, slots⟩, ⟨Q, A, nL'⟩⟩ := K
  obtain ⟨hx, hb, hml, hnl, hown, hts, hK, hA, hin, hfr, hlo, hce, hsl⟩ := id k
  subst hnl
  intro H locs ls hl hP hD hS
  exact va_ldcS hx hb hown (hA.2.2.2.2.2 _ hq) hd (h H locs ls hl hP hD hS)
theorem gs_get {l : Launch} {E : Ev} {K : Kt} {cc : ByteArray} {own : String} {d nL pc : Nat} {lv : List (Nat × Value)} {st : List Value} {M : Mm} {C ref : String} {T : u_T} {N ci index k0 j : Nat} {fs : List Value} {v : Value} (k : Ok l E K cc own d nL) (hk : k0 ∈ E.2.1) (he : ent E.2.2.1 E.2.2.2.1 k0 (M k0) = .inr (ci, fs)) (hc : vwCl[ci]? = some (C, T, N)) (hw : ∀ w ∈ u_ws C T N, w ∈ wsT) (hj : j < N) (hlink : Cond.fieldLink own index C (T j).2.1 (T j).2.2.1 ∈ wsT) (hT : (T j).1 = C) (hv : fs[j]? = some v) (hd : decode cc pc = .ok (.getfield index, 3)) (h : G l E K (pc + 3) lv (v :: st) M) : G l E K pc lv (.ref (E.2.2.1 k0) :: st) M := by
  obtain ⟨⟨p, e, R, s, m, args⟩, ⟨below, meth, c, cells, slots⟩, ⟨Q, A, nL'⟩⟩ := K
  obtain ⟨hx, hb, hml, hnl, hown, hts, hK, hA, hin, hfr, hlo, hce, hsl⟩ := id k
  subst hnl
  intro H locs ls hl hP hD hS
  obtain ⟨q, -, hq⟩ := wlist_get (M := M) hk
  rw [he] at hq
  exact va_get hx hb hts hw hown hK hP q hq hc j hj (hts _ hlink) (fun x h9 => by rw [hT] at h9; exact h9) hv hd (h H locs ls hl hP hD hS)
theorem gs_put {l : Launch} {E : Ev} {K : Kt} {cc : ByteArray} {own : String} {d nL pc : Nat} {lv : List (Nat × Value)} {st : List Value} {M : Mm} {C : String} {T : u_T} {N ci index k0 j : Nat} {fs : List Value} {ty : FieldType} {x : Int32} (k : Ok l E K cc own d nL) (hk : k0 ∈ E.2.1) (he : ent E.2.2.1 E.2.2.2.1 k0 (M k0) = .inr (ci, fs)) (he' : ent E.2.2.1 E.2.2.2.1 k0 (upd (M k0) j x) = .inr (ci, fs.set j (.int x))) (hc : vwCl[ci]? = some (C, T, N)) (hw : ∀ w ∈ u_ws C T N, w ∈ wsT) (ty0 : Nat → FieldType) (hty : ∀ k, k < N → parseFieldDescriptor (T k).2.2.1 = some (ty0 k)) (hnm : ∀ a, a < N → ∀ b, b < N → a ≠ b → (T a).2.1 ≠ (T b).2.1) (hj : j < N) (hlink : Cond.fieldLink own index C (T j).2.1 (T j).2.2.1 ∈ wsT) (hT : (T j).1 = C) (hfin : (T j).2.2.2 = false) (hd2 : parseFieldDescriptor (T j).2.2.1 = some ty) (hn : narrow ty (.int x) = .int x) (hfit : fits ty (.int x) = true) (hlen : j < fs.length) (hd : decode cc pc = .ok (.putfield index, 3)) (h : G l E K (pc + 3) lv st (mw M k0 j x)) : G l E K pc lv (.int x :: .ref (E.2.2.1 k0) :: st) M := by
  obtain ⟨⟨p, e, R, s, m, args⟩, ⟨below, meth, c, cells, slots⟩, ⟨Q, A, nL'⟩⟩ := K
  obtain ⟨hx, hb, hml, hnl, hown, hts, hK, hA, hin, hfr, hlo, hce, hsl⟩ := id k
  subst hnl
  intro H locs ls hl hP hD hS
  obtain ⟨q, hq0, hq⟩ := wlist_get (M := M) hk
  rw [he] at hq
  have e := wlist_set (M := M) hD hq0 he'
  refine va_put hx hb hts hw ty0 hty hnm hown hK hP hD hS q hq hc j hj (hts _ hlink) (fun x h9 => by rw [hT] at h9; exact h9) hfin hd2 hn hfit hlen hd (fun H1 locs1 hP1 hD1 hS1 => ?_)
  rw [e] at hP1 hD1
  exact h H1 locs1 ls hl hP1 hD1 hS1
theorem gs_iald {l : Launch} {E : Ev} {K : Kt} {cc : ByteArray} {own : String} {d nL pc : Nat} {lv : List (Nat × Value)} {st : List Value} {M : Mm} {k0 n : Nat} {i : Int32} (k : Ok l E K cc own d nL) (hk : k0 ∈ E.2.1) (he : ∀ r, ent E.2.2.1 E.2.2.2.1 k0 r = ai E.2.2.2.1 n r) (hi : vp_in i n) (hd : decode cc pc = .ok (.iaload, 1)) (h : G l E K (pc + 1) lv (.int (M k0 i.toNatClampNeg) :: st) M) : G l E K pc lv (.int i :: .ref (E.2.2.1 k0) :: st) M := by
  obtain ⟨⟨p, e, R, s, m, args⟩, ⟨below, meth, c, cells, slots⟩, ⟨Q, A, nL'⟩⟩ := K
  obtain ⟨hx, hb, hml, hnl, hown, hts, hK, hA, hin, hfr, hlo, hce, hsl⟩ := id k
  subst hnl
  intro H locs ls hl hP hD hS
  obtain ⟨q, -, hq⟩ := wlist_get (M := M) hk
  rw [he] at hq
  exact va_iald hx hb hK hP q 0 hq rfl hi hd (h H locs ls hl hP hD hS)
theorem gs_bald {l : Launch} {E : Ev} {K : Kt} {cc : ByteArray} {own : String} {d nL pc : Nat} {lv : List (Nat × Value)} {st : List Value} {M : Mm} {k0 n : Nat} {i : Int32} (k : Ok l E K cc own d nL) (hk : k0 ∈ E.2.1) (he : ∀ r, ent E.2.2.1 E.2.2.2.1 k0 r = ab E.2.2.2.1 n r) (hi : vp_in i n) (hd : decode cc pc = .ok (.baload, 1)) (h : G l E K (pc + 1) lv (.int (M k0 i.toNatClampNeg) :: st) M) : G l E K pc lv (.int i :: .ref (E.2.2.1 k0) :: st) M := by
  obtain ⟨⟨p, e, R, s, m, args⟩, ⟨below, meth, c, cells, slots⟩, ⟨Q, A, nL'⟩⟩ := K
  obtain ⟨hx, hb, hml, hnl, hown, hts, hK, hA, hin, hfr, hlo, hce, hsl⟩ := id k
  subst hnl
  intro H locs ls hl hP hD hS
  obtain ⟨q, -, hq⟩ := wlist_get (M := M) hk
  rw [he] at hq
  exact va_bald hx hb hK hP q 1 hq rfl hi hd (h H locs ls hl hP hD hS)
theorem gs_iast {l : Launch} {E : Ev} {K : Kt} {cc : ByteArray} {own : String} {d nL pc : Nat} {lv : List (Nat × Value)} {st : List Value} {M : Mm} {k0 n : Nat} {i x : Int32} (k : Ok l E K cc own d nL) (hk : k0 ∈ E.2.1) (he : ∀ r, ent E.2.2.1 E.2.2.2.1 k0 r = ai E.2.2.2.1 n r) (hi : vp_in i n) (hd : decode cc pc = .ok (.iastore, 1)) (h : G l E K (pc + 1) lv st (mw M k0 i.toNatClampNeg x)) : G l E K pc lv (.int x :: .int i :: .ref (E.2.2.1 k0) :: st) M := by
  obtain ⟨⟨p, e, R, s, m, args⟩, ⟨below, meth, c, cells, slots⟩, ⟨Q, A, nL'⟩⟩ := K
  obtain ⟨hx, hb, hml, hnl, hown, hts, hK, hA, hin, hfr, hlo, hce, hsl⟩ := id k
  subst hnl
  intro H locs ls hl hP hD hS
  obtain ⟨q, hq0, hq⟩ := wlist_get (M := M) hk
  rw [he] at hq
  have e := wlist_set (M := M) hD hq0 (he (upd (M k0) i.toNatClampNeg x))
  refine va_iast hx hb hK hP hD hS q 0 hq rfl hi hd (fun H1 locs1 hP1 hD1 hS1 => ?_)
  exact h H1 locs1 ls hl (by unfold mw; rw [← e]; exact hP1) (by unfold mw; rw [← e]; exact hD1) hS1
theorem gs_bast {l : Launch} {E : Ev} {K : Kt} {cc : ByteArray} {own : String} {d nL pc : Nat} {lv : List (Nat × Value)} {st : List Value} {M : Mm} {k0 n : Nat} {i x x' : Int32} (k : Ok l E K cc own d nL) (hk : k0 ∈ E.2.1) (he : ∀ r, ent E.2.2.1 E.2.2.2.1 k0 r = ab E.2.2.2.1 n r) (hi : vp_in i n) (hx' : vp_nar .byte x = x') (hd : decode cc pc = .ok (.bastore, 1)) (h : G l E K (pc + 1) lv st (mw M k0 i.toNatClampNeg x')) : G l E K pc lv (.int x :: .int i :: .ref (E.2.2.1 k0) :: st) M := by
  obtain ⟨⟨p, e, R, s, m, args⟩, ⟨below, meth, c, cells, slots⟩, ⟨Q, A, nL'⟩⟩ := K
  obtain ⟨hx, hb, hml, hnl, hown, hts, hK, hA, hin, hfr, hlo, hce, hsl⟩ := id k
  subst hnl
  intro H locs ls hl hP hD hS
  subst hx'
  obtain ⟨q, hq0, hq⟩ := wlist_get (M := M) hk
  rw [he] at hq
  have e := wlist_set (M := M) hD hq0 (he (upd (M k0) i.toNatClampNeg (vp_nar .byte x)))
  refine va_bast hx hb hK hP hD hS q 1 hq rfl hi hd (fun H1 locs1 hP1 hD1 hS1 => ?_)
  exact h H1 locs1 ls hl (by unfold mw; rw [← e]; exact hP1) (by unfold mw; rw [← e]; exact hD1) hS1
theorem gs_alen {l : Launch} {E : Ev} {K : Kt} {cc : ByteArray} {own : String} {d nL pc : Nat} {lv : List (Nat × Value)} {st : List Value} {M : Mm} {k0 n : Nat} {v : Int32} (k : Ok l E K cc own d nL) (hk : k0 ∈ E.2.1) (he : ∀ r, ent E.2.2.1 E.2.2.2.1 k0 r = ai E.2.2.2.1 n r) (hv : nI n = v) (hd : decode cc pc = .ok (.arraylength, 1)) (h : G l E K (pc + 1) lv (.int v :: st) M) : G l E K pc lv (.ref (E.2.2.1 k0) :: st) M := by
  obtain ⟨⟨p, e, R, s, m, args⟩, ⟨below, meth, c, cells, slots⟩, ⟨Q, A, nL'⟩⟩ := K
  obtain ⟨hx, hb, hml, hnl, hown, hts, hK, hA, hin, hfr, hlo, hce, hsl⟩ := id k
  subst hnl
  intro H locs ls hl hP hD hS
  obtain ⟨q, -, hq⟩ := wlist_get (M := M) hk
  rw [he] at hq
  exact va_alen hx hb hK hP q 0 hq rfl hv hd (h H locs ls hl hP hD hS)
theorem gs_aaldS {l : Launch} {E : Ev} {K : Kt} {cc : ByteArray} {own : String} {d nL pc : Nat} {lv : List (Nat × Value)} {st : List Value} {M : Mm} {k0 n a : Nat} {g : Nat → Option Nat} {i : Int32} (k : Ok l E K cc own d nL) (hk : k0 ∈ E.2.1) (he : ∀ r, ent E.2.2.1 E.2.2.2.1 k0 r = ag (E.2.2.2.1 2) n g) (hi : vp_in i n) (hg : g i.toNatClampNeg = some a) (hd : decode cc pc = .ok (.aaload, 1)) (h : G l E K (pc + 1) lv (.ref a :: st) M) : G l E K pc lv (.int i :: .ref (E.2.2.1 k0) :: st) M := by
  obtain ⟨⟨p, e, R, s, m, args⟩, ⟨below, meth, c, cells, slots⟩, ⟨Q, A, nL'⟩⟩ := K
  obtain ⟨hx, hb, hml, hnl, hown, hts, hK, hA, hin, hfr, hlo, hce, hsl⟩ := id k
  subst hnl
  intro H locs ls hl hP hD hS
  obtain ⟨q, -, hq⟩ := wlist_get (M := M) hk
  rw [he] at hq
  refine va_aldq hx hb hK hP q 2 hq rfl hi hd ?_
  rw [hg]
  exact h H locs ls hl hP hD hS
theorem gs_aaldN {l : Launch} {E : Ev} {K : Kt} {cc : ByteArray} {own : String} {d nL pc : Nat} {lv : List (Nat × Value)} {st : List Value} {M : Mm} {k0 n a : Nat} {g : Nat → Option Nat} {i : Int32} (k : Ok l E K cc own d nL) (hk : k0 ∈ E.2.1) (he : ∀ r, ent E.2.2.1 E.2.2.2.1 k0 r = ag (E.2.2.2.1 3) n g) (hi : vp_in i n) (hg : g i.toNatClampNeg = some a) (hd : decode cc pc = .ok (.aaload, 1)) (h : G l E K (pc + 1) lv (.ref a :: st) M) : G l E K pc lv (.int i :: .ref (E.2.2.1 k0) :: st) M := by
  obtain ⟨⟨p, e, R, s, m, args⟩, ⟨below, meth, c, cells, slots⟩, ⟨Q, A, nL'⟩⟩ := K
  obtain ⟨hx, hb, hml, hnl, hown, hts, hK, hA, hin, hfr, hlo, hce, hsl⟩ := id k
  subst hnl
  intro H locs ls hl hP hD hS
  obtain ⟨q, -, hq⟩ := wlist_get (M := M) hk
  rw [he] at hq
  refine va_aldq hx hb hK hP q 3 hq rfl hi hd ?_
  rw [hg]
  exact h H locs ls hl hP hD hS
theorem gs_aaldI {l : Launch} {E : Ev} {K : Kt} {cc : ByteArray} {own : String} {d nL pc : Nat} {lv : List (Nat × Value)} {st : List Value} {M : Mm} {k0 n a : Nat} {g : Nat → Option Nat} {i : Int32} (k : Ok l E K cc own d nL) (hk : k0 ∈ E.2.1) (he : ∀ r, ent E.2.2.1 E.2.2.2.1 k0 r = ag (E.2.2.2.1 4) n g) (hi : vp_in i n) (hg : g i.toNatClampNeg = some a) (hd : decode cc pc = .ok (.aaload, 1)) (h : G l E K (pc + 1) lv (.ref a :: st) M) : G l E K pc lv (.int i :: .ref (E.2.2.1 k0) :: st) M := by
  obtain ⟨⟨p, e, R, s, m, args⟩, ⟨below, meth, c, cells, slots⟩, ⟨Q, A, nL'⟩⟩ := K
  obtain ⟨hx, hb, hml, hnl, hown, hts, hK, hA, hin, hfr, hlo, hce, hsl⟩ := id k
  subst hnl
  intro H locs ls hl hP hD hS
  obtain ⟨q, -, hq⟩ := wlist_get (M := M) hk
  rw [he] at hq
  have hlt : i.toNatClampNeg < n := Nat.not_le.mp fun q => hi (Or.inr q)
  exact W.aald (v := va_rf (some a)) (ty := .array .int) hx hb (hP q _ hq) ((hK.2 4 _ rfl).1 n (fun j => va_rf (g j))) rfl (fun q => by cases q) (by show ¬ (i < 0 ∨ (arrV _ _ _).slots.size ≤ _); rw [arrV_size]; exact hi) (by show (arrV _ _ _).slots[_]? = _; rw [arrV_read _ _ hlt, hg]) rfl rfl hd (h H locs ls hl hP hD hS)
theorem gs_top {l : Launch} {E : Ev} {K : Kt} {cc : ByteArray} {own : String} {d nL pc : Nat} {lv : List (Nat × Value)} {st : List Value} {M : Mm} {x y : Int32} (e : x = y) (h : G l E K pc lv (.int y :: st) M) : G l E K pc lv (.int x :: st) M := by rw [e]; exact h
theorem gs_topl {l : Launch} {E : Ev} {K : Kt} {cc : ByteArray} {own : String} {d nL pc : Nat} {lv : List (Nat × Value)} {st : List Value} {M : Mm} {x y : Int64} (e : x = y) (h : G l E K pc lv (.long y :: st) M) : G l E K pc lv (.long x :: st) M := by rw [e]; exact h
theorem gs_M {l : Launch} {E : Ev} {K : Kt} {cc : ByteArray} {own : String} {d nL pc : Nat} {lv : List (Nat × Value)} {st : List Value} {M : Mm} {M' : Mm} (e : M = M') (h : G l E K pc lv st M') : G l E K pc lv st M := by rw [e]; exact h
theorem gs_lv {l : Launch} {E : Ev} {K : Kt} {cc : ByteArray} {own : String} {d nL pc : Nat} {lv : List (Nat × Value)} {st : List Value} {M : Mm} {lv' : List (Nat × Value)} (ks : List Nat) (e : lv_pick lv ks = lv') (h : G l E K pc lv' st M) : G l E K pc lv st M := by
  obtain ⟨⟨p, e9, R, s, m, args⟩, ⟨below, meth, c, cells, slots⟩, ⟨Q, A, nL'⟩⟩ := K
  intro H locs ls hl hP hD hS
  exact h H locs ls (lv_sub hl ks e) hP hD hS
theorem gs_iret {l : Launch} {E : Ev} {K : Kt} {cc : ByteArray} {own : String} {d nL pc : Nat} {lv : List (Nat × Value)} {st : List Value} {M : Mm} {post : Option Value → Mm → Prop} {v : Int32} (k : Ok l E K cc own d nL) (t : Rt E K (some .int) post) (hd : decode cc pc = .ok (.ireturn, 1)) (h : post (some (.int v)) M) : G l E K pc lv [.int v] M := by
  obtain ⟨⟨p, e, R, s, m, args⟩, ⟨below, meth, c, cells, slots⟩, ⟨Q, A, nL'⟩⟩ := K
  obtain ⟨hx, hb, hml, hnl, hown, hts, hK, hA, hin, hfr, hlo, hce, hsl⟩ := id k
  obtain ⟨rfl, rfl, rfl, rfl, hr, hlocks⟩ := id t
  intro H locs ls hl hP hD hS
  exact W.iret hx hb hr (fun t ht hW => ⟨⟨(some (.int v)), M, rfl, h, stw_end hP hK hD hA hS hin ht hW⟩, hS.F ht⟩) hS.2.2 hd hlocks
theorem gs_zret {l : Launch} {E : Ev} {K : Kt} {cc : ByteArray} {own : String} {d nL pc : Nat} {lv : List (Nat × Value)} {st : List Value} {M : Mm} {post : Option Value → Mm → Prop} {v : Int32} (k : Ok l E K cc own d nL) (t : Rt E K (some .boolean) post) (hn : narrow .boolean (.int v) = .int v) (hd : decode cc pc = .ok (.ireturn, 1)) (h : post (some (.int v)) M) : G l E K pc lv [.int v] M := by
  obtain ⟨⟨p, e, R, s, m, args⟩, ⟨below, meth, c, cells, slots⟩, ⟨Q, A, nL'⟩⟩ := K
  obtain ⟨hx, hb, hml, hnl, hown, hts, hK, hA, hin, hfr, hlo, hce, hsl⟩ := id k
  obtain ⟨rfl, rfl, rfl, rfl, hr, hlocks⟩ := id t
  intro H locs ls hl hP hD hS
  exact W.zret hx hb hr hn (fun t ht hW => ⟨⟨(some (.int v)), M, rfl, h, stw_end hP hK hD hA hS hin ht hW⟩, hS.F ht⟩) hS.2.2 hd hlocks
theorem gs_nret {l : Launch} {E : Ev} {K : Kt} {cc : ByteArray} {own : String} {d nL pc : Nat} {lv : List (Nat × Value)} {st : List Value} {M : Mm} {post : Option Value → Mm → Prop} {ty : FieldType} {v : Int32} (k : Ok l E K cc own d nL) (t : Rt E K (some ty) post) (hn : narrow ty (.int v) = .int v) (hd : decode cc pc = .ok (.ireturn, 1)) (h : post (some (.int v)) M) : G l E K pc lv [.int v] M := by
  obtain ⟨⟨p, e, R, s, m, args⟩, ⟨below, meth, c, cells, slots⟩, ⟨Q, A, nL'⟩⟩ := K
  obtain ⟨hx, hb, hml, hnl, hown, hts, hK, hA, hin, hfr, hlo, hce, hsl⟩ := id k
  obtain ⟨rfl, rfl, rfl, rfl, hr, hlocks⟩ := id t
  intro H locs ls hl hP hD hS
  exact W.zret hx hb hr hn (fun t ht hW => ⟨⟨(some (.int v)), M, rfl, h, stw_end hP hK hD hA hS hin ht hW⟩, hS.F ht⟩) hS.2.2 hd hlocks
theorem gs_lret {l : Launch} {E : Ev} {K : Kt} {cc : ByteArray} {own : String} {d nL pc : Nat} {lv : List (Nat × Value)} {st : List Value} {M : Mm} {post : Option Value → Mm → Prop} {v : Int64} (k : Ok l E K cc own d nL) (t : Rt E K (some .long) post) (hd : decode cc pc = .ok (.lreturn, 1)) (h : post (some (.long v)) M) : G l E K pc lv [.long v] M := by
  obtain ⟨⟨p, e, R, s, m, args⟩, ⟨below, meth, c, cells, slots⟩, ⟨Q, A, nL'⟩⟩ := K
  obtain ⟨hx, hb, hml, hnl, hown, hts, hK, hA, hin, hfr, hlo, hce, hsl⟩ := id k
  obtain ⟨rfl, rfl, rfl, rfl, hr, hlocks⟩ := id t
  intro H locs ls hl hP hD hS
  exact W.lret hx hb hr (fun t ht hW => ⟨⟨(some (.long v)), M, rfl, h, stw_end hP hK hD hA hS hin ht hW⟩, hS.F ht⟩) hS.2.2 hd hlocks
theorem gs_vret {l : Launch} {E : Ev} {K : Kt} {cc : ByteArray} {own : String} {d nL pc : Nat} {lv : List (Nat × Value)} {st : List Value} {M : Mm} {post : Option Value → Mm → Prop}  (k : Ok l E K cc own d nL) (t : Rt E K none post) (hd : decode cc pc = .ok (.return_, 1)) (h : post none M) : G l E K pc lv [] M := by
  obtain ⟨⟨p, e, R, s, m, args⟩, ⟨below, meth, c, cells, slots⟩, ⟨Q, A, nL'⟩⟩ := K
  obtain ⟨hx, hb, hml, hnl, hown, hts, hK, hA, hin, hfr, hlo, hce, hsl⟩ := id k
  obtain ⟨rfl, rfl, rfl, rfl, hr, hlocks⟩ := id t
  intro H locs ls hl hP hD hS
  exact W.vret hx hb hr (fun t ht hW => ⟨⟨none, M, rfl, h, stw_end hP hK hD hA hS hin ht hW⟩, hS.F ht⟩) hS.2.2 hd hlocks
theorem gs_aret {l : Launch} {E : Ev} {K : Kt} {cc : ByteArray} {own : String} {d nL pc : Nat} {lv : List (Nat × Value)} {st : List Value} {M : Mm} {post : Option Value → Mm → Prop} {a : Nat} {rt : FieldType} (k : Ok l E K cc own d nL) (t : Rt E K (some rt) post) (hrt : (∃ n, rt = .object n) ∨ ∃ t, rt = .array t) (hd : decode cc pc = .ok (.areturn, 1)) (h : post (some (.ref a)) M) : G l E K pc lv [.ref a] M := by
  obtain ⟨⟨p, e, R, s, m, args⟩, ⟨below, meth, c, cells, slots⟩, ⟨Q, A, nL'⟩⟩ := K
  obtain ⟨hx, hb, hml, hnl, hown, hts, hK, hA, hin, hfr, hlo, hce, hsl⟩ := id k
  obtain ⟨rfl, rfl, rfl, rfl, hr, hlocks⟩ := id t
  intro H locs ls hl hP hD hS
  exact W.aret hx hb hr hrt (Or.inr ⟨a, rfl⟩) (fun t ht hW => ⟨⟨some (.ref a), M, rfl, h, stw_end hP hK hD hA hS hin ht hW⟩, hS.F ht⟩) hS.2.2 hd hlocks
end
section
/-! calls -/
def CF (y : MethodName) (cc : ByteArray) (maxL : Nat) (ret : Option FieldType) (n : Nat) : Prop := Cond.code y cc maxL ret ∈ wsT ∧ Cond.initialized y.cls ∈ wsT ∧ maxL ≤ 41 ∧ (y.cls ≠ "java/lang/invoke/MethodHandle" ∧ y.cls ≠ "java/lang/invoke/VarHandle" ∧ (parseMethodDescriptor y.desc).map (fun d => d.parameters.length) = some n)
theorem cf_len {y : MethodName} {n : Nat} (h : (parseMethodDescriptor y.desc).map (fun d => d.parameters.length) = some n) : ∀ sig, parseMethodDescriptor y.desc = some sig → n = sig.parameters.length := fun sig e => by
  rw [e] at h
  exact (Option.some.inj h).symm
def pI (v : Int32) (M1 : Mm) : Option Value → Mm → Prop := fun r M' => r = some (.int v) ∧ M' = M1
def pL (v : Int64) (M1 : Mm) : Option Value → Mm → Prop := fun r M' => r = some (.long v) ∧ M' = M1
def pA (a : Nat) (M1 : Mm) : Option Value → Mm → Prop := fun r M' => r = some (.ref a) ∧ M' = M1
def pV (M1 : Mm) : Option Value → Mm → Prop := fun r M' => r = none ∧ M' = M1
def pB (P : Prop) (M1 : Mm) : Option Value → Mm → Prop := fun r M' => ((P ∧ r = some (.int 1)) ∨ (¬ P ∧ r = some (.int 0))) ∧ M' = M1
theorem pB1 {P : Prop} {M : Mm} (h : P) : pB P M (some (.int 1)) M := ⟨Or.inl ⟨h, rfl⟩, rfl⟩
theorem pB0 {P : Prop} {M : Mm} (h : ¬ P) : pB P M (some (.int 0)) M := ⟨Or.inr ⟨h, rfl⟩, rfl⟩
theorem ppI {l : Launch} {E : Ev} {K : Kt} {pc : Nat} {lv : List (Nat × Value)} {st : List Value} {v : Int32} {M1 : Mm} (h : G l E K pc lv (.int v :: st) M1) : ∀ r M', pI v M1 r M' → G l E K pc lv (r.toList ++ st) M' := fun r M' hp => by
  obtain ⟨rfl, rfl⟩ := hp
  exact h
theorem ppL {l : Launch} {E : Ev} {K : Kt} {pc : Nat} {lv : List (Nat × Value)} {st : List Value} {v : Int64} {M1 : Mm} (h : G l E K pc lv (.long v :: st) M1) : ∀ r M', pL v M1 r M' → G l E K pc lv (r.toList ++ st) M' := fun r M' hp => by
  obtain ⟨rfl, rfl⟩ := hp
  exact h
theorem ppA {l : Launch} {E : Ev} {K : Kt} {pc : Nat} {lv : List (Nat × Value)} {st : List Value} {v : Nat} {M1 : Mm} (h : G l E K pc lv (.ref v :: st) M1) : ∀ r M', pA v M1 r M' → G l E K pc lv (r.toList ++ st) M' := fun r M' hp => by
  obtain ⟨rfl, rfl⟩ := hp
  exact h
theorem ppV {l : Launch} {E : Ev} {K : Kt} {pc : Nat} {lv : List (Nat × Value)} {st : List Value} {M1 : Mm} (h : G l E K pc lv st M1) : ∀ r M', pV M1 r M' → G l E K pc lv (r.toList ++ st) M' := fun r M' hp => by
  obtain ⟨rfl, rfl⟩ := hp
  exact h
theorem ppB {l : Launch} {E : Ev} {K : Kt} {pc : Nat} {lv : List (Nat × Value)} {st : List Value} {P : Prop} {M1 : Mm} (h1 : P → G l E K pc lv (.int 1 :: st) M1) (h0 : ¬ P → G l E K pc lv (.int 0 :: st) M1) : ∀ r M', pB P M1 r M' → G l E K pc lv (r.toList ++ st) M' := fun r M' hp => by
  obtain ⟨h, rfl⟩ := hp
  rcases h with ⟨h, rfl⟩ | ⟨h, rfl⟩
  · exact h1 h
  · exact h0 h
theorem gs_callV {l : Launch} {E : Ev} {K : Kt} {cc : ByteArray} {own : String} {d nL pc : Nat} {lv : List (Nat × Value)} {st : List Value} {M : Mm} {y : MethodName} {bytes : ByteArray} {maxL : Nat} {ret : Option FieldType} {d' n index : Nat} {As stk : List Value} {post : Option Value → Mm → Prop} {k0 ci N : Nat} {T : u_T} {fs : List Value} (k : Ok l E K cc own d nL) (hC : Cm l E y bytes maxL ret d' (.ref (E.2.2.1 k0) :: As) M post) (cf : CF y bytes maxL ret n) (hi : Cond.instanceMethod y ∈ wsT) (hs : Cond.selects y.cls y y ∈ wsT) (hlink : Cond.methodLink own index y ∈ wsT) (hk : k0 ∈ E.2.1) (he : ent E.2.2.1 E.2.2.2.1 k0 (M k0) = .inr (ci, fs)) (hc : vwCl[ci]? = some (y.cls, T, N)) (hdd : d' < d) (hn : As.length = n) (hstk : stk = As.reverse ++ .ref (E.2.2.1 k0) :: st) (hroom : (st.map fun v => v.category).sum ≤ 8) (hd : decode cc pc = .ok (.invokevirtual index, 3)) (h : ∀ r M', post r M' → G l E K (pc + 3) lv (r.toList ++ st) M') : G l E K pc lv stk M := by
  obtain ⟨⟨p, e, R, s, m, args⟩, ⟨below, meth, c, cells, slots⟩, ⟨Q, A, nL'⟩⟩ := K
  obtain ⟨hx, hb, hml, hnl, hown, hts, hK, hA, hin, hfr, hlo, hce, hsl⟩ := id k
  subst hnl
  intro H locs ls hl hP hD hS
  subst hstk
  obtain ⟨c1, c2, c3, c4, c5, c6⟩ := cf
  obtain ⟨q, -, hq⟩ := wlist_get (M := M) hk
  rw [he] at hq
  have hrun := va_runV (p := p) (e := e) (R := R) (below := below) (meth := meth) (locs := locs) (cells := cells) (slots := slots) (As := As) (rest := st) (g := F0 m pc ls (As.reverse ++ .ref (E.2.2.1 k0) :: st)) (C := y.cls) (bytes := bytes) (maxL := maxL) (ret := ret) (n := n) (index := index) ⟨hx, hb, hml, hown, hts⟩ hC ⟨⟨rfl, rfl, Nat.le_trans hdd hfr, by show 8 + (maxL + 11) + 60 * d' ≤ R.locals; have := c3; omega, pay_in hts (ws_goodC c1), List.mem_cons_self, hts _ c1, hts _ c2, ⟨c4, c5⟩, cf_len c6, hts _ hlink⟩, hts _ hi, hts _ hs⟩ ⟨StW.blind, va_recv hK hP hc hq, fun U hU hW => ⟨rfl, stw_end hP hK hD hA hS hin hU hW⟩⟩ rfl hn hl.1 rfl (lv_room hroom) hd ⟨hce, hsl⟩
  intro Tt hT X
  obtain ⟨v, st₀, t, T', L, h0, X', hL, e1, e2, ⟨⟨r, M', hv, hp, hP', hK', hD', hA'⟩, hz, hkk⟩, stp⟩ := hrun Tt hT X
  cases hv
  rw [h0] at hz hkk
  have hD1 : va_D A (wlist E M') := ⟨hD'.1, fun k q hq => hin q.1 ((inW_A hD').2 k q hq)⟩
  have hS1 : va_S A s.heap T'.heap (locs ++ L) := ⟨Nat.le_trans hS.1 (by rw [e1]; exact hz), fun q h1 h2 => by rw [e1, hkk q (Nat.lt_of_lt_of_le h1 hS.1) (fun z => h2 (hin q z))]; exact hS.2.1 q h1 h2, fun q hq => by
    rcases List.mem_append.mp hq with h | h
    · exact hS.2.2 q h
    · exact hin _ (hL q h)⟩
  obtain ⟨t2, a1, b1⟩ := h v M' hp T'.heap (locs ++ L) ls hl (by rw [e1]; exact hP') hD1 hS1 T' rfl X'
  exact ⟨t2, stp t2 a1, b1⟩
theorem gs_callS {l : Launch} {E : Ev} {K : Kt} {cc : ByteArray} {own : String} {d nL pc : Nat} {lv : List (Nat × Value)} {st : List Value} {M : Mm} {y : MethodName} {bytes : ByteArray} {maxL : Nat} {ret : Option FieldType} {d' n index : Nat} {As stk : List Value} {post : Option Value → Mm → Prop} (k : Ok l E K cc own d nL) (hC : Cm l E y bytes maxL ret d' As M post) (cf : CF y bytes maxL ret n) (hs : Cond.static y ∈ wsT) (hlink : Cond.methodLink own index y ∈ wsT) (hdd : d' < d) (hn : As.length = n) (hstk : stk = As.reverse ++ st) (hroom : (st.map fun v => v.category).sum ≤ 8) (hd : decode cc pc = .ok (.invokestatic index, 3)) (h : ∀ r M', post r M' → G l E K (pc + 3) lv (r.toList ++ st) M') : G l E K pc lv stk M := by
  obtain ⟨⟨p, e, R, s, m, args⟩, ⟨below, meth, c, cells, slots⟩, ⟨Q, A, nL'⟩⟩ := K
  obtain ⟨hx, hb, hml, hnl, hown, hts, hK, hA, hin, hfr, hlo, hce, hsl⟩ := id k
  subst hnl
  intro H locs ls hl hP hD hS
  subst hstk
  obtain ⟨c1, c2, c3, c4, c5, c6⟩ := cf
  have hrun := va_runS (p := p) (e := e) (R := R) (below := below) (meth := meth) (locs := locs) (cells := cells) (slots := slots) (As := As) (rest := st) (g := F0 m pc ls (As.reverse ++ st)) (bytes := bytes) (maxL := maxL) (ret := ret) (n := n) (index := index) ⟨hx, hb, hml, hown, hts⟩ hC ⟨⟨rfl, rfl, Nat.le_trans hdd hfr, by show 8 + (maxL + 11) + 60 * d' ≤ R.locals; have := c3; omega, pay_in hts (ws_goodC c1), List.mem_cons_self, hts _ c1, hts _ c2, ⟨c4, c5⟩, cf_len c6, hts _ hlink⟩, hts _ hs⟩ ⟨StW.blind, fun U hU hW => ⟨rfl, stw_end hP hK hD hA hS hin hU hW⟩⟩ rfl hn hl.1 rfl (lv_room hroom) hd ⟨hce, hsl⟩
  intro Tt hT X
  obtain ⟨v, st₀, t, T', L, h0, X', hL, e1, e2, ⟨⟨r, M', hv, hp, hP', hK', hD', hA'⟩, hz, hkk⟩, stp⟩ := hrun Tt hT X
  cases hv
  rw [h0] at hz hkk
  have hD1 : va_D A (wlist E M') := ⟨hD'.1, fun k q hq => hin q.1 ((inW_A hD').2 k q hq)⟩
  have hS1 : va_S A s.heap T'.heap (locs ++ L) := ⟨Nat.le_trans hS.1 (by rw [e1]; exact hz), fun q h1 h2 => by rw [e1, hkk q (Nat.lt_of_lt_of_le h1 hS.1) (fun z => h2 (hin q z))]; exact hS.2.1 q h1 h2, fun q hq => by
    rcases List.mem_append.mp hq with h | h
    · exact hS.2.2 q h
    · exact hin _ (hL q h)⟩
  obtain ⟨t2, a1, b1⟩ := h v M' hp T'.heap (locs ++ L) ls hl (by rw [e1]; exact hP') hD1 hS1 T' rfl X'
  exact ⟨t2, stp t2 a1, b1⟩
theorem gs_callH3 {l : Launch} {E : Ev} {K : Kt} {cc : ByteArray} {d nL pc : Nat} {lv : List (Nat × Value)} {st : List Value} {M : Mm} {bytes : ByteArray} {maxL : Nat} {ret : Option FieldType} {d' n : Nat} {As stk : List Value} {post : Option Value → Mm → Prop} (k : Ok l E K cc RX3 d nL) (hC : Cm l E yX6_holds bytes maxL ret d' As M post) (cf : CF yX6_holds bytes maxL ret n) (hs : Cond.static yX6_holds ∈ wsT) (hdd : d' < d) (hn : As.length = n) (hstk : stk = As.reverse ++ st) (hroom : (st.map fun v => v.category).sum ≤ 8) (hd : decode cc pc = .ok (.invokestatic 35, 3)) (h : ∀ r M', post r M' → G l E K (pc + 3) lv (r.toList ++ st) M') : G l E K pc lv stk M := by
  obtain ⟨⟨p, e, R, s, m, args⟩, ⟨below, meth, c, cells, slots⟩, ⟨Q, A, nL'⟩⟩ := K
  obtain ⟨hx, hb, hml, hnl, hown, hts, hK, hA, hin, hfr, hlo, hce, hsl⟩ := id k
  subst hnl
  intro H locs ls hl hP hD hS
  subst hstk
  obtain ⟨c1, c2, c3, c4, c5, c6⟩ := cf
  have hrun := va_runSN (p := p) (e := e) (R := R) (below := below) (meth := meth) (locs := locs) (cells := cells) (slots := slots) (As := As) (rest := st) (g := F0 m pc ls (As.reverse ++ st)) (bytes := bytes) (maxL := maxL) (ret := ret) (n := n) (index := 35) (host := RX6) ⟨hx, hb, hml, hown, hts⟩ hC ⟨⟨⟨rfl, rfl, Nat.le_trans hdd hfr, by show 8 + (maxL + 11) + 60 * d' ≤ R.locals; have := c3; omega, pay_in hts (ws_goodC c1), List.mem_cons_self⟩, hts _ c1, hts _ c2, ⟨c4, c5⟩, cf_len c6, va_Nw.use rfl hA.1.1⟩, hts _ hs, trivial⟩ ⟨StW.blind, fun U hU hW => ⟨rfl, stw_end hP hK hD hA hS hin hU hW⟩⟩ rfl hn hl.1 rfl (lv_room hroom) hd ⟨hce, hsl⟩
  intro Tt hT X
  obtain ⟨v, st₀, t, T', L, h0, X', hL, e1, e2, ⟨⟨r, M', hv, hp, hP', hK', hD', hA'⟩, hz, hkk⟩, stp⟩ := hrun Tt hT X
  cases hv
  rw [h0] at hz hkk
  have hD1 : va_D A (wlist E M') := ⟨hD'.1, fun k q hq => hin q.1 ((inW_A hD').2 k q hq)⟩
  have hS1 : va_S A s.heap T'.heap (locs ++ L) := ⟨Nat.le_trans hS.1 (by rw [e1]; exact hz), fun q h1 h2 => by rw [e1, hkk q (Nat.lt_of_lt_of_le h1 hS.1) (fun z => h2 (hin q z))]; exact hS.2.1 q h1 h2, fun q hq => by
    rcases List.mem_append.mp hq with h | h
    · exact hS.2.2 q h
    · exact hin _ (hL q h)⟩
  obtain ⟨t2, a1, b1⟩ := h v M' hp T'.heap (locs ++ L) ls hl (by rw [e1]; exact hP') hD1 hS1 T' rfl X'
  exact ⟨t2, stp t2 a1, b1⟩
theorem gs_callH5 {l : Launch} {E : Ev} {K : Kt} {cc : ByteArray} {d nL pc : Nat} {lv : List (Nat × Value)} {st : List Value} {M : Mm} {bytes : ByteArray} {maxL : Nat} {ret : Option FieldType} {d' n : Nat} {As stk : List Value} {post : Option Value → Mm → Prop} (k : Ok l E K cc RX5 d nL) (hC : Cm l E yX6_holds bytes maxL ret d' As M post) (cf : CF yX6_holds bytes maxL ret n) (hs : Cond.static yX6_holds ∈ wsT) (hdd : d' < d) (hn : As.length = n) (hstk : stk = As.reverse ++ st) (hroom : (st.map fun v => v.category).sum ≤ 8) (hd : decode cc pc = .ok (.invokestatic 88, 3)) (h : ∀ r M', post r M' → G l E K (pc + 3) lv (r.toList ++ st) M') : G l E K pc lv stk M := by
  obtain ⟨⟨p, e, R, s, m, args⟩, ⟨below, meth, c, cells, slots⟩, ⟨Q, A, nL'⟩⟩ := K
  obtain ⟨hx, hb, hml, hnl, hown, hts, hK, hA, hin, hfr, hlo, hce, hsl⟩ := id k
  subst hnl
  intro H locs ls hl hP hD hS
  subst hstk
  obtain ⟨c1, c2, c3, c4, c5, c6⟩ := cf
  have hrun := va_runSN (p := p) (e := e) (R := R) (below := below) (meth := meth) (locs := locs) (cells := cells) (slots := slots) (As := As) (rest := st) (g := F0 m pc ls (As.reverse ++ st)) (bytes := bytes) (maxL := maxL) (ret := ret) (n := n) (index := 88) (host := RX6) ⟨hx, hb, hml, hown, hts⟩ hC ⟨⟨⟨rfl, rfl, Nat.le_trans hdd hfr, by show 8 + (maxL + 11) + 60 * d' ≤ R.locals; have := c3; omega, pay_in hts (ws_goodC c1), List.mem_cons_self⟩, hts _ c1, hts _ c2, ⟨c4, c5⟩, cf_len c6, va_Nw.use rfl hA.1.2⟩, hts _ hs, trivial⟩ ⟨StW.blind, fun U hU hW => ⟨rfl, stw_end hP hK hD hA hS hin hU hW⟩⟩ rfl hn hl.1 rfl (lv_room hroom) hd ⟨hce, hsl⟩
  intro Tt hT X
  obtain ⟨v, st₀, t, T', L, h0, X', hL, e1, e2, ⟨⟨r, M', hv, hp, hP', hK', hD', hA'⟩, hz, hkk⟩, stp⟩ := hrun Tt hT X
  cases hv
  rw [h0] at hz hkk
  have hD1 : va_D A (wlist E M') := ⟨hD'.1, fun k q hq => hin q.1 ((inW_A hD').2 k q hq)⟩
  have hS1 : va_S A s.heap T'.heap (locs ++ L) := ⟨Nat.le_trans hS.1 (by rw [e1]; exact hz), fun q h1 h2 => by rw [e1, hkk q (Nat.lt_of_lt_of_le h1 hS.1) (fun z => h2 (hin q z))]; exact hS.2.1 q h1 h2, fun q hq => by
    rcases List.mem_append.mp hq with h | h
    · exact hS.2.2 q h
    · exact hin _ (hL q h)⟩
  obtain ⟨t2, a1, b1⟩ := h v M' hp T'.heap (locs ++ L) ls hl (by rw [e1]; exact hP') hD1 hS1 T' rfl X'
  exact ⟨t2, stp t2 a1, b1⟩
def imin (x y : Int32) : Int32 := if y < x then y else x
def iabs (x : Int32) : Int32 := if 0 ≤ x then x else 0 - x
theorem gs_min {l : Launch} {E : Ev} {K : Kt} {cc : ByteArray} {own : String} {d nL pc : Nat} {lv : List (Nat × Value)} {st : List Value} {M : Mm} {index : Nat} {x y : Int32} (k : Ok l E K cc own d nL) (hlink : Cond.methodLink own index Lib.Math.min.name ∈ wsT) (h1 : 1 ≤ d) (hroom : (st.map fun v => v.category).sum ≤ 8) (hd : decode cc pc = .ok (.invokestatic index, 3)) (h : G l E K (pc + 3) lv (.int (imin x y) :: st) M) : G l E K pc lv (.int y :: .int x :: st) M := by
  obtain ⟨⟨p, e, R, s, m, args⟩, ⟨below, meth, c, cells, slots⟩, ⟨Q, A, nL'⟩⟩ := K
  obtain ⟨hx, hb, hml, hnl, hown, hts, hK, hA, hin, hfr, hlo, hce, hsl⟩ := id k
  subst hnl
  intro H locs ls hl hP hD hS
  exact va_mmin hx hb (hml.trans hl.1.symm) hown (hts _ hlink) (hts _ sm_Lib_Math_min) (hts _ iz_J9) (hts _ cd_Lib_Math_min) (by omega) (by omega) hce hsl hd (h H locs ls hl hP hD hS)
theorem gs_abs {l : Launch} {E : Ev} {K : Kt} {cc : ByteArray} {own : String} {d nL pc : Nat} {lv : List (Nat × Value)} {st : List Value} {M : Mm} {index : Nat} {x : Int32} (k : Ok l E K cc own d nL) (hlink : Cond.methodLink own index Lib.Math.abs.name ∈ wsT) (h1 : 1 ≤ d) (hroom : (st.map fun v => v.category).sum ≤ 8) (hd : decode cc pc = .ok (.invokestatic index, 3)) (h : G l E K (pc + 3) lv (.int (iabs x) :: st) M) : G l E K pc lv (.int x :: st) M := by
  obtain ⟨⟨p, e, R, s, m, args⟩, ⟨below, meth, c, cells, slots⟩, ⟨Q, A, nL'⟩⟩ := K
  obtain ⟨hx, hb, hml, hnl, hown, hts, hK, hA, hin, hfr, hlo, hce, hsl⟩ := id k
  subst hnl
  intro H locs ls hl hP hD hS
  exact va_mabs hx hb (hml.trans hl.1.symm) hown (hts _ hlink) (hts _ sm_Lib_Math_abs) (hts _ iz_J9) (hts _ cd_Lib_Math_abs) (by omega) (by omega) hce hsl hd (h H locs ls hl hP hD hS)
theorem nfw5 : nativeFrameWords "java/lang/System" "arraycopy" 5 ≤ 20 := by decide +kernel
theorem gs_copy {l : Launch} {E : Ev} {K : Kt} {cc : ByteArray} {own : String} {d nL pc : Nat} {lv : List (Nat × Value)} {st : List Value} {M : Mm} {index k0 k1 n0 n1 n : Nat} (k : Ok l E K cc own d nL) (hlink : Cond.methodLink own index arraycopyName ∈ wsT) (hk0 : k0 ∈ E.2.1) (he0 : ∀ r, ent E.2.2.1 E.2.2.2.1 k0 r = ai E.2.2.2.1 n0 r) (hk1 : k1 ∈ E.2.1) (he1 : ∀ r, ent E.2.2.1 E.2.2.2.1 k1 r = ai E.2.2.2.1 n1 r) (h1 : 1 ≤ d) (hn0 : n ≤ n0) (hn1 : n ≤ n1) (hn2 : n < 2 ^ 31) (hroom : (st.map fun v => v.category).sum ≤ 8) (hd : decode cc pc = .ok (.invokestatic index, 3)) (h : G l E K (pc + 3) lv st (rset M k1 (va_cpy (M k0) (M k1) 0 0 n))) : G l E K pc lv (.int (nI n) :: .int 0 :: .ref (E.2.2.1 k1) :: .int 0 :: .ref (E.2.2.1 k0) :: st) M := by
  obtain ⟨⟨p, e, R, s, m, args⟩, ⟨below, meth, c, cells, slots⟩, ⟨Q, A, nL'⟩⟩ := K
  obtain ⟨hx, hb, hml, hnl, hown, hts, hK, hA, hin, hfr, hlo, hce, hsl⟩ := id k
  subst hnl
  intro H locs ls hl hP hD hS
  obtain ⟨q0, hq00, hq0⟩ := wlist_get (M := M) hk0
  rw [he0] at hq0
  obtain ⟨q1, hq10, hq1⟩ := wlist_get (M := M) hk1
  rw [he1] at hq1
  have e := wlist_set (M := M) hD hq10 (he1 (va_cpy (M k0) (M k1) 0 0 n))
  have hc0 : (0 : Int32).toNatClampNeg = 0 := by decide
  have hw := nfw5
  refine va_copyi hx hb (hml.trans hl.1.symm) hown (hts _ hlink) (hts _ nm_arraycopyName) (hts _ sm_arraycopyName) (hts _ iz_J10) hK hP hD hS q0 q1 0 0 hq0 hq1 rfl rfl rfl (by decide) (by decide) (nI_pos hn2) (by rw [nI_clamp hn2, hc0]; omega) (by rw [nI_clamp hn2, hc0]; omega) (fun i _ => rfl) (by omega) (by omega) hd (fun H1 locs1 hP1 hD1 hS1 => ?_)
  rw [nI_clamp hn2, hc0] at hP1 hD1
  exact h H1 locs1 ls hl (by rw [← e]; exact hP1) (by rw [← e]; exact hD1) hS1
end
section
theorem ni_and (a b : Nat) : nI a &&& nI b = nI (a &&& b) := by
  apply Int32.toBitVec_inj.1
  show BitVec.ofNat 32 a &&& BitVec.ofNat 32 b = BitVec.ofNat 32 (a &&& b)
  apply BitVec.eq_of_getLsbD_eq
  intro i hi
  simp [hi]
theorem ni_or (a b : Nat) : nI a ||| nI b = nI (a ||| b) := by
  apply Int32.toBitVec_inj.1
  show BitVec.ofNat 32 a ||| BitVec.ofNat 32 b = BitVec.ofNat 32 (a ||| b)
  apply BitVec.eq_of_getLsbD_eq
  intro i hi
  simp [hi]
theorem ni_sm : ∀ n, n < 32 → ((nI n &&& 31).toBitVec.smod 32).toNat = n := by decide +kernel
theorem ni_shl {p : Nat} (h : p < 31) : (1 : Int32) <<< (nI p &&& 31) = nI (2 ^ p) := by
  have h2 : 2 ^ p < 2 ^ 31 := Nat.pow_lt_pow_right (by omega) h
  have e := pk_shlN (n := 1) (nI p &&& 31) p (ni_sm p (by omega)) (by omega)
  rw [Nat.one_mul] at e
  exact e
theorem ni_shr {n p : Nat} (h : n < 2 ^ 31) (hp : p < 32) : nI n >>> (nI p &&& 31) = nI (n / 2 ^ p) := pk_shrN h _ p (ni_sm p hp)
theorem ni_bit {n p : Nat} (h : n < 2 ^ 31) (hp : p < 32) : (nI n >>> (nI p &&& 31)) &&& nI 1 = nI (if n.testBit p then 1 else 0) := by
  rw [ni_shr h hp, ni_and, Nat.and_one_is_mod]
  have e : n.testBit p = decide (n / 2 ^ p % 2 = 1) := Nat.testBit_eq_decide_div_mod_eq
  by_cases c : n / 2 ^ p % 2 = 1
  · rw [e, decide_eq_true c, c]; rfl
  · rw [e, decide_eq_false c, show n / 2 ^ p % 2 = 0 by omega]; rfl
theorem rdn {M : Mm} {k j k' j' : Nat} {x v : Int32} (h : k' ≠ k) (e : M k' j' = v) : mw M k j x k' j' = v := by rw [mw_nk _ _ _ h]; exact e
theorem rdr {M : Mm} {k k' j' : Nat} {r : Nat → Int32} {v : Int32} (h : k' ≠ k) (e : M k' j' = v) : rset M k r k' j' = v := by rw [rset_ne _ _ h]; exact e
theorem mw_rset (M : Mm) (k j : Nat) (r : Nat → Int32) (x : Int32) : mw (rset M k r) k j x = rset M k (upd r j x) := by unfold mw; rw [rset_eq, rset_rset]

theorem gs_iaddN {l : Launch} {E : Ev} {K : Kt} {cc : ByteArray} {own : String} {d nL pc : Nat} {lv : List (Nat × Value)} {st : List Value} {M : Mm} {x y : Int32} {a b : Nat} (k : Ok l E K cc own d nL) (hx : x = nI a) (hy : y = nI b) (hd : decode cc pc = .ok (.iadd, 1)) (h : G l E K (pc + 1) lv (.int (nI (a + b)) :: st) M) : G l E K pc lv (.int y :: .int x :: st) M := by
  refine gs_iadd k hd ?_
  rw [hx, hy, nI_add]; exact h
theorem gs_isubN {l : Launch} {E : Ev} {K : Kt} {cc : ByteArray} {own : String} {d nL pc : Nat} {lv : List (Nat × Value)} {st : List Value} {M : Mm} {x y : Int32} {a b : Nat} (k : Ok l E K cc own d nL) (hx : x = nI a) (hy : y = nI b) (hle : b ≤ a) (hd : decode cc pc = .ok (.isub, 1)) (h : G l E K (pc + 1) lv (.int (nI (a - b)) :: st) M) : G l E K pc lv (.int y :: .int x :: st) M := by
  refine gs_isub k hd ?_
  rw [hx, hy, pk_sub hle]; exact h
theorem gs_imulN {l : Launch} {E : Ev} {K : Kt} {cc : ByteArray} {own : String} {d nL pc : Nat} {lv : List (Nat × Value)} {st : List Value} {M : Mm} {x y : Int32} {a b : Nat} (k : Ok l E K cc own d nL) (hx : x = nI a) (hy : y = nI b) (hd : decode cc pc = .ok (.imul, 1)) (h : G l E K (pc + 1) lv (.int (nI (a * b)) :: st) M) : G l E K pc lv (.int y :: .int x :: st) M := by
  refine gs_imul k hd ?_
  rw [hx, hy, pk_mul]; exact h
theorem gs_iandN {l : Launch} {E : Ev} {K : Kt} {cc : ByteArray} {own : String} {d nL pc : Nat} {lv : List (Nat × Value)} {st : List Value} {M : Mm} {x y : Int32} {a b : Nat} (k : Ok l E K cc own d nL) (hx : x = nI a) (hy : y = nI b) (hd : decode cc pc = .ok (.iand, 1)) (h : G l E K (pc + 1) lv (.int (nI (a &&& b)) :: st) M) : G l E K pc lv (.int y :: .int x :: st) M := by
  refine gs_iand k hd ?_
  rw [hx, hy, ni_and]; exact h
theorem gs_iorN {l : Launch} {E : Ev} {K : Kt} {cc : ByteArray} {own : String} {d nL pc : Nat} {lv : List (Nat × Value)} {st : List Value} {M : Mm} {x y : Int32} {a b : Nat} (k : Ok l E K cc own d nL) (hx : x = nI a) (hy : y = nI b) (hd : decode cc pc = .ok (.ior, 1)) (h : G l E K (pc + 1) lv (.int (nI (a ||| b)) :: st) M) : G l E K pc lv (.int y :: .int x :: st) M := by
  refine gs_ior k hd ?_
  rw [hx, hy, ni_or]; exact h
theorem gs_ishlN {l : Launch} {E : Ev} {K : Kt} {cc : ByteArray} {own : String} {d nL pc : Nat} {lv : List (Nat × Value)} {st : List Value} {M : Mm} {x y : Int32} {b : Nat} (k : Ok l E K cc own d nL) (hx : x = 1) (hy : y = nI b) (hb : b < 31) (hd : decode cc pc = .ok (.ishl, 1)) (h : G l E K (pc + 1) lv (.int (nI (2 ^ b)) :: st) M) : G l E K pc lv (.int y :: .int x :: st) M := by
  refine gs_ishl k hd ?_
  rw [hx, hy, ni_shl hb]; exact h
theorem gs_idivN {l : Launch} {E : Ev} {K : Kt} {cc : ByteArray} {own : String} {d nL pc : Nat} {lv : List (Nat × Value)} {st : List Value} {M : Mm} {x y : Int32} {a b : Nat} (k : Ok l E K cc own d nL) (hx : x = nI a) (hy : y = nI b) (ha : a < 2 ^ 31) (h0 : 0 < b) (hb : b < 2 ^ 31) (hd : decode cc pc = .ok (.idiv, 1)) (h : G l E K (pc + 1) lv (.int (nI (a / b)) :: st) M) : G l E K pc lv (.int y :: .int x :: st) M := by
  refine gs_idiv k (by rw [hy]; exact nI_ne0 h0 hb) hd ?_
  rw [hx, hy, pk_div ha h0 hb]; exact h
theorem gs_iremN {l : Launch} {E : Ev} {K : Kt} {cc : ByteArray} {own : String} {d nL pc : Nat} {lv : List (Nat × Value)} {st : List Value} {M : Mm} {x y : Int32} {a b : Nat} (k : Ok l E K cc own d nL) (hx : x = nI a) (hy : y = nI b) (ha : a < 2 ^ 31) (h0 : 0 < b) (hb : b < 2 ^ 31) (hd : decode cc pc = .ok (.irem, 1)) (h : G l E K (pc + 1) lv (.int (nI (a % b)) :: st) M) : G l E K pc lv (.int y :: .int x :: st) M := by
  refine gs_irem k (by rw [hy]; exact nI_ne0 h0 hb) hd ?_
  rw [hx, hy, pk_rem ha h0 hb]; exact h
theorem gs_iincN {l : Launch} {E : Ev} {K : Kt} {cc : ByteArray} {own : String} {d nL pc : Nat} {lv : List (Nat × Value)} {st : List Value} {M : Mm} {i q a c : Nat} {x : Int32} {lv' : List (Nat × Value)} (k : Ok l E K cc own d nL) (hq : lv[q]? = some (i, .int x)) (hx : x = nI a) (hn : i < nL) (hl' : (i, Value.int (nI (a + c))) :: lv.filter (fun q => !(q.1 == i) && !(q.1 + 1 == i && q.2.category == 2)) = lv') (hd : decode cc pc = .ok (.iinc i (c : Int), 3)) (h : G l E K (pc + 3) lv' st M) : G l E K pc lv st M := gs_iinc k hq (by rw [hx, ← nI_add]; rfl) hn hl' hd h
theorem gs_icmpN_eq {l : Launch} {E : Ev} {K : Kt} {cc : ByteArray} {own : String} {d nL pc : Nat} {lv : List (Nat × Value)} {st : List Value} {M : Mm} {x y : Int32} {a b : Nat} {off : Int} {tgt : Nat} (k : Ok l E K cc own d nL) (hx : x = nI a) (hy : y = nI b) (ha : a < 2 ^ 31) (hb : b < 2 ^ 31) (ht : (pc : Int) + off = (tgt : Int)) (hd : decode cc pc = .ok (.if_icmp .eq off, 3)) (kt : a = b → G l E K tgt lv st M) (kf : a ≠ b → G l E K (pc + 3) lv st M) : G l E K pc lv (.int y :: .int x :: st) M := by
  subst hx
  subst hy
  exact gs_icmp_eq k ht hd (fun z => kt ((nI_eq ha hb).mp z)) (fun z => kf (fun e => z ((nI_eq ha hb).mpr e)))
theorem gs_icmpN_ne {l : Launch} {E : Ev} {K : Kt} {cc : ByteArray} {own : String} {d nL pc : Nat} {lv : List (Nat × Value)} {st : List Value} {M : Mm} {x y : Int32} {a b : Nat} {off : Int} {tgt : Nat} (k : Ok l E K cc own d nL) (hx : x = nI a) (hy : y = nI b) (ha : a < 2 ^ 31) (hb : b < 2 ^ 31) (ht : (pc : Int) + off = (tgt : Int)) (hd : decode cc pc = .ok (.if_icmp .ne off, 3)) (kt : a ≠ b → G l E K tgt lv st M) (kf : a = b → G l E K (pc + 3) lv st M) : G l E K pc lv (.int y :: .int x :: st) M := by
  subst hx
  subst hy
  exact gs_icmp_ne k ht hd (fun z => kt (fun e => z ((nI_eq ha hb).mpr e))) (fun z => kf (Decidable.byContradiction fun e => z (fun w => e ((nI_eq ha hb).mp w))))
theorem gs_icmpN_lt {l : Launch} {E : Ev} {K : Kt} {cc : ByteArray} {own : String} {d nL pc : Nat} {lv : List (Nat × Value)} {st : List Value} {M : Mm} {x y : Int32} {a b : Nat} {off : Int} {tgt : Nat} (k : Ok l E K cc own d nL) (hx : x = nI a) (hy : y = nI b) (ha : a < 2 ^ 31) (hb : b < 2 ^ 31) (ht : (pc : Int) + off = (tgt : Int)) (hd : decode cc pc = .ok (.if_icmp .lt off, 3)) (kt : a < b → G l E K tgt lv st M) (kf : b ≤ a → G l E K (pc + 3) lv st M) : G l E K pc lv (.int y :: .int x :: st) M := by
  subst hx
  subst hy
  exact gs_icmp_lt k ht hd (fun z => kt ((nI_ltI ha hb).mp z)) (fun z => kf (Nat.le_of_not_lt fun e => z ((nI_ltI ha hb).mpr e)))
theorem gs_icmpN_ge {l : Launch} {E : Ev} {K : Kt} {cc : ByteArray} {own : String} {d nL pc : Nat} {lv : List (Nat × Value)} {st : List Value} {M : Mm} {x y : Int32} {a b : Nat} {off : Int} {tgt : Nat} (k : Ok l E K cc own d nL) (hx : x = nI a) (hy : y = nI b) (ha : a < 2 ^ 31) (hb : b < 2 ^ 31) (ht : (pc : Int) + off = (tgt : Int)) (hd : decode cc pc = .ok (.if_icmp .ge off, 3)) (kt : b ≤ a → G l E K tgt lv st M) (kf : a < b → G l E K (pc + 3) lv st M) : G l E K pc lv (.int y :: .int x :: st) M := by
  subst hx
  subst hy
  exact gs_icmp_ge k ht hd (fun z => kt ((nI_leI hb ha).mp z)) (fun z => kf (Nat.lt_of_not_le fun e => z ((nI_leI hb ha).mpr e)))
theorem gs_icmpN_gt {l : Launch} {E : Ev} {K : Kt} {cc : ByteArray} {own : String} {d nL pc : Nat} {lv : List (Nat × Value)} {st : List Value} {M : Mm} {x y : Int32} {a b : Nat} {off : Int} {tgt : Nat} (k : Ok l E K cc own d nL) (hx : x = nI a) (hy : y = nI b) (ha : a < 2 ^ 31) (hb : b < 2 ^ 31) (ht : (pc : Int) + off = (tgt : Int)) (hd : decode cc pc = .ok (.if_icmp .gt off, 3)) (kt : b < a → G l E K tgt lv st M) (kf : a ≤ b → G l E K (pc + 3) lv st M) : G l E K pc lv (.int y :: .int x :: st) M := by
  subst hx
  subst hy
  exact gs_icmp_gt k ht hd (fun z => kt ((nI_ltI hb ha).mp z)) (fun z => kf (Nat.le_of_not_lt fun e => z ((nI_ltI hb ha).mpr e)))
theorem gs_icmpN_le {l : Launch} {E : Ev} {K : Kt} {cc : ByteArray} {own : String} {d nL pc : Nat} {lv : List (Nat × Value)} {st : List Value} {M : Mm} {x y : Int32} {a b : Nat} {off : Int} {tgt : Nat} (k : Ok l E K cc own d nL) (hx : x = nI a) (hy : y = nI b) (ha : a < 2 ^ 31) (hb : b < 2 ^ 31) (ht : (pc : Int) + off = (tgt : Int)) (hd : decode cc pc = .ok (.if_icmp .le off, 3)) (kt : a ≤ b → G l E K tgt lv st M) (kf : b < a → G l E K (pc + 3) lv st M) : G l E K pc lv (.int y :: .int x :: st) M := by
  subst hx
  subst hy
  exact gs_icmp_le k ht hd (fun z => kt ((nI_leI ha hb).mp z)) (fun z => kf (Nat.lt_of_not_le fun e => z ((nI_leI ha hb).mpr e)))
theorem gs_ifN_eq {l : Launch} {E : Ev} {K : Kt} {cc : ByteArray} {own : String} {d nL pc : Nat} {lv : List (Nat × Value)} {st : List Value} {M : Mm} {x : Int32} {a : Nat} {off : Int} {tgt : Nat} (k : Ok l E K cc own d nL) (hx : x = nI a) (ha : a < 2 ^ 31) (ht : (pc : Int) + off = (tgt : Int)) (hd : decode cc pc = .ok (.ifCond .eq off, 3)) (kt : a = 0 → G l E K tgt lv st M) (kf : a ≠ 0 → G l E K (pc + 3) lv st M) : G l E K pc lv (.int x :: st) M := by
  subst hx
  have hb : 0 < 2 ^ 31 := by decide
  exact gs_if_eq k ht hd (fun z => kt ((nI_eq ha hb).mp z)) (fun z => kf (fun e => z ((nI_eq ha hb).mpr e)))
theorem gs_ifN_ne {l : Launch} {E : Ev} {K : Kt} {cc : ByteArray} {own : String} {d nL pc : Nat} {lv : List (Nat × Value)} {st : List Value} {M : Mm} {x : Int32} {a : Nat} {off : Int} {tgt : Nat} (k : Ok l E K cc own d nL) (hx : x = nI a) (ha : a < 2 ^ 31) (ht : (pc : Int) + off = (tgt : Int)) (hd : decode cc pc = .ok (.ifCond .ne off, 3)) (kt : a ≠ 0 → G l E K tgt lv st M) (kf : a = 0 → G l E K (pc + 3) lv st M) : G l E K pc lv (.int x :: st) M := by
  subst hx
  have hb : 0 < 2 ^ 31 := by decide
  exact gs_if_ne k ht hd (fun z => kt (fun e => z ((nI_eq ha hb).mpr e))) (fun z => kf (Decidable.byContradiction fun e => z (fun w => e ((nI_eq ha hb).mp w))))
theorem gs_ialdN {l : Launch} {E : Ev} {K : Kt} {cc : ByteArray} {own : String} {d nL pc : Nat} {lv : List (Nat × Value)} {st : List Value} {M : Mm} {k0 n e : Nat} {i : Int32} (k : Ok l E K cc own d nL) (hk : k0 ∈ E.2.1) (he : ∀ r, ent E.2.2.1 E.2.2.2.1 k0 r = ai E.2.2.2.1 n r) (hi : i = nI e) (hen : e < n) (hn : n < 2 ^ 31) (hd : decode cc pc = .ok (.iaload, 1)) (h : G l E K (pc + 1) lv (.int (M k0 e) :: st) M) : G l E K pc lv (.int i :: .ref (E.2.2.1 k0) :: st) M := by
  subst hi
  refine gs_iald k hk he (vp_in_nI hen hn) hd ?_
  rw [nI_clamp (by omega)]; exact h
theorem gs_baldN {l : Launch} {E : Ev} {K : Kt} {cc : ByteArray} {own : String} {d nL pc : Nat} {lv : List (Nat × Value)} {st : List Value} {M : Mm} {k0 n e : Nat} {i : Int32} (k : Ok l E K cc own d nL) (hk : k0 ∈ E.2.1) (he : ∀ r, ent E.2.2.1 E.2.2.2.1 k0 r = ab E.2.2.2.1 n r) (hi : i = nI e) (hen : e < n) (hn : n < 2 ^ 31) (hd : decode cc pc = .ok (.baload, 1)) (h : G l E K (pc + 1) lv (.int (M k0 e) :: st) M) : G l E K pc lv (.int i :: .ref (E.2.2.1 k0) :: st) M := by
  subst hi
  refine gs_bald k hk he (vp_in_nI hen hn) hd ?_
  rw [nI_clamp (by omega)]; exact h
theorem gs_iastN {l : Launch} {E : Ev} {K : Kt} {cc : ByteArray} {own : String} {d nL pc : Nat} {lv : List (Nat × Value)} {st : List Value} {M : Mm} {k0 n e : Nat} {i x : Int32} (k : Ok l E K cc own d nL) (hk : k0 ∈ E.2.1) (he : ∀ r, ent E.2.2.1 E.2.2.2.1 k0 r = ai E.2.2.2.1 n r) (hi : i = nI e) (hen : e < n) (hn : n < 2 ^ 31) (hd : decode cc pc = .ok (.iastore, 1)) (h : G l E K (pc + 1) lv st (mw M k0 e x)) : G l E K pc lv (.int x :: .int i :: .ref (E.2.2.1 k0) :: st) M := by
  subst hi
  refine gs_iast k hk he (vp_in_nI hen hn) hd ?_
  rw [nI_clamp (by omega)]; exact h
theorem gs_bastN {l : Launch} {E : Ev} {K : Kt} {cc : ByteArray} {own : String} {d nL pc : Nat} {lv : List (Nat × Value)} {st : List Value} {M : Mm} {k0 n e : Nat} {i x x' : Int32} (k : Ok l E K cc own d nL) (hk : k0 ∈ E.2.1) (he : ∀ r, ent E.2.2.1 E.2.2.2.1 k0 r = ab E.2.2.2.1 n r) (hi : i = nI e) (hen : e < n) (hn : n < 2 ^ 31) (hx' : vp_nar .byte x = x') (hd : decode cc pc = .ok (.bastore, 1)) (h : G l E K (pc + 1) lv st (mw M k0 e x')) : G l E K pc lv (.int x :: .int i :: .ref (E.2.2.1 k0) :: st) M := by
  subst hi
  refine gs_bast k hk he (vp_in_nI hen hn) hx' hd ?_
  rw [nI_clamp (by omega)]; exact h
theorem gs_aaldSN {l : Launch} {E : Ev} {K : Kt} {cc : ByteArray} {own : String} {d nL pc : Nat} {lv : List (Nat × Value)} {st : List Value} {M : Mm} {k0 n e a : Nat} {g : Nat → Option Nat} {i : Int32} (k : Ok l E K cc own d nL) (hk : k0 ∈ E.2.1) (he : ∀ r, ent E.2.2.1 E.2.2.2.1 k0 r = ag (E.2.2.2.1 2) n g) (hi : i = nI e) (hen : e < n) (hn : n < 2 ^ 31) (hg : g e = some a) (hd : decode cc pc = .ok (.aaload, 1)) (h : G l E K (pc + 1) lv (.ref a :: st) M) : G l E K pc lv (.int i :: .ref (E.2.2.1 k0) :: st) M := by
  subst hi
  exact gs_aaldS k hk he (vp_in_nI hen hn) (by rw [nI_clamp (by omega)]; exact hg) hd h
theorem gs_aaldNN {l : Launch} {E : Ev} {K : Kt} {cc : ByteArray} {own : String} {d nL pc : Nat} {lv : List (Nat × Value)} {st : List Value} {M : Mm} {k0 n e a : Nat} {g : Nat → Option Nat} {i : Int32} (k : Ok l E K cc own d nL) (hk : k0 ∈ E.2.1) (he : ∀ r, ent E.2.2.1 E.2.2.2.1 k0 r = ag (E.2.2.2.1 3) n g) (hi : i = nI e) (hen : e < n) (hn : n < 2 ^ 31) (hg : g e = some a) (hd : decode cc pc = .ok (.aaload, 1)) (h : G l E K (pc + 1) lv (.ref a :: st) M) : G l E K pc lv (.int i :: .ref (E.2.2.1 k0) :: st) M := by
  subst hi
  exact gs_aaldN k hk he (vp_in_nI hen hn) (by rw [nI_clamp (by omega)]; exact hg) hd h
theorem gs_aaldIN {l : Launch} {E : Ev} {K : Kt} {cc : ByteArray} {own : String} {d nL pc : Nat} {lv : List (Nat × Value)} {st : List Value} {M : Mm} {k0 n e a : Nat} {g : Nat → Option Nat} {i : Int32} (k : Ok l E K cc own d nL) (hk : k0 ∈ E.2.1) (he : ∀ r, ent E.2.2.1 E.2.2.2.1 k0 r = ag (E.2.2.2.1 4) n g) (hi : i = nI e) (hen : e < n) (hn : n < 2 ^ 31) (hg : g e = some a) (hd : decode cc pc = .ok (.aaload, 1)) (h : G l E K (pc + 1) lv (.ref a :: st) M) : G l E K pc lv (.int i :: .ref (E.2.2.1 k0) :: st) M := by
  subst hi
  exact gs_aaldI k hk he (vp_in_nI hen hn) (by rw [nI_clamp (by omega)]; exact hg) hd h
/-! loops: a state is carried up from i to N by f; a search that ends at the first B -/
def lp {σ : Type} (f : Nat → σ → σ) : Nat → Nat → σ → σ
  | 0, _, s => s
  | n + 1, i, s => lp f n (i + 1) (f i s)
theorem lp_end {σ : Type} (f : Nat → σ → σ) : ∀ (n i : Nat) (s : σ), lp f (n + 1) i s = f (i + n) (lp f n i s) := by
  intro n
  induction n with
  | zero => intro i s; rfl
  | succ n ih =>
    intro i s
    show lp f (n + 1) (i + 1) (f i s) = f (i + (n + 1)) (lp f n (i + 1) (f i s))
    rw [ih (i + 1) (f i s), show i + 1 + n = i + (n + 1) by omega]
theorem lp_congr {σ : Type} {f g : Nat → σ → σ} : ∀ (n i : Nat) (s : σ), (∀ j s, i ≤ j → j < i + n → f j s = g j s) → lp f n i s = lp g n i s := by
  intro n
  induction n with
  | zero => intro i s _; rfl
  | succ n ih =>
    intro i s h
    show lp f n (i + 1) (f i s) = lp g n (i + 1) (g i s)
    rw [h i s (Nat.le_refl _) (by omega), ih (i + 1) _ (fun j s h1 h2 => h j s (by omega) (by omega))]
theorem for_up {σ : Type} (F : Nat → σ → Prop) (f : Nat → σ → σ) (N : Nat) (hs : ∀ i s, i < N → (∀ s', s' = f i s → F (i + 1) s') → F i s) : ∀ (k i : Nat) (s : σ), i + k = N → F N (lp f k i s) → F i s := by
  intro k
  induction k with
  | zero => intro i s h hF; rw [show i = N by omega]; exact hF
  | succ k ih => intro i s h hF; exact hs i s (by omega) (fun s' e => ih (i + 1) s' (by omega) (by rw [e]; exact hF))
/-- with an invariant -/
theorem for_inv {σ : Type} (F : Nat → σ → Prop) (J : Nat → σ → Prop) (N : Nat) (hs : ∀ i s, i < N → J i s → (∀ s', J (i + 1) s' → F (i + 1) s') → F i s) (he : ∀ s, J N s → F N s) : ∀ (k i : Nat) (s : σ), i + k = N → J i s → F i s := by
  intro k
  induction k with
  | zero => intro i s h hJ; have e : i = N := by omega
            subst e; exact he s hJ
  | succ k ih => intro i s h hJ; exact hs i s (by omega) hJ (fun s' h' => ih (i + 1) s' (by omega) h')
theorem for_sr (F : Nat → Prop) (B : Nat → Prop) (N : Nat) (hs : ∀ i, i < N → (∀ j, j < i → ¬ B j) → (¬ B i → F (i + 1)) → F i) (he : (∀ j, j < N → ¬ B j) → F N) : ∀ (k i : Nat), i + k = N → (∀ j, j < i → ¬ B j) → F i := by
  intro k
  induction k with
  | zero => intro i h hB; have e : i = N := by omega
            subst e; exact he hB
  | succ k ih => intro i h hB; exact hs i (by omega) hB (fun hb => ih (i + 1) (by omega) (fun j hj => by
      rcases Nat.lt_or_ge j i with h1 | h1
      · exact hB j h1
      · rw [show j = i by omega]; exact hb))

theorem ent_F1 {ad : Nat → Nat} {cA : Nat → ClassId} {f : Nat} (hf : f < 6) (r : Nat → Int32) : ent ad cA (10 + 2 * f) r = .inr (3, [.int (r 0), .ref (ad (11 + 2 * f))]) :=
  match f, hf with
  | 0, _ => rfl
  | 1, _ => rfl
  | 2, _ => rfl
  | 3, _ => rfl
  | 4, _ => rfl
  | 5, _ => rfl
  | f + 6, h => absurd h (by omega)
theorem ent_V1 {ad : Nat → Nat} {cA : Nat → ClassId} {f : Nat} (hf : f < 6) (r : Nat → Int32) : ent ad cA (11 + 2 * f) r = ai cA 64 r :=
  match f, hf with
  | 0, _ => rfl
  | 1, _ => rfl
  | 2, _ => rfl
  | 3, _ => rfl
  | 4, _ => rfl
  | 5, _ => rfl
  | f + 6, h => absurd h (by omega)
theorem ent_F22 {ad : Nat → Nat} {cA : Nat → ClassId} {f : Nat} (hf : f < 6) (r : Nat → Int32) : ent ad cA (31 + 2 * f) r = .inr (3, [.int (r 0), .ref (ad (32 + 2 * f))]) :=
  match f, hf with
  | 0, _ => rfl
  | 1, _ => rfl
  | 2, _ => rfl
  | 3, _ => rfl
  | 4, _ => rfl
  | 5, _ => rfl
  | f + 6, h => absurd h (by omega)
theorem ent_V22 {ad : Nat → Nat} {cA : Nat → ClassId} {f : Nat} (hf : f < 6) (r : Nat → Int32) : ent ad cA (32 + 2 * f) r = ai cA 64 r :=
  match f, hf with
  | 0, _ => rfl
  | 1, _ => rfl
  | 2, _ => rfl
  | 3, _ => rfl
  | 4, _ => rfl
  | 5, _ => rfl
  | f + 6, h => absurd h (by omega)
theorem ent_L {ad : Nat → Nat} {cA : Nat → ClassId} {f : Nat} (hf : f < 4) (r : Nat → Int32) : ent ad cA (44 + 2 * f) r = .inr (0, [.int (r 0), .ref (ad (45 + 2 * f))]) :=
  match f, hf with
  | 0, _ => rfl
  | 1, _ => rfl
  | 2, _ => rfl
  | 3, _ => rfl
  | f + 4, h => absurd h (by omega)
theorem ent_LN {ad : Nat → Nat} {cA : Nat → ClassId} {f : Nat} (hf : f < 4) (r : Nat → Int32) : ent ad cA (45 + 2 * f) r = ai cA 64 r :=
  match f, hf with
  | 0, _ => rfl
  | 1, _ => rfl
  | 2, _ => rfl
  | 3, _ => rfl
  | f + 4, h => absurd h (by omega)
theorem ent_RV {ad : Nat → Nat} {cA : Nat → ClassId} {f : Nat} (hf : f < 6) (r : Nat → Int32) : ent ad cA (74 + f) r = ai cA 64 r :=
  match f, hf with
  | 0, _ => rfl
  | 1, _ => rfl
  | 2, _ => rfl
  | 3, _ => rfl
  | 4, _ => rfl
  | 5, _ => rfl
  | f + 6, h => absurd h (by omega)
theorem ent_RL {ad : Nat → Nat} {cA : Nat → ClassId} {f : Nat} (hf : f < 4) (r : Nat → Int32) : ent ad cA (89 + f) r = ai cA 64 r :=
  match f, hf with
  | 0, _ => rfl
  | 1, _ => rfl
  | 2, _ => rfl
  | 3, _ => rfl
  | f + 4, h => absurd h (by omega)
theorem ent_KR {ad : Nat → Nat} {cA : Nat → ClassId} {f : Nat} (hf : f < 7) (r : Nat → Int32) : ent ad cA (94 + f) r = ai cA 36 r :=
  match f, hf with
  | 0, _ => rfl
  | 1, _ => rfl
  | 2, _ => rfl
  | 3, _ => rfl
  | 4, _ => rfl
  | 5, _ => rfl
  | 6, _ => rfl
  | f + 7, h => absurd h (by omega)
theorem ent_KV {ad : Nat → Nat} {cA : Nat → ClassId} {f : Nat} (hf : f < 6) (r : Nat → Int32) : ent ad cA (102 + f) r = ai cA 64 r :=
  match f, hf with
  | 0, _ => rfl
  | 1, _ => rfl
  | 2, _ => rfl
  | 3, _ => rfl
  | 4, _ => rfl
  | 5, _ => rfl
  | f + 6, h => absurd h (by omega)
end
